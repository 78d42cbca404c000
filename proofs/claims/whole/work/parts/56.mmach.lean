/-- the reference's machine, followed through period n -/
def mMach (S : sS) (C : gSt) (n : Int) : Prop := (∀ j : Int, 0 ≤ j → j ≤ n → C 11 j = sSt S j.toNat) ∧ ∀ i j : Int, 0 ≤ i → i < sCnt S → 1 ≤ j → j ≤ n → C 12 (13 * i + j) = if sSet S i j then 1 else 0
theorem mMach.get {S : sS} {C : gSt} {n : Int} (h : mMach S C n) {i j e : Int} (he : e = 13 * i + j) (h0 : 0 ≤ i) (h1 : i < sCnt S) (h2 : 1 ≤ j) (h3 : j ≤ n) : C 12 e = if sSet S i j then 1 else 0 := he ▸ h.2 i j h0 h1 h2 h3
theorem mMach.kept {S : sS} {C C' : gSt} {n : Int} (h : mMach S C n) (h1 : C' 11 = C 11) (h2 : C' 12 = C 12) : mMach S C' n := by
  unfold mMach
  rw [h1, h2]
  exact h
theorem mRun.kept {S : sS} {C C' : gSt} {i n : Int} (h : mRun S i C n) (h1 : C' 10 = C 10) (h2 : C' 8 = C 8) (h3 : C' 9 = C 9) : mRun S i C' n := by
  unfold mRun
  rw [h1, h2, h3]
  exact h
theorem smL_add {f g : Int → Int} : ∀ n : Nat, smL (fun x => f x + g x) n = smL f n + smL g n
  | 0 => rfl
  | n + 1 => by
    show smL (fun x => f x + g x) n + (f n + g n) = smL f n + f n + (smL g n + g n)
    rw [smL_add n]
    omega
theorem smL_const0 : ∀ n : Nat, smL (fun _ => 0) n = 0
  | 0 => rfl
  | n + 1 => by show smL (fun _ => 0) n + 0 = 0; rw [smL_const0 n]; rfl
theorem smL_swap {f : Int → Int → Int} {m : Nat} : ∀ n : Nat, smL (fun i => smL (fun x => f i x) n) m = smL (fun x => smL (fun i => f i x) m) n
  | 0 => smL_const0 m
  | n + 1 => by
    show smL (fun i => smL (fun x => f i x) n + f i n) m = smL (fun x => smL (fun i => f i x) m) n + smL (fun i => f i n) m
    rw [smL_add, smL_swap n]
theorem smL_fun {f g : Int → Int} (h : f = g) (n : Nat) : smL f n = smL g n := by rw [h]
def mPrA (S : sS) (w i x : Int) : Int := if w = 0 ∨ w = 3 then sPr0p S (x + 1) i else 0
def mPrB (S : sS) (w i x : Int) : Int := if w = 1 ∨ w = 3 then sPr1p S i x else 0
def mPrI (S : sS) (w i : Int) : Int → Int := fun x => mPrA S w i x + mPrB S w i x
def mPrO (S : sS) (w : Int) : Int → Int := fun x => if w = 2 ∨ w = 3 then sOvr S 0 * sOver S (x + 1) else 0
def mPr (S : sS) (T w : Int) : Int := smL (mPrO S w) T.toNat + smL (fun i => smL (mPrI S w i) T.toNat) (sCnt S).toNat
theorem mPr_eq {S : sS} {T w : Int} (h0 : 0 ≤ w) (h3 : w ≤ 3) : mPr S T w = sPrice S T w := by
  have hA : smL (fun i => smL (fun x => mPrA S w i x) T.toNat) (sCnt S).toNat = if w = 0 ∨ w = 3 then sPr0 S T else 0 := by
    unfold mPrA
    split
    · unfold sPr0
      rw [smL_swap]
    · rw [smL_const0, smL_const0]
  have hB : smL (fun i => smL (fun x => mPrB S w i x) T.toNat) (sCnt S).toNat = if w = 1 ∨ w = 3 then sPr1 S T else 0 := by
    unfold mPrB
    split
    · rfl
    · rw [smL_const0, smL_const0]
  have hO : smL (mPrO S w) T.toNat = if w = 2 ∨ w = 3 then sPr2 S T else 0 := by
    unfold mPrO
    split
    · rfl
    · rw [smL_const0]
  have hI : smL (fun i => smL (mPrI S w i) T.toNat) (sCnt S).toNat = smL (fun i => smL (fun x => mPrA S w i x) T.toNat) (sCnt S).toNat + smL (fun i => smL (fun x => mPrB S w i x) T.toNat) (sCnt S).toNat := by
    rw [← smL_add]
    refine smL_fun ?_ _
    funext i
    exact smL_add _
  unfold mPr sPrice
  rw [hI, hA, hB, hO]
  rcases (show w = 0 ∨ w = 1 ∨ w = 2 ∨ w = 3 by omega) with h | h | h | h <;> subst h <;> simp <;> omega
theorem mPrI_b {S : sS} {T : Int} (h : sOk S T) (w i x : Int) (h0 : 0 ≤ x) (h1 : x < 12) : 0 ≤ mPrI S w i x ∧ mPrI S w i x ≤ 6510000 := by
  have a := sPr0p_b h i (x + 1)
  have b := sPr1p_b h i x h0 h1
  unfold mPrI mPrA mPrB
  split <;> split <;> omega
theorem mPrO_b {S : sS} {T : Int} (h : sOk S T) (w x : Int) : 0 ≤ mPrO S w x ∧ mPrO S w x ≤ 60120000 := by
  have a := sPr2p_b h (x + 1)
  unfold mPrO
  split <;> omega
theorem mPrIs_b {S : sS} {T : Int} (h : sOk S T) (w i : Int) (n : Nat) (hn : n ≤ 12) : 0 ≤ smL (mPrI S w i) n ∧ smL (mPrI S w i) n ≤ 78120000 := by
  have := smL_bb (l := mPrI S w i) (m := 6510000) (n := n) (fun j a b => mPrI_b h w i j a (by omega))
  omega
theorem mPrOs_b {S : sS} {T : Int} (h : sOk S T) (w : Int) (n : Nat) (hn : n ≤ 12) : 0 ≤ smL (mPrO S w) n ∧ smL (mPrO S w) n ≤ 721440000 := by
  have := smL_bb (l := mPrO S w) (m := 60120000) (n := n) (fun j a b => mPrO_b h w j)
  omega
theorem mPrN_b {S : sS} {T : Int} (h : sOk S T) (w : Int) (n m : Nat) (hn : n ≤ 6) (hm : m ≤ 12) : 0 ≤ smL (fun i => smL (mPrI S w i) m) n ∧ smL (fun i => smL (mPrI S w i) m) n ≤ 468720000 := by
  have := smL_bb (l := fun i => smL (mPrI S w i) m) (m := 78120000) (n := n) (fun j a b => mPrIs_b h w j m hm)
  omega
theorem iL_div {a b : Int} (ha : rL a) (ha2 : -9223372036854775807 ≤ a) (hb : rL b) : iL a / iL b = iL (a.tdiv b) := by
  rw [← iL_of (iL a / iL b)]
  have hne : iL a ≠ Int64.minValue := fun w => by
    have := congrArg Int64.toInt w
    rw [iL_t ha] at this
    have hm : Int64.minValue.toInt = -9223372036854775808 := by decide +kernel
    omega
  rw [Int64.toInt_div_of_ne_left _ _ hne, iL_t ha, iL_t hb]
section GGD
variable {K : gK} {B : gB} {C : gSt} {l : Launch} {R : Room} {nL : Nat} {cc : ByteArray} {own : String} {Ts : List Cond} {pc : Nat} {lv : gLv} {st : List Value}
theorem gg_ldiv (k : gOk K B l R nL cc own Ts) {a b : Int} (ha : rL a) (ha2 : -9223372036854775807 ≤ a) (hb0 : rL b) (hne : b ≠ 0) (hd : decode cc pc = .ok (.ldiv, 1)) (h : GG K B C (pc + 1) lv (.long (iL (a.tdiv b)) :: st)) : GG K B C pc lv (.long (iL b) :: .long (iL a) :: st) :=
  gg_go k (fun _ _ _ _ _ _ _ _ _ _ _ _ hx hb _ _ _ _ hw => lv_ldiv hx hb hd (fun w => hne (by
    have := congrArg Int64.toInt w
    rw [iL_t hb0] at this
    exact this)) (by rw [iL_div ha ha2 hb0]; exact hw)) h
end GGD
/-- what share answers, where its divisor isn't 0 -/
def sShare (S : sS) (T w b : Int) : Int := (1000 * sPrice S T w).tdiv (sPrice S T b)
theorem sShare_b {S : sS} {T : Int} (h : sOk S T) (w b : Int) : 0 ≤ sShare S T w b ∧ sShare S T w b ≤ 1200000000000 := by
  have h1 := sPrice_b h w
  have h2 := sPrice_b h b
  unfold sShare
  have h3 : (1000 * sPrice S T w).tdiv (sPrice S T b) ≤ 1000 * sPrice S T w := by
    rw [Int.tdiv_eq_ediv_of_nonneg (by omega)]
    exact Int.ediv_le_self _ (by omega)
  have h4 : 0 ≤ (1000 * sPrice S T w).tdiv (sPrice S T b) := Int.tdiv_nonneg (by omega) h2.1
  omega
