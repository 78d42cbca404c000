/-! ===== PRICES ===== -/
theorem smL_s {l : Int → Int} {j : Int} (h : 0 ≤ j) : smL l (j + 1).toNat = smL l j.toNat + l j := by
  rw [show (j + 1).toNat = j.toNat + 1 by omega]
  show smL l j.toNat + l ((j.toNat : Nat) : Int) = _
  rw [Int.toNat_of_nonneg h]
def sPr0p (S : sS) (p : Int) : Int → Int := fun i => if sSet S i p then sNum S i 0 else 0
def sPr0 (S : sS) (T : Int) : Int := smL (fun x => smL (sPr0p S (x + 1)) (sCnt S).toNat) T.toNat
def sPr1p (S : sS) (i : Int) : Int → Int := fun x => sNum S i 1 * max 0 (sStk S i (x + 1).toNat)
def sPr1 (S : sS) (T : Int) : Int := smL (fun i => smL (sPr1p S i) T.toNat) (sCnt S).toNat
def sPr2 (S : sS) (T : Int) : Int := smL (fun x => sOvr S 0 * sOver S (x + 1)) T.toNat
def sPrice (S : sS) (T w : Int) : Int := if w = 0 then sPr0 S T else if w = 1 then sPr1 S T else if w = 2 then sPr2 S T else sPr0 S T + sPr1 S T + sPr2 S T
theorem smL_bb {l : Int → Int} {m : Int} {n : Nat} (h : ∀ j : Int, 0 ≤ j → j < n → 0 ≤ l j ∧ l j ≤ m) : 0 ≤ smL l n ∧ smL l n ≤ m * (n : Int) := ⟨smL_nn n (fun j a b => (h j a b).1), smL_le n (fun j a b => (h j a b).2)⟩
theorem sPr0p_b {S : sS} {T : Int} (h : sOk S T) (i p : Int) : 0 ≤ sPr0p S p i ∧ sPr0p S p i ≤ 10000 := by
  have := h.n0 i
  unfold sPr0p
  split <;> omega
theorem sPr0q_b {S : sS} {T : Int} (h : sOk S T) (p : Int) (n : Nat) : 0 ≤ smL (sPr0p S p) n ∧ smL (sPr0p S p) n ≤ 10000 * (n : Int) := smL_bb (fun j _ _ => sPr0p_b h j p)
theorem sPr1p_b {S : sS} {T : Int} (h : sOk S T) (i x : Int) (h0 : 0 ≤ x) (h1 : x < 12) : 0 ≤ sPr1p S i x ∧ sPr1p S i x ≤ 6500000 := by
  have a := h.n1 i
  have b := sStk_b h i (x + 1).toNat (by omega)
  unfold sPr1p
  have c : sNum S i 1 * max 0 (sStk S i (x + 1).toNat) ≤ 100 * 65000 := Int.mul_le_mul a.2 (by omega) (by omega) (by omega)
  exact ⟨Int.mul_nonneg a.1 (by omega), by omega⟩
theorem sPr1q_b {S : sS} {T : Int} (h : sOk S T) (i : Int) (n : Nat) (hn : n ≤ 12) : 0 ≤ smL (sPr1p S i) n ∧ smL (sPr1p S i) n ≤ 6500000 * (n : Int) := smL_bb (fun j a b => sPr1p_b h i j a (by omega))
theorem sPr2p_b {S : sS} {T : Int} (h : sOk S T) (x : Int) : 0 ≤ sOvr S 0 * sOver S x ∧ sOvr S 0 * sOver S x ≤ 60120000 := by
  have a := h.ovr0
  have b := sOver_b h x
  have c : sOvr S 0 * sOver S x ≤ 100 * 601200 := Int.mul_le_mul a.2 b.2 b.1 (by omega)
  exact ⟨Int.mul_nonneg a.1 b.1, by omega⟩
theorem sPr0_b {S : sS} {T : Int} (h : sOk S T) (n : Nat) (hn : n ≤ 12) : 0 ≤ smL (fun x => smL (sPr0p S (x + 1)) (sCnt S).toNat) n ∧ smL (fun x => smL (sPr0p S (x + 1)) (sCnt S).toNat) n ≤ 720000 := by
  have hc := h.cnt
  have := smL_bb (l := fun x => smL (sPr0p S (x + 1)) (sCnt S).toNat) (m := 60000) (n := n) (fun j _ _ => by have := sPr0q_b h (j + 1) (sCnt S).toNat; omega)
  omega
theorem sPr1_b {S : sS} {T : Int} (h : sOk S T) (n m : Nat) (hn : n ≤ 6) (hm : m ≤ 12) : 0 ≤ smL (fun i => smL (sPr1p S i) m) n ∧ smL (fun i => smL (sPr1p S i) m) n ≤ 468000000 := by
  have := smL_bb (l := fun i => smL (sPr1p S i) m) (m := 78000000) (n := n) (fun j _ _ => by have := sPr1q_b h j m hm; omega)
  omega
theorem sPr2_b {S : sS} {T : Int} (h : sOk S T) (n : Nat) (hn : n ≤ 12) : 0 ≤ smL (fun x => sOvr S 0 * sOver S (x + 1)) n ∧ smL (fun x => sOvr S 0 * sOver S (x + 1)) n ≤ 721440000 := by
  have := smL_bb (l := fun x => sOvr S 0 * sOver S (x + 1)) (m := 60120000) (n := n) (fun j _ _ => sPr2p_b h (j + 1))
  omega
theorem sPrice_b {S : sS} {T : Int} (h : sOk S T) (w : Int) : 0 ≤ sPrice S T w ∧ sPrice S T w ≤ 1200000000 := by
  have ht := h.t
  have hc := h.cnt
  have a := sPr0_b h T.toNat (by omega)
  have b := sPr1_b h (sCnt S).toNat T.toNat (by omega) (by omega)
  have c := sPr2_b h T.toNat (by omega)
  unfold sPrice sPr0 sPr1 sPr2
  split
  · omega
  · split
    · omega
    · split <;> omega
section GGT
variable {K : gK} {B : gB} {C : gSt} {l : Launch} {R : Room} {nL : Nat} {cc : ByteArray} {own : String} {Ts : List Cond} {pc : Nat} {lv : gLv} {st : List Value}
theorem gg_tsO (k : gOk K B l R nL cc own Ts) {z dflt lo hi : Int} {offs : Array Int} {len : Nat} (tgt : Nat) (hd : decode cc pc = .ok (.tableswitch dflt lo hi offs, len)) (ht : (pc : Int) + dflt = (tgt : Int)) (hz : rI z) (hs : z < lo ∨ hi < z) (h : GG K B C tgt lv st) : GG K B C pc lv (.int (iI z) :: st) :=
  gg_go k (fun _ _ _ _ _ _ _ _ _ _ _ _ hx hb _ _ _ _ hw => lv_tableOut hx hb hd (by rw [iI_t hz]; exact hs) ht hw) h
theorem gg_tsI (k : gOk K B l R nL cc own Ts) {z c dflt lo hi off : Int} {offs : Array Int} {len : Nat} (tgt : Nat) (hd : decode cc pc = .ok (.tableswitch dflt lo hi offs, len)) (hz : z = c) (hc : rI c) (h1 : lo ≤ c) (h2 : c ≤ hi) (ho : offs[(c - lo).toNat]? = some off) (ht : (pc : Int) + off = (tgt : Int)) (h : GG K B C tgt lv st) : GG K B C pc lv (.int (iI z) :: st) := by
  subst hz
  exact gg_go k (fun _ _ _ _ _ _ _ _ _ _ _ _ hx hb _ _ _ _ hw => lv_tableIn hx hb hd (by rw [iI_t hc]; omega) (by rw [iI_t hc]; omega) (by rw [iI_t hc]; exact ho) ht hw) h
end GGT
/-! ===== FAULTS ===== -/
abbrev fQ : Type := Int × Int × Int × Int
def fOw (S : sS) (p : Int) : Nat → List fQ
  | 0 => []
  | k + 1 => fOw S p k ++ (if 0 < (sRun S k p.toNat).2 then [(1, p, (k : Int), (sRun S k p.toNat).2)] else [])
def fLe (S : sS) (p : Int) : Nat → List fQ
  | 0 => []
  | k + 1 => fLe S p k ++ (if 0 < sLot S k p ∧ sLot S k p < sNum S k 2 then [(2, p, (k : Int), sNum S k 2 - sLot S k p)] else [])
def fOv (S : sS) (p : Int) : List fQ := if 0 < sOver S p - sOvr S 1 then [(3, p, -3, sOver S p - sOvr S 1)] else []
def fPer (S : sS) (p : Int) : List fQ := fOw S p (sCnt S).toNat ++ fLe S p (sCnt S).toNat ++ fOv S p
def fAll (S : sS) : Nat → List fQ
  | 0 => []
  | n + 1 => fAll S n ++ fPer S ((n : Int) + 1)
theorem fOw_s {S : sS} {p j : Int} (h : 0 ≤ j) : fOw S p (j + 1).toNat = fOw S p j.toNat ++ (if 0 < (sRun S j p.toNat).2 then [(1, p, j, (sRun S j p.toNat).2)] else []) := by
  rw [show (j + 1).toNat = j.toNat + 1 by omega]
  show _ ++ (if 0 < (sRun S ((j.toNat : Nat) : Int) p.toNat).2 then [(1, p, ((j.toNat : Nat) : Int), (sRun S ((j.toNat : Nat) : Int) p.toNat).2)] else []) = _
  rw [Int.toNat_of_nonneg h]
theorem fLe_s {S : sS} {p j : Int} (h : 0 ≤ j) : fLe S p (j + 1).toNat = fLe S p j.toNat ++ (if 0 < sLot S j p ∧ sLot S j p < sNum S j 2 then [(2, p, j, sNum S j 2 - sLot S j p)] else []) := by
  rw [show (j + 1).toNat = j.toNat + 1 by omega]
  show _ ++ (if 0 < sLot S ((j.toNat : Nat) : Int) p ∧ sLot S ((j.toNat : Nat) : Int) p < sNum S ((j.toNat : Nat) : Int) 2 then [(2, p, ((j.toNat : Nat) : Int), sNum S ((j.toNat : Nat) : Int) 2 - sLot S ((j.toNat : Nat) : Int) p)] else []) = _
  rw [Int.toNat_of_nonneg h]
theorem fAll_s {S : sS} {p : Int} (h : 1 ≤ p) : fAll S p.toNat = fAll S (p - 1).toNat ++ fPer S p := by
  rw [show p.toNat = (p - 1).toNat + 1 by omega]
  show fAll S (p - 1).toNat ++ fPer S (((p - 1).toNat : Nat) + 1 : Int) = _
  rw [show (((p - 1).toNat : Nat) : Int) + 1 = p by omega]
theorem fOw_l {S : sS} {p : Int} : ∀ n : Nat, (fOw S p n).length ≤ n
  | 0 => Nat.le_refl _
  | n + 1 => by
    have := fOw_l (S := S) (p := p) n
    unfold fOw
    split <;> simp <;> omega
theorem fLe_l {S : sS} {p : Int} : ∀ n : Nat, (fLe S p n).length ≤ n
  | 0 => Nat.le_refl _
  | n + 1 => by
    have := fLe_l (S := S) (p := p) n
    unfold fLe
    split <;> simp <;> omega
theorem fOv_l {S : sS} {p : Int} : (fOv S p).length ≤ 1 := by
  unfold fOv
  split <;> simp
theorem fAll_l {S : sS} {T : Int} (h : sOk S T) : ∀ n : Nat, (fAll S n).length ≤ 13 * n
  | 0 => Nat.le_refl _
  | n + 1 => by
    have hc := h.cnt
    have i1 := fAll_l h n
    have i2 := fOw_l (S := S) (p := (n : Int) + 1) (sCnt S).toNat
    have i3 := fLe_l (S := S) (p := (n : Int) + 1) (sCnt S).toNat
    have i4 := fOv_l (S := S) (p := (n : Int) + 1)
    show (fAll S n ++ (fOw S ((n : Int) + 1) (sCnt S).toNat ++ fLe S ((n : Int) + 1) (sCnt S).toNat ++ fOv S ((n : Int) + 1))).length ≤ _
    simp only [List.length_append]
    omega
/-- each number of a fault fits an int -/
def fRng (x : fQ) : Prop := rI x.1 ∧ rI x.2.1 ∧ rI x.2.2.1 ∧ rI x.2.2.2
theorem fAll_r {S : sS} {T : Int} (h : sOk S T) : ∀ n : Nat, n ≤ 12 → ∀ x ∈ fAll S n, fRng x
  | 0, _, x, hx => by cases hx
  | n + 1, hn, x, hx => by
    have hc := h.cnt
    rcases List.mem_append.mp hx with hx | hx
    · exact fAll_r h n (by omega) x hx
    · rcases List.mem_append.mp hx with hx | hx
      · rcases List.mem_append.mp hx with hx | hx
        · have key : ∀ k : Nat, k ≤ 6 → x ∈ fOw S ((n : Int) + 1) k → fRng x := by
            intro k
            induction k with
            | zero => intro _ w; cases w
            | succ k ih =>
              intro hk w
              rcases List.mem_append.mp w with w | w
              · exact ih (by omega) w
              · have hb := sRun_b h (k : Int) ((n : Int) + 1).toNat
                split at w
                · rw [List.mem_singleton.mp w]
                  exact ⟨⟨by omega, by omega⟩, ⟨by show -2147483648 ≤ (n : Int) + 1; omega, by show (n : Int) + 1 ≤ _; omega⟩, ⟨by show _ ≤ (k : Int); omega, by show (k : Int) ≤ _; omega⟩, ⟨by show _ ≤ (sRun S k ((n : Int) + 1).toNat).2; omega, by show (sRun S k ((n : Int) + 1).toNat).2 ≤ _; omega⟩⟩
                · cases w
          exact key _ (by omega) hx
        · have key : ∀ k : Nat, k ≤ 6 → x ∈ fLe S ((n : Int) + 1) k → fRng x := by
            intro k
            induction k with
            | zero => intro _ w; cases w
            | succ k ih =>
              intro hk w
              rcases List.mem_append.mp w with w | w
              · exact ih (by omega) w
              · have hb := h.lot k ((n : Int) + 1)
                have hb2 := h.n2 k
                split at w
                · rw [List.mem_singleton.mp w]
                  exact ⟨⟨by omega, by omega⟩, ⟨by show -2147483648 ≤ (n : Int) + 1; omega, by show (n : Int) + 1 ≤ _; omega⟩, ⟨by show _ ≤ (k : Int); omega, by show (k : Int) ≤ _; omega⟩, ⟨by show _ ≤ sNum S k 2 - sLot S k ((n : Int) + 1); omega, by show sNum S k 2 - sLot S k ((n : Int) + 1) ≤ _; omega⟩⟩
                · cases w
          exact key _ (by omega) hx
      · have hb := sOver_b h ((n : Int) + 1)
        have hb2 := h.ovr 1
        unfold fOv at hx
        split at hx
        · rw [List.mem_singleton.mp hx]
          exact ⟨⟨by omega, by omega⟩, ⟨by show -2147483648 ≤ (n : Int) + 1; omega, by show (n : Int) + 1 ≤ _; omega⟩, ⟨by show -2147483648 ≤ (-3 : Int); omega, by show (-3 : Int) ≤ _; omega⟩, ⟨by show _ ≤ sOver S ((n : Int) + 1) - sOvr S 1; omega, by show sOver S ((n : Int) + 1) - sOvr S 1 ≤ _; omega⟩⟩
        · cases hx
def cFl (C : gSt) (Lf : List fQ) : Prop := C 61 0 = (Lf.length : Int) ∧ ∀ (k : Nat) (x : fQ), Lf[k]? = some x → C 62 (4 * (k : Int)) = x.1 ∧ C 62 (4 * (k : Int) + 1) = x.2.1 ∧ C 62 (4 * (k : Int) + 2) = x.2.2.1 ∧ C 62 (4 * (k : Int) + 3) = x.2.2.2
theorem cFl.kept {C C' : gSt} {Lf : List fQ} (h : cFl C Lf) (h1 : C' 61 = C 61) (h2 : C' 62 = C 62) : cFl C' Lf := by
  unfold cFl
  rw [h1, h2]
  exact h
/-- what fault answers -/
def fComp (x : fQ) (w : Int) : Int := if w = 0 then x.1 else if w = 1 then x.2.1 else if w = 2 then x.2.2.1 else x.2.2.2
def sFault (S : sS) (T k w : Int) : Int := if 0 ≤ k ∧ k < ((fAll S T.toNat).length : Int) then (if 0 ≤ w ∧ w < 4 then fComp ((fAll S T.toNat).getD k.toNat (0, 0, 0, 0)) w else -2) else -1
