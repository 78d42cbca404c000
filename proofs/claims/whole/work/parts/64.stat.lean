/-! ===== static tables that nobody writes ===== -/
def gTb (K : gK) (n : String) (N : Nat) (f : Int → Int) (t : Nat) : Prop := match K with
  | (_, _, _, _, s, _, _, _, _, _, A, _, _) => va_Z "LotRules" n "[I" (.ref t) A s s.heap ∧ va_T .int t N (fun j : Nat => .int (iI (f j))) A s s.heap
def zTab (A : Nat → Prop) (n : String) (N : Nat) (f : Int → Int) (t : Nat) (U : State) : Prop := va_Z "LotRules" n "[I" (.ref t) A U U.heap ∧ va_T .int t N (fun j : Nat => .int (iI (f j))) A U U.heap
def gMiX (l : Launch) (B : gB) (y : MethodName) (ws : List Cond) (rm : Room) (As : List Value) (C : gSt) (n : String) (N : Nat) (f : Int → Int) (t : Nat) (post : Int → gSt → Prop) : Prop := ∀ sz : Nat, Met l y ws rm (va_Pc As (fun U => gPre B C sz U ∧ zTab (gA B sz) n N f t U)) (va_Qi (fun r C' => ∃ z, r = iI z ∧ rI z ∧ post z C') (gPost B sz) (gA B sz)) 0 0 (gA B sz)
section GGS
variable {K : gK} {B : gB} {C : gSt} {l : Launch} {R : Room} {nL : Nat} {cc : ByteArray} {own : String} {Ts : List Cond} {pc : Nat} {lv : gLv} {st : List Value}
theorem gMiX_of {y : MethodName} {ws ws' : List Cond} {rm : Room} {As : List Value} {n : String} {N : Nat} {f : Int → Int} {t : Nat} {post : Int → gSt → Prop} (hy : plainName y.cls = true) (hw : ws = Cond.code y cc nL (some .int) :: ws') (hn : (lg_sl As).length ≤ nL)
    (body : ∀ K : gK, gOk K B l rm nL cc y.cls ws → gTb K n N f t → gRi K B cc post → GG K B C 0 (lv_args 0 As) []) : gMiX l B y ws rm As C n N f t post := by
  intro sz
  refine Met.ofW (cc := cc) (maxL := nL) (ret := some .int) hy hw ?_
  intro p e s m args below meth c s₁ Bd hml hv
  obtain ⟨D, cl, tys, ad, cg, N⟩ := B
  obtain ⟨rfl, ⟨hsz, hP, hK, hD0⟩, hZ⟩ := hv
  have hlocks := Bd.notSynchronized
  have hD := gA_start (D := D) (cl := cl) (tys := tys) (sz := sz) hD0
  have hl := lv_entry As (n := nL) hn
  rw [lg_entry_eq]
  refine body (p, l, e, (headSpec ws rm).room, s, m, As.toArray, below, meth, c, gA (D, cl, tys, ad, cg, N) sz, _, nL) ⟨rfl, rfl, rfl, Bd.exec, Bd.bytes, hml, findClass_of_methodNamed Bd.named, atoms_spec (ws := ws) Bd.pre, hK, fun q h => Or.inr (by rw [← hsz]; exact h)⟩ hZ ?_ s.heap [] _ hP hD va_S.rf hl
  intro pc lv z C' hd hz hp H locs ls hP' hD' hS' hl'
  exact W.iret (v := iI z) Bd.exec Bd.bytes Bd.returns (fun t ht hW => ⟨⟨iI z, C', rfl, ⟨z, rfl, hz, hp⟩, by rw [ht]; exact hP', va_K.moved hW.alike hK, hD'⟩, hS'.F ht⟩) hS'.2.2 hd
theorem gg_gets (k : gOk K B l R nL cc own Ts) {n : String} {N idx : Nat} {f : Int → Int} {t : Nat} (ht : gTb K n N f t) (hm : Cond.fieldLink own idx "LotRules" n "[I" ∈ Ts) (hd : decode cc pc = .ok (.getstatic idx, 3)) (h : GG K B C (pc + 3) lv (.ref t :: st)) : GG K B C pc lv st := by
  obtain ⟨p, l', e', R', s, m, args, below, meth, c, A, Q, nL'⟩ := K
  obtain ⟨D, cl, tys, ad, cg, N'⟩ := B
  obtain ⟨rfl, rfl, rfl, hx, hb, hml, hown, hts, hK, hA⟩ := k
  intro H locs ls hP hD hS hl0
  exact va_gets hx hb ht.1 hS hown (hts _ hm) (fun _ h9 => h9) hd (h H locs ls hP hD hS hl0)
theorem gg_tald (k : gOk K B l R nL cc own Ts) {n : String} {N : Nat} {f : Int → Int} {t : Nat} (ht : gTb K n N f t) (hN : N < 2147483648) {e : Int} (h0 : 0 ≤ e) (h1 : e < (N : Int)) (hd : decode cc pc = .ok (.iaload, 1)) (h : GG K B C (pc + 1) lv (.int (iI (f e)) :: st)) : GG K B C pc lv (.int (iI e) :: .ref t :: st) := by
  obtain ⟨p, l', e', R', s, m, args, below, meth, c, A, Q, nL'⟩ := K
  obtain ⟨D, cl, tys, ad, cg, N'⟩ := B
  obtain ⟨rfl, rfl, rfl, hx, hb, hml, hown, hts, hK, hA⟩ := k
  intro H locs ls hP hD hS hl0
  refine va_ti hx hb ht.2 hS (iI_in h0 h1 hN) (v := .int (iI (f e))) ?_ hd (h H locs ls hP hD hS hl0)
  rw [iI_cl (by omega) h0, Int.toNat_of_nonneg h0]
end GGS
def sBndO (w : Int) : Int := if w = 0 then 100 else 10000
