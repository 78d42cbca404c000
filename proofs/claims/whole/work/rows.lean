section
/-! ===== numbers of the machine as integers: iI z, iL z; every int on the stack is 'iI z' with z an Int, every long 'iL z' ===== -/
def iI (z : Int) : Int32 := Int32.ofInt z
def iL (z : Int) : Int64 := Int64.ofInt z
def rI (z : Int) : Prop := -2147483648 ≤ z ∧ z ≤ 2147483647
def rL (z : Int) : Prop := -9223372036854775808 ≤ z ∧ z ≤ 9223372036854775807
theorem iI_add (a b : Int) : iI a + iI b = iI (a + b) := (Int32.ofInt_add a b).symm
theorem iI_sub (a b : Int) : iI a - iI b = iI (a - b) := (Int32.ofInt_sub a b).symm
theorem iI_mul (a b : Int) : iI a * iI b = iI (a * b) := (Int32.ofInt_mul a b).symm
theorem iI_neg (a : Int) : -iI a = iI (-a) := (Int32.ofInt_neg a).symm
theorem iL_add (a b : Int) : iL a + iL b = iL (a + b) := (Int64.ofInt_add a b).symm
theorem iL_sub (a b : Int) : iL a - iL b = iL (a - b) := (Int64.ofInt_sub a b).symm
theorem iL_mul (a b : Int) : iL a * iL b = iL (a * b) := (Int64.ofInt_mul a b).symm
theorem iL_neg (a : Int) : -iL a = iL (-a) := (Int64.ofInt_neg a).symm
theorem iI_t {z : Int} (h : rI z) : (iI z).toInt = z := by
  obtain ⟨h1, h2⟩ := h
  exact Int32.toInt_ofInt_of_le (by omega) (by omega)
theorem iL_t {z : Int} (h : rL z) : (iL z).toInt = z := by
  obtain ⟨h1, h2⟩ := h
  exact Int64.toInt_ofInt_of_le (by omega) (by omega)
theorem iI_eq {a b : Int} (ha : rI a) (hb : rI b) : iI a = iI b ↔ a = b := ⟨fun h => by rw [← iI_t ha, ← iI_t hb, h], fun h => by rw [h]⟩
theorem iL_eq {a b : Int} (ha : rL a) (hb : rL b) : iL a = iL b ↔ a = b := ⟨fun h => by rw [← iL_t ha, ← iL_t hb, h], fun h => by rw [h]⟩
theorem iI_lt {a b : Int} (ha : rI a) (hb : rI b) : iI a < iI b ↔ a < b := by rw [Int32.lt_iff_toInt_lt, iI_t ha, iI_t hb]
theorem iI_le {a b : Int} (ha : rI a) (hb : rI b) : iI a ≤ iI b ↔ a ≤ b := by rw [Int32.le_iff_toInt_le, iI_t ha, iI_t hb]
theorem iL_lt {a b : Int} (ha : rL a) (hb : rL b) : iL a < iL b ↔ a < b := by rw [Int64.lt_iff_toInt_lt, iL_t ha, iL_t hb]
theorem iL_le {a b : Int} (ha : rL a) (hb : rL b) : iL a ≤ iL b ↔ a ≤ b := by rw [Int64.le_iff_toInt_le, iL_t ha, iL_t hb]
theorem iI_of (x : Int32) : iI x.toInt = x := Int32.ofInt_toInt x
theorem iL_of (x : Int64) : iL x.toInt = x := Int64.ofInt_toInt x
theorem rI_of (x : Int32) : rI x.toInt := by
  have h1 := x.le_toInt
  have h2 := x.toInt_lt
  constructor <;> omega
theorem rL_of (x : Int64) : rL x.toInt := by
  have h1 := x.le_toInt
  have h2 := x.toInt_lt
  constructor <;> omega
theorem iI_0 : iI 0 = 0 := by decide +kernel
theorem rI_0 : rI 0 := by constructor <;> omega
theorem iI_i2l {z : Int} (h : rI z) : (iI z).toInt64 = iL z := by
  show Int64.ofInt (iI z).toInt = _
  rw [iI_t h]
  rfl
theorem iL_l2i (z : Int) : (iL z).toInt32 = iI z := Int64.toInt32_ofInt
theorem iI_cl {z : Int} (h : z ≤ 2147483647) (h0 : 0 ≤ z) : (iI z).toNatClampNeg = z.toNat := Int32.toNatClampNeg_ofInt_of_le (by omega) (by omega)
theorem iI_in {z : Int} {n : Nat} (h0 : 0 ≤ z) (h : z < (n : Int)) (hn : n < 2147483648) : vp_in (iI z) n := by
  rw [vp_in_iff, iI_t ⟨by omega, by omega⟩]
  exact ⟨h0, h⟩
theorem iI_nI (n : Nat) : iI (n : Int) = nI n := Int32.ofInt_eq_ofNat
theorem iI_nat (n : Nat) : Int32.ofNat n = iI (n : Int) := Int32.ofInt_eq_ofNat.symm
end
section
/-! ===== one world of cells that is never reshaped: cell k stands at 'ad k', its contents are 'C k' (an Int for each place); a walk is said over (C, pc, locals, stack) alone ===== -/
abbrev gSt : Type := Nat → Int → Int
abbrev gCg : Type := Nat → (Int → Int) → va_E
abbrev gLv : Type := List (Nat × Value)
def gw (ad : Nat → Nat) (cg : gCg) (N : Nat) (C : gSt) : va_W := (List.range N).map (fun k => (ad k, cg k (C k)))
theorem gw_len {ad : Nat → Nat} {cg : gCg} {N : Nat} {C : gSt} : (gw ad cg N C).length = N := by simp [gw]
theorem gw_at {ad : Nat → Nat} {cg : gCg} {N k : Nat} {C : gSt} (hk : k < N) : (gw ad cg N C)[k]? = some (ad k, cg k (C k)) := by
  unfold gw
  rw [List.getElem?_map, List.getElem?_range hk]
  rfl
theorem gw_in {ad : Nat → Nat} {cg : gCg} {N k : Nat} {C : gSt} {q : Nat × va_E} (h : (gw ad cg N C)[k]? = some q) : k < N ∧ q = (ad k, cg k (C k)) := by
  have hl : k < N := by
    have := (List.getElem?_eq_some_iff.mp h).1
    rwa [gw_len] at this
  rw [gw_at hl] at h
  exact ⟨hl, (Option.some.inj h).symm⟩
theorem gw_set {ad : Nat → Nat} {cg : gCg} {N k : Nat} {C C' : gSt} (hk : k < N) {e : va_E} (h1 : cg k (C' k) = e) (h2 : ∀ j, j ≠ k → C' j = C j) : (gw ad cg N C).set k (ad k, e) = gw ad cg N C' := by
  apply List.ext_getElem?
  intro i
  by_cases hi : i = k
  · subst hi
    rw [List.getElem?_set_self (by rw [gw_len]; exact hk), gw_at hk, h1]
  · rw [List.getElem?_set_ne (Ne.symm hi)]
    by_cases hN : i < N
    · rw [gw_at hN, gw_at hN, h2 i hi]
    · rw [List.getElem?_eq_none (by rw [gw_len]; omega), List.getElem?_eq_none (by rw [gw_len]; omega)]
def wr (C : gSt) (k : Nat) (e v : Int) : gSt := fun k' j => if k' = k ∧ j = e then v else C k' j
theorem wr_s (C : gSt) (k : Nat) (e v : Int) : wr C k e v k e = v := by simp [wr]
theorem wr_k {C : gSt} {k k' : Nat} {e v : Int} (h : k' ≠ k) : wr C k e v k' = C k' := by funext j; simp [wr, h]
theorem wr_j {C : gSt} {k k' : Nat} {e v j : Int} (h : j ≠ e) : wr C k e v k' j = C k' j := by simp [wr, h]
theorem wr_w {C : gSt} {k : Nat} {e v j : Int} : wr C k e v k j = if j = e then v else C k j := by simp [wr]
/-- tables' names: (dC, dI), classes, array classes, addresses, cells' shapes, how many -/
abbrev gB : Type := va_G × List vw_C × List (ClassId × FieldType) × (Nat → Nat) × gCg × Nat
def gad (B : gB) : Nat → Nat := B.2.2.2.1
def gIA (B : gB) (q n : Nat) : Prop := q < B.2.2.2.2.2 ∧ n < 2147483648 ∧ ∃ (cA : ClassId) (t0 : Nat), B.2.2.1[t0]? = some (cA, .int) ∧ ∀ f : Int → Int, B.2.2.2.2.1 q f = .inl (cA, n, .inl (fun j : Nat => iI (f j)))
def gZA (B : gB) (q n : Nat) : Prop := q < B.2.2.2.2.2 ∧ n < 2147483648 ∧ ∃ (cA : ClassId) (t0 : Nat), B.2.2.1[t0]? = some (cA, .boolean) ∧ ∀ f : Int → Int, B.2.2.2.2.1 q f = .inl (cA, n, .inl (fun j : Nat => iI (f j)))
def gLA (B : gB) (q n : Nat) : Prop := q < B.2.2.2.2.2 ∧ n < 2147483648 ∧ ∃ (cA : ClassId) (t0 : Nat), B.2.2.1[t0]? = some (cA, .long) ∧ ∀ f : Int → Int, B.2.2.2.2.1 q f = .inl (cA, n, .inr (.inl (fun j : Nat => iL (f j))))
def gQA (B : gB) (q n : Nat) (g : Nat → Nat) : Prop := q < B.2.2.2.2.2 ∧ n < 2147483648 ∧ ∃ (cA : ClassId) (t0 : Nat) (Cn : String), B.2.2.1[t0]? = some (cA, .object Cn) ∧ ∀ f : Int → Int, B.2.2.2.2.1 q f = .inl (cA, n, .inr (.inr (.inr (.inr (fun j : Nat => some (gad B (g j)))))))
def gOB (B : gB) (q : Nat) (Cn : String) (T : u_T) (Nf : Nat) (fs : (Int → Int) → List Value) : Prop := q < B.2.2.2.2.2 ∧ ∃ ci : Nat, B.2.1[ci]? = some (Cn, T, Nf) ∧ ∀ f : Int → Int, B.2.2.2.2.1 q f = .inr (ci, fs f)
abbrev gK : Type := Program × Launch × Env × Room × State × MethodId × Array Value × List Frame × Method × Code × (Nat → Prop) × (State → Prop) × Nat
def GG (K : gK) (B : gB) (C : gSt) (pc : Nat) (lv : gLv) (st : List Value) : Prop := match K, B with
  | (p, l, e, R, s, m, args, below, meth, c, A, Q, nL), (D, cl, _, ad, cg, N) => ∀ (H : Heap) (locs : List Loc) (ls : Array Slot), va_P D cl (gw ad cg N C) H → va_D A (gw ad cg N C) → va_S A s.heap H locs → lv_has ls nL lv → W p l e R s m args below meth c H locs 0 0 Q (F0 m pc ls st)
def gOk (K : gK) (B : gB) (l : Launch) (R : Room) (nL : Nat) (cc : ByteArray) (own : String) (Ts : List Cond) : Prop := match K, B with
  | (p, l', _, R', s, m, args, _, _, c, A, _, nL'), (D, cl, tys, _, _, _) => l' = l ∧ R' = R ∧ nL' = nL ∧ p.tables.exec = Jvm.exec ∧ c.code = cc ∧ c.maxLocals = nL ∧ s.vm.findClass own = some m.cls ∧ (∀ w ∈ Ts, w.before args s = true) ∧ va_K D cl tys s ∧ ∀ q, s.heap.size ≤ q → A q
def lvg : gLv → Nat → Option Value
  | [], _ => none
  | (j, v) :: r, i => if j = i then some v else lvg r i
theorem lvg_in : ∀ {lv : gLv} {i : Nat} {v : Value}, lvg lv i = some v → (i, v) ∈ lv
  | [], _, _, h => by simp [lvg] at h
  | (j, w) :: r, i, v, h => by
    unfold lvg at h
    by_cases hj : j = i
    · rw [if_pos hj] at h
      cases h
      rw [hj]
      exact List.mem_cons_self
    · rw [if_neg hj] at h
      exact List.mem_cons_of_mem _ (lvg_in h)
theorem lvg_at {ls : Array Slot} {nL i : Nat} {lv : gLv} {v : Value} (h : lv_has ls nL lv) (hg : lvg lv i = some v) : ls[i]? = some (.val v) := h.2.2 (i, v) (lvg_in hg)
section GG1
variable {K : gK} {B : gB} {C : gSt} {l : Launch} {R : Room} {nL : Nat} {cc : ByteArray} {own : String} {Ts : List Cond} {pc : Nat} {lv : gLv} {st : List Value}
/-- a row that touches the stack and the place alone -/
theorem gg_go (k : gOk K B l R nL cc own Ts) {pc2 : Nat} {st2 : List Value} (hrow : ∀ (p : Program) (e : Env) (s : State) (m : MethodId) (args : Array Value) (below : List Frame) (meth : Method) (c : Code) (H : Heap) (locs : List Loc) (Q : State → Prop) (ls : Array Slot), p.tables.exec = Jvm.exec → c.code = cc → s.vm.findClass own = some m.cls → (∀ w ∈ Ts, w.before args s = true) → c.maxLocals = ls.size → lv_has ls nL lv → W p l e R s m args below meth c H locs 0 0 Q (F0 m pc2 ls st2) → W p l e R s m args below meth c H locs 0 0 Q (F0 m pc ls st))
    (h : GG K B C pc2 lv st2) : GG K B C pc lv st := by
  obtain ⟨p, l', e, R', s, m, args, below, meth, c, A, Q, nL'⟩ := K
  obtain ⟨D, cl, tys, ad, cg, N⟩ := B
  obtain ⟨rfl, rfl, rfl, hx, hb, hml, hown, hts, hK, hA⟩ := k
  intro H locs ls hP hD hS hl
  exact hrow p e s m args below meth c H locs Q ls hx hb hown hts (hml.trans hl.1.symm) hl (h H locs ls hP hD hS hl)
/-- a row that branches -/
theorem gg_br (k : gOk K B l R nL cc own Ts) {pt pf : Nat} {st2 : List Value} {P : Prop} (hrow : ∀ (p : Program) (e : Env) (s : State) (m : MethodId) (args : Array Value) (below : List Frame) (meth : Method) (c : Code) (H : Heap) (locs : List Loc) (Q : State → Prop) (ls : Array Slot), p.tables.exec = Jvm.exec → c.code = cc → (P → W p l e R s m args below meth c H locs 0 0 Q (F0 m pt ls st2)) → (¬ P → W p l e R s m args below meth c H locs 0 0 Q (F0 m pf ls st2)) → W p l e R s m args below meth c H locs 0 0 Q (F0 m pc ls st))
    (h1 : P → GG K B C pt lv st2) (h2 : ¬ P → GG K B C pf lv st2) : GG K B C pc lv st := by
  obtain ⟨p, l', e, R', s, m, args, below, meth, c, A, Q, nL'⟩ := K
  obtain ⟨D, cl, tys, ad, cg, N⟩ := B
  obtain ⟨rfl, rfl, rfl, hx, hb, hml, hown, hts, hK, hA⟩ := k
  intro H locs ls hP hD hS hl
  exact hrow p e s m args below meth c H locs Q ls hx hb (fun q => h1 q H locs ls hP hD hS hl) (fun q => h2 q H locs ls hP hD hS hl)
theorem gg_sub {lv' : gLv} (ks : List Nat) (hs : lv_pick lv ks = lv') (h : GG K B C pc lv' st) : GG K B C pc lv st := by
  obtain ⟨p, l', e, R', s, m, args, below, meth, c, A, Q, nL'⟩ := K
  obtain ⟨D, cl, tys, ad, cg, N⟩ := B
  intro H locs ls hP hD hS hl
  exact h H locs ls hP hD hS (lv_sub hl ks hs)
theorem gg_ct {C' : gSt} (hC : C = C') (h : GG K B C' pc lv st) : GG K B C pc lv st := hC ▸ h
theorem gg_st {st' : List Value} (hC : st = st') (h : GG K B C pc lv st') : GG K B C pc lv st := hC ▸ h
theorem gg_iconst (k : gOk K B l R nL cc own Ts) {n : Int} (hd : decode cc pc = .ok (.iconst n, 1)) (h : GG K B C (pc + 1) lv (.int (iI n) :: st)) : GG K B C pc lv st :=
  gg_go k (fun _ _ _ _ _ _ _ _ _ _ _ _ hx hb _ _ _ _ hw => lv_iconst hx hb hd rfl hw) h
theorem gg_bipush (k : gOk K B l R nL cc own Ts) {n : Int} (hd : decode cc pc = .ok (.bipush n, 2)) (hv : (Int8.ofInt n).toInt32 = iI n) (h : GG K B C (pc + 2) lv (.int (iI n) :: st)) : GG K B C pc lv st :=
  gg_go k (fun _ _ _ _ _ _ _ _ _ _ _ _ hx hb _ _ _ _ hw => lv_bipush hx hb hd hv hw) h
theorem gg_sipush (k : gOk K B l R nL cc own Ts) {n : Int} (hd : decode cc pc = .ok (.sipush n, 3)) (hv : (Int16.ofInt n).toInt32 = iI n) (h : GG K B C (pc + 3) lv (.int (iI n) :: st)) : GG K B C pc lv st :=
  gg_go k (fun _ _ _ _ _ _ _ _ _ _ _ _ hx hb _ _ _ _ hw => lv_sipush hx hb hd hv hw) h
theorem gg_lconst0 (k : gOk K B l R nL cc own Ts) (hd : decode cc pc = .ok (.lconst 0, 1)) (h : GG K B C (pc + 1) lv (.long (iL 0) :: st)) : GG K B C pc lv st :=
  gg_go k (fun _ _ _ _ _ _ _ _ _ _ _ _ hx hb _ _ _ _ hw => lv_lconst hx hb hd rfl hw) h
theorem gg_iload (k : gOk K B l R nL cc own Ts) {i : Nat} {z : Int} (hd : decode cc pc = .ok (.iload i, 2)) (hg : lvg lv i = some (.int (iI z))) (h : GG K B C (pc + 2) lv (.int (iI z) :: st)) : GG K B C pc lv st :=
  gg_go k (fun _ _ _ _ _ _ _ _ _ _ _ _ hx hb _ _ _ hl hw => lv_iload hx hb hd (lvg_at hl hg) hw) h
theorem gg_iload_n (k : gOk K B l R nL cc own Ts) {i : Fin 4} {z : Int} (hd : decode cc pc = .ok (.iload_n i, 1)) (hg : lvg lv i = some (.int (iI z))) (h : GG K B C (pc + 1) lv (.int (iI z) :: st)) : GG K B C pc lv st :=
  gg_go k (fun _ _ _ _ _ _ _ _ _ _ _ _ hx hb _ _ _ hl hw => lv_iload_n hx hb hd rfl (lvg_at hl hg) hw) h
theorem gg_lload (k : gOk K B l R nL cc own Ts) {i : Nat} {z : Int} (hd : decode cc pc = .ok (.lload i, 2)) (hg : lvg lv i = some (.long (iL z))) (h : GG K B C (pc + 2) lv (.long (iL z) :: st)) : GG K B C pc lv st :=
  gg_go k (fun _ _ _ _ _ _ _ _ _ _ _ _ hx hb _ _ _ hl hw => lv_lload hx hb hd (lvg_at hl hg) hw) h
theorem gg_lload_n (k : gOk K B l R nL cc own Ts) {i : Fin 4} {z : Int} (hd : decode cc pc = .ok (.lload_n i, 1)) (hg : lvg lv i = some (.long (iL z))) (h : GG K B C (pc + 1) lv (.long (iL z) :: st)) : GG K B C pc lv st :=
  gg_go k (fun _ _ _ _ _ _ _ _ _ _ _ _ hx hb _ _ _ hl hw => lv_lload_n hx hb hd rfl (lvg_at hl hg) hw) h
theorem gg_aload (k : gOk K B l R nL cc own Ts) {i a : Nat} (hd : decode cc pc = .ok (.aload i, 2)) (hg : lvg lv i = some (.ref a)) (h : GG K B C (pc + 2) lv (.ref a :: st)) : GG K B C pc lv st :=
  gg_go k (fun _ _ _ _ _ _ _ _ _ _ _ _ hx hb _ _ _ hl hw => lv_aload hx hb hd (lvg_at hl hg) hw) h
theorem gg_aload_n (k : gOk K B l R nL cc own Ts) {i : Fin 4} {a : Nat} (hd : decode cc pc = .ok (.aload_n i, 1)) (hg : lvg lv i = some (.ref a)) (h : GG K B C (pc + 1) lv (.ref a :: st)) : GG K B C pc lv st :=
  gg_go k (fun _ _ _ _ _ _ _ _ _ _ _ _ hx hb _ _ _ hl hw => lv_aload_n hx hb hd rfl (lvg_at hl hg) hw) h
theorem gg_iadd (k : gOk K B l R nL cc own Ts) {a b : Int} (hd : decode cc pc = .ok (.iadd, 1)) (h : GG K B C (pc + 1) lv (.int (iI (a + b)) :: st)) : GG K B C pc lv (.int (iI b) :: .int (iI a) :: st) :=
  gg_go k (fun _ _ _ _ _ _ _ _ _ _ _ _ hx hb _ _ _ _ hw => lv_iadd hx hb hd (by rw [iI_add]; exact hw)) h
theorem gg_isub (k : gOk K B l R nL cc own Ts) {a b : Int} (hd : decode cc pc = .ok (.isub, 1)) (h : GG K B C (pc + 1) lv (.int (iI (a - b)) :: st)) : GG K B C pc lv (.int (iI b) :: .int (iI a) :: st) :=
  gg_go k (fun _ _ _ _ _ _ _ _ _ _ _ _ hx hb _ _ _ _ hw => lv_isub hx hb hd (by rw [iI_sub]; exact hw)) h
theorem gg_imul (k : gOk K B l R nL cc own Ts) {a b : Int} (hd : decode cc pc = .ok (.imul, 1)) (h : GG K B C (pc + 1) lv (.int (iI (a * b)) :: st)) : GG K B C pc lv (.int (iI b) :: .int (iI a) :: st) :=
  gg_go k (fun _ _ _ _ _ _ _ _ _ _ _ _ hx hb _ _ _ _ hw => lv_imul hx hb hd (by rw [iI_mul]; exact hw)) h
theorem gg_ineg (k : gOk K B l R nL cc own Ts) {a : Int} (hd : decode cc pc = .ok (.ineg, 1)) (h : GG K B C (pc + 1) lv (.int (iI (-a)) :: st)) : GG K B C pc lv (.int (iI a) :: st) :=
  gg_go k (fun _ _ _ _ _ _ _ _ _ _ _ _ hx hb _ _ _ _ hw => lv_ineg hx hb hd (by rw [iI_neg]; exact hw)) h
theorem gg_ladd (k : gOk K B l R nL cc own Ts) {a b : Int} (hd : decode cc pc = .ok (.ladd, 1)) (h : GG K B C (pc + 1) lv (.long (iL (a + b)) :: st)) : GG K B C pc lv (.long (iL b) :: .long (iL a) :: st) :=
  gg_go k (fun _ _ _ _ _ _ _ _ _ _ _ _ hx hb _ _ _ _ hw => lv_ladd hx hb hd (by rw [iL_add]; exact hw)) h
theorem gg_lsub (k : gOk K B l R nL cc own Ts) {a b : Int} (hd : decode cc pc = .ok (.lsub, 1)) (h : GG K B C (pc + 1) lv (.long (iL (a - b)) :: st)) : GG K B C pc lv (.long (iL b) :: .long (iL a) :: st) :=
  gg_go k (fun _ _ _ _ _ _ _ _ _ _ _ _ hx hb _ _ _ _ hw => lv_lsub hx hb hd (by rw [iL_sub]; exact hw)) h
theorem gg_lmul (k : gOk K B l R nL cc own Ts) {a b : Int} (hd : decode cc pc = .ok (.lmul, 1)) (h : GG K B C (pc + 1) lv (.long (iL (a * b)) :: st)) : GG K B C pc lv (.long (iL b) :: .long (iL a) :: st) :=
  gg_go k (fun _ _ _ _ _ _ _ _ _ _ _ _ hx hb _ _ _ _ hw => lv_lmul hx hb hd (by rw [iL_mul]; exact hw)) h
theorem gg_i2l (k : gOk K B l R nL cc own Ts) {a : Int} (hd : decode cc pc = .ok (.i2l, 1)) (ha : rI a) (h : GG K B C (pc + 1) lv (.long (iL a) :: st)) : GG K B C pc lv (.int (iI a) :: st) :=
  gg_go k (fun _ _ _ _ _ _ _ _ _ _ _ _ hx hb _ _ _ _ hw => lv_i2l hx hb hd (iI_i2l ha) hw) h
theorem gg_l2i (k : gOk K B l R nL cc own Ts) {a : Int} (hd : decode cc pc = .ok (.l2i, 1)) (h : GG K B C (pc + 1) lv (.int (iI a) :: st)) : GG K B C pc lv (.long (iL a) :: st) :=
  gg_go k (fun _ _ _ _ _ _ _ _ _ _ _ _ hx hb _ _ _ _ hw => lv_l2i hx hb hd (iL_l2i a) hw) h
theorem gg_dup (k : gOk K B l R nL cc own Ts) {v : Value} (hd : decode cc pc = .ok (.dup, 1)) (hc : v.category = 1) (h : GG K B C (pc + 1) lv (v :: v :: st)) : GG K B C pc lv (v :: st) :=
  gg_go k (fun _ _ _ _ _ _ _ _ _ _ _ _ hx hb _ _ _ _ hw => lv_dup hx hb hd hc hw) h
theorem gg_pop (k : gOk K B l R nL cc own Ts) {v : Value} (hd : decode cc pc = .ok (.pop, 1)) (hc : v.category = 1) (h : GG K B C (pc + 1) lv st) : GG K B C pc lv (v :: st) :=
  gg_go k (fun _ _ _ _ _ _ _ _ _ _ _ _ hx hb _ _ _ _ hw => lv_pop hx hb hd hc hw) h
theorem gg_dup2 (k : gOk K B l R nL cc own Ts) {v w : Value} (hd : decode cc pc = .ok (.dup2, 1)) (hc : v.category = 1) (hc2 : w.category = 1) (h : GG K B C (pc + 1) lv (v :: w :: v :: w :: st)) : GG K B C pc lv (v :: w :: st) :=
  gg_go k (fun _ _ _ _ _ _ _ _ _ _ _ _ hx hb _ _ _ _ hw => lv_dup2_11 hx hb hd hc hc2 hw) h
theorem gg_dup_x1 (k : gOk K B l R nL cc own Ts) {v w : Value} (hd : decode cc pc = .ok (.dup_x1, 1)) (hc : v.category = 1) (hc2 : w.category = 1) (h : GG K B C (pc + 1) lv (v :: w :: v :: st)) : GG K B C pc lv (v :: w :: st) :=
  gg_go k (fun _ _ _ _ _ _ _ _ _ _ _ _ hx hb _ _ _ _ hw => lv_dup_x1 hx hb hd hc hc2 hw) h
theorem gg_goto (k : gOk K B l R nL cc own Ts) {off : Int} {tgt : Nat} (hd : decode cc pc = .ok (.goto off, 3)) (ht : (pc : Int) + off = (tgt : Int)) (h : GG K B C tgt lv st) : GG K B C pc lv st :=
  gg_go k (fun _ _ _ _ _ _ _ _ _ _ _ _ hx hb _ _ _ _ hw => lv_goto hx hb hd ht hw) h
theorem gg_ldc2 (k : gOk K B l R nL cc own Ts) {idx : Nat} {z : Int} (hd : decode cc pc = .ok (.ldc2_w idx, 3)) (hm : Jvm.Cond.constantLong own idx (iL z) ∈ Ts) (h : GG K B C (pc + 3) lv (.long (iL z) :: st)) : GG K B C pc lv st :=
  gg_go k (fun _ _ _ _ _ _ _ _ _ _ _ _ hx hb ho ht _ _ hw => lv_ldc2 hx hb ho (ht _ hm) hd hw) h
end GG1
end
section
/-! ===== rows that store, branch, read and write the world ===== -/
theorem iI_eq0 {z : Int} (h : rI z) : iI z = 0 ↔ z = 0 := by rw [← iI_0]; exact iI_eq h rI_0
theorem iI_lt0 {z : Int} (h : rI z) : iI z < 0 ↔ z < 0 := by rw [← iI_0]; exact iI_lt h rI_0
theorem iI_le0 {z : Int} (h : rI z) : iI z ≤ 0 ↔ z ≤ 0 := by rw [← iI_0]; exact iI_le h rI_0
theorem iI_gt0 {z : Int} (h : rI z) : 0 < iI z ↔ 0 < z := by rw [← iI_0]; exact iI_lt rI_0 h
theorem iI_ge0 {z : Int} (h : rI z) : 0 ≤ iI z ↔ 0 ≤ z := by rw [← iI_0]; exact iI_le rI_0 h
theorem iL_cmp {a b : Int} (ha : rL a) (hb : rL b) : lg_cmp (iL a) (iL b) = iI (if b < a then 1 else if a = b then 0 else -1) := by
  unfold lg_cmp
  simp only [gt_iff_lt, iL_lt hb ha, iL_eq ha hb]
  split
  · rfl
  · split <;> rfl
section GG2
variable {K : gK} {B : gB} {C : gSt} {l : Launch} {R : Room} {nL : Nat} {cc : ByteArray} {own : String} {Ts : List Cond} {pc : Nat} {lv : gLv} {st : List Value}
theorem gg_istore (k : gOk K B l R nL cc own Ts) {i : Nat} {z : Int} (lv' : gLv) (hd : decode cc pc = .ok (.istore i, 2)) (hn : i < nL) (hl : (i, Value.int (iI z)) :: lv.filter (fun q => !(q.1 == i) && !(q.1 + 1 == i && q.2.category == 2)) = lv') (h : GG K B C (pc + 2) lv' st) : GG K B C pc lv (.int (iI z) :: st) := by
  obtain ⟨p, l', e, R', s, m, args, below, meth, c, A, Q, nL'⟩ := K
  obtain ⟨D, cl, tys, ad, cg, N⟩ := B
  obtain ⟨rfl, rfl, rfl, hx, hb, hml, hown, hts, hK, hA⟩ := k
  intro H locs ls hP hD hS hl0
  exact lv_istore hx hb hd hl0 hn hl (fun ls' hl' => h H locs ls' hP hD hS hl')
theorem gg_istore_n (k : gOk K B l R nL cc own Ts) {i : Fin 4} {z : Int} (lv' : gLv) (hd : decode cc pc = .ok (.istore_n i, 1)) (hn : (i : Nat) < nL) (hl : ((i : Nat), Value.int (iI z)) :: lv.filter (fun q => !(q.1 == (i : Nat)) && !(q.1 + 1 == (i : Nat) && q.2.category == 2)) = lv') (h : GG K B C (pc + 1) lv' st) : GG K B C pc lv (.int (iI z) :: st) := by
  obtain ⟨p, l', e, R', s, m, args, below, meth, c, A, Q, nL'⟩ := K
  obtain ⟨D, cl, tys, ad, cg, N⟩ := B
  obtain ⟨rfl, rfl, rfl, hx, hb, hml, hown, hts, hK, hA⟩ := k
  intro H locs ls hP hD hS hl0
  exact lv_istore_n hx hb hd rfl hl0 hn hl (fun ls' hl' => h H locs ls' hP hD hS hl')
theorem gg_lstore (k : gOk K B l R nL cc own Ts) {i : Nat} {z : Int} (lv' : gLv) (hd : decode cc pc = .ok (.lstore i, 2)) (hn : i + 1 < nL) (hl : (i, Value.long (iL z)) :: lv.filter (fun q => !(q.1 == i) && (!(q.1 == i + 1) && !(q.1 + 1 == i && q.2.category == 2))) = lv') (h : GG K B C (pc + 2) lv' st) : GG K B C pc lv (.long (iL z) :: st) := by
  obtain ⟨p, l', e, R', s, m, args, below, meth, c, A, Q, nL'⟩ := K
  obtain ⟨D, cl, tys, ad, cg, N⟩ := B
  obtain ⟨rfl, rfl, rfl, hx, hb, hml, hown, hts, hK, hA⟩ := k
  intro H locs ls hP hD hS hl0
  exact lv_lstore hx hb hd hl0 hn hl (fun ls' hl' => h H locs ls' hP hD hS hl')
theorem gg_lstore_n (k : gOk K B l R nL cc own Ts) {i : Fin 4} {z : Int} (lv' : gLv) (hd : decode cc pc = .ok (.lstore_n i, 1)) (hn : (i : Nat) + 1 < nL) (hl : ((i : Nat), Value.long (iL z)) :: lv.filter (fun q => !(q.1 == (i : Nat)) && (!(q.1 == (i : Nat) + 1) && !(q.1 + 1 == (i : Nat) && q.2.category == 2))) = lv') (h : GG K B C (pc + 1) lv' st) : GG K B C pc lv (.long (iL z) :: st) := by
  obtain ⟨p, l', e, R', s, m, args, below, meth, c, A, Q, nL'⟩ := K
  obtain ⟨D, cl, tys, ad, cg, N⟩ := B
  obtain ⟨rfl, rfl, rfl, hx, hb, hml, hown, hts, hK, hA⟩ := k
  intro H locs ls hP hD hS hl0
  exact lv_lstore_n hx hb hd rfl hl0 hn hl (fun ls' hl' => h H locs ls' hP hD hS hl')
theorem gg_astore_n (k : gOk K B l R nL cc own Ts) {i : Fin 4} {a : Nat} (lv' : gLv) (hd : decode cc pc = .ok (.astore_n i, 1)) (hn : (i : Nat) < nL) (hl : ((i : Nat), Value.ref a) :: lv.filter (fun q => !(q.1 == (i : Nat)) && !(q.1 + 1 == (i : Nat) && q.2.category == 2)) = lv') (h : GG K B C (pc + 1) lv' st) : GG K B C pc lv (.ref a :: st) := by
  obtain ⟨p, l', e, R', s, m, args, below, meth, c, A, Q, nL'⟩ := K
  obtain ⟨D, cl, tys, ad, cg, N⟩ := B
  obtain ⟨rfl, rfl, rfl, hx, hb, hml, hown, hts, hK, hA⟩ := k
  intro H locs ls hP hD hS hl0
  exact lv_astore_n hx hb hd rfl hl0 hn hl (fun ls' hl' => h H locs ls' hP hD hS hl')
theorem gg_iinc (k : gOk K B l R nL cc own Ts) {i : Nat} {n z : Int} (j : Nat) (lv' : gLv) (hd : decode cc pc = .ok (.iinc i n, 3)) (hj : lv[j]? = some (i, Value.int (iI z))) (hn : i < nL) (hl : (i, Value.int (iI (z + n))) :: lv.filter (fun q => !(q.1 == i) && !(q.1 + 1 == i && q.2.category == 2)) = lv') (h : GG K B C (pc + 3) lv' st) : GG K B C pc lv st := by
  obtain ⟨p, l', e, R', s, m, args, below, meth, c, A, Q, nL'⟩ := K
  obtain ⟨D, cl, tys, ad, cg, N⟩ := B
  obtain ⟨rfl, rfl, rfl, hx, hb, hml, hown, hts, hK, hA⟩ := k
  intro H locs ls hP hD hS hl0
  exact lv_iinc hx hb hd hl0 hj (iI_add z n) hn hl (fun ls' hl' => h H locs ls' hP hD hS hl')
theorem gg_if_eq (k : gOk K B l R nL cc own Ts) {z off : Int} (tgt : Nat) (hd : decode cc pc = .ok (.ifCond .eq off, 3)) (ht : (pc : Int) + off = (tgt : Int)) (hz : rI z) (h1 : z = 0 → GG K B C tgt lv st) (h2 : ¬ z = 0 → GG K B C (pc + 3) lv st) : GG K B C pc lv (.int (iI z) :: st) :=
  gg_br k (P := z = 0) (fun _ _ _ _ _ _ _ _ _ _ _ _ hx hb q1 q2 => lv_if_eq hx hb hd ht (fun q => q1 ((iI_eq0 hz).mp q)) (fun q => q2 (fun w => q ((iI_eq0 hz).mpr w)))) h1 h2
theorem gg_if_ne (k : gOk K B l R nL cc own Ts) {z off : Int} (tgt : Nat) (hd : decode cc pc = .ok (.ifCond .ne off, 3)) (ht : (pc : Int) + off = (tgt : Int)) (hz : rI z) (h1 : ¬ z = 0 → GG K B C tgt lv st) (h2 : z = 0 → GG K B C (pc + 3) lv st) : GG K B C pc lv (.int (iI z) :: st) :=
  gg_br k (P := ¬ z = 0) (fun _ _ _ _ _ _ _ _ _ _ _ _ hx hb q1 q2 => lv_if_ne hx hb hd ht (fun q => q1 (fun w => q ((iI_eq0 hz).mpr w))) (fun q => q2 (fun w => w ((iI_eq0 hz).mp q)))) h1 (fun q => h2 (Decidable.not_not.mp q))
theorem gg_if_lt (k : gOk K B l R nL cc own Ts) {z off : Int} (tgt : Nat) (hd : decode cc pc = .ok (.ifCond .lt off, 3)) (ht : (pc : Int) + off = (tgt : Int)) (hz : rI z) (h1 : z < 0 → GG K B C tgt lv st) (h2 : ¬ z < 0 → GG K B C (pc + 3) lv st) : GG K B C pc lv (.int (iI z) :: st) :=
  gg_br k (P := z < 0) (fun _ _ _ _ _ _ _ _ _ _ _ _ hx hb q1 q2 => lv_if_lt hx hb hd ht (fun q => q1 ((iI_lt0 hz).mp q)) (fun q => q2 (fun w => q ((iI_lt0 hz).mpr w)))) h1 h2
theorem gg_if_ge (k : gOk K B l R nL cc own Ts) {z off : Int} (tgt : Nat) (hd : decode cc pc = .ok (.ifCond .ge off, 3)) (ht : (pc : Int) + off = (tgt : Int)) (hz : rI z) (h1 : 0 ≤ z → GG K B C tgt lv st) (h2 : ¬ 0 ≤ z → GG K B C (pc + 3) lv st) : GG K B C pc lv (.int (iI z) :: st) :=
  gg_br k (P := 0 ≤ z) (fun _ _ _ _ _ _ _ _ _ _ _ _ hx hb q1 q2 => lv_if_ge hx hb hd ht (fun q => q1 ((iI_ge0 hz).mp q)) (fun q => q2 (fun w => q ((iI_ge0 hz).mpr w)))) h1 h2
theorem gg_if_gt (k : gOk K B l R nL cc own Ts) {z off : Int} (tgt : Nat) (hd : decode cc pc = .ok (.ifCond .gt off, 3)) (ht : (pc : Int) + off = (tgt : Int)) (hz : rI z) (h1 : 0 < z → GG K B C tgt lv st) (h2 : ¬ 0 < z → GG K B C (pc + 3) lv st) : GG K B C pc lv (.int (iI z) :: st) :=
  gg_br k (P := 0 < z) (fun _ _ _ _ _ _ _ _ _ _ _ _ hx hb q1 q2 => lv_if_gt hx hb hd ht (fun q => q1 ((iI_gt0 hz).mp q)) (fun q => q2 (fun w => q ((iI_gt0 hz).mpr w)))) h1 h2
theorem gg_if_le (k : gOk K B l R nL cc own Ts) {z off : Int} (tgt : Nat) (hd : decode cc pc = .ok (.ifCond .le off, 3)) (ht : (pc : Int) + off = (tgt : Int)) (hz : rI z) (h1 : z ≤ 0 → GG K B C tgt lv st) (h2 : ¬ z ≤ 0 → GG K B C (pc + 3) lv st) : GG K B C pc lv (.int (iI z) :: st) :=
  gg_br k (P := z ≤ 0) (fun _ _ _ _ _ _ _ _ _ _ _ _ hx hb q1 q2 => lv_if_le hx hb hd ht (fun q => q1 ((iI_le0 hz).mp q)) (fun q => q2 (fun w => q ((iI_le0 hz).mpr w)))) h1 h2
theorem gg_icmp_eq (k : gOk K B l R nL cc own Ts) {a b off : Int} (tgt : Nat) (hd : decode cc pc = .ok (.if_icmp .eq off, 3)) (ht : (pc : Int) + off = (tgt : Int)) (ha : rI a) (hb0 : rI b) (h1 : a = b → GG K B C tgt lv st) (h2 : ¬ a = b → GG K B C (pc + 3) lv st) : GG K B C pc lv (.int (iI b) :: .int (iI a) :: st) :=
  gg_br k (P := a = b) (fun _ _ _ _ _ _ _ _ _ _ _ _ hx hb q1 q2 => lv_icmp_eq hx hb hd ht (fun q => q1 ((iI_eq ha hb0).mp q)) (fun q => q2 (fun w => q ((iI_eq ha hb0).mpr w)))) h1 h2
theorem gg_icmp_ne (k : gOk K B l R nL cc own Ts) {a b off : Int} (tgt : Nat) (hd : decode cc pc = .ok (.if_icmp .ne off, 3)) (ht : (pc : Int) + off = (tgt : Int)) (ha : rI a) (hb0 : rI b) (h1 : ¬ a = b → GG K B C tgt lv st) (h2 : a = b → GG K B C (pc + 3) lv st) : GG K B C pc lv (.int (iI b) :: .int (iI a) :: st) :=
  gg_br k (P := ¬ a = b) (fun _ _ _ _ _ _ _ _ _ _ _ _ hx hb q1 q2 => lv_icmp_ne hx hb hd ht (fun q => q1 (fun w => q ((iI_eq ha hb0).mpr w))) (fun q => q2 (fun w => w ((iI_eq ha hb0).mp q)))) h1 (fun q => h2 (Decidable.not_not.mp q))
theorem gg_icmp_lt (k : gOk K B l R nL cc own Ts) {a b off : Int} (tgt : Nat) (hd : decode cc pc = .ok (.if_icmp .lt off, 3)) (ht : (pc : Int) + off = (tgt : Int)) (ha : rI a) (hb0 : rI b) (h1 : a < b → GG K B C tgt lv st) (h2 : ¬ a < b → GG K B C (pc + 3) lv st) : GG K B C pc lv (.int (iI b) :: .int (iI a) :: st) :=
  gg_br k (P := a < b) (fun _ _ _ _ _ _ _ _ _ _ _ _ hx hb q1 q2 => lv_icmp_lt hx hb hd ht (fun q => q1 ((iI_lt ha hb0).mp q)) (fun q => q2 (fun w => q ((iI_lt ha hb0).mpr w)))) h1 h2
theorem gg_icmp_ge (k : gOk K B l R nL cc own Ts) {a b off : Int} (tgt : Nat) (hd : decode cc pc = .ok (.if_icmp .ge off, 3)) (ht : (pc : Int) + off = (tgt : Int)) (ha : rI a) (hb0 : rI b) (h1 : b ≤ a → GG K B C tgt lv st) (h2 : ¬ b ≤ a → GG K B C (pc + 3) lv st) : GG K B C pc lv (.int (iI b) :: .int (iI a) :: st) :=
  gg_br k (P := b ≤ a) (fun _ _ _ _ _ _ _ _ _ _ _ _ hx hb q1 q2 => lv_icmp_ge hx hb hd ht (fun q => q1 ((iI_le hb0 ha).mp q)) (fun q => q2 (fun w => q ((iI_le hb0 ha).mpr w)))) h1 h2
theorem gg_icmp_gt (k : gOk K B l R nL cc own Ts) {a b off : Int} (tgt : Nat) (hd : decode cc pc = .ok (.if_icmp .gt off, 3)) (ht : (pc : Int) + off = (tgt : Int)) (ha : rI a) (hb0 : rI b) (h1 : b < a → GG K B C tgt lv st) (h2 : ¬ b < a → GG K B C (pc + 3) lv st) : GG K B C pc lv (.int (iI b) :: .int (iI a) :: st) :=
  gg_br k (P := b < a) (fun _ _ _ _ _ _ _ _ _ _ _ _ hx hb q1 q2 => lv_icmp_gt hx hb hd ht (fun q => q1 ((iI_lt hb0 ha).mp q)) (fun q => q2 (fun w => q ((iI_lt hb0 ha).mpr w)))) h1 h2
theorem gg_icmp_le (k : gOk K B l R nL cc own Ts) {a b off : Int} (tgt : Nat) (hd : decode cc pc = .ok (.if_icmp .le off, 3)) (ht : (pc : Int) + off = (tgt : Int)) (ha : rI a) (hb0 : rI b) (h1 : a ≤ b → GG K B C tgt lv st) (h2 : ¬ a ≤ b → GG K B C (pc + 3) lv st) : GG K B C pc lv (.int (iI b) :: .int (iI a) :: st) :=
  gg_br k (P := a ≤ b) (fun _ _ _ _ _ _ _ _ _ _ _ _ hx hb q1 q2 => lv_icmp_le hx hb hd ht (fun q => q1 ((iI_le ha hb0).mp q)) (fun q => q2 (fun w => q ((iI_le ha hb0).mpr w)))) h1 h2
theorem gg_lcmp (k : gOk K B l R nL cc own Ts) {a b : Int} (hd : decode cc pc = .ok (.lcmp, 1)) (ha : rL a) (hb0 : rL b) (h : GG K B C (pc + 1) lv (.int (iI (if b < a then 1 else if a = b then 0 else -1)) :: st)) : GG K B C pc lv (.long (iL b) :: .long (iL a) :: st) :=
  gg_go k (fun _ _ _ _ _ _ _ _ _ _ _ _ hx hb _ _ _ _ hw => W.lcmp hx hb hd (by rw [iL_cmp ha hb0]; exact hw)) h
theorem rI_cmp (a b : Int) : rI (if b < a then 1 else if a = b then 0 else -1) := by
  unfold rI
  split
  · omega
  · split <;> omega
theorem gg_lt_le (k : gOk K B l R nL cc own Ts) {a b off : Int} (tgt : Nat) (hd : decode cc pc = .ok (.lcmp, 1)) (hd2 : decode cc (pc + 1) = .ok (.ifCond .le off, 3)) (ht : ((pc + 1 : Nat) : Int) + off = (tgt : Int)) (ha : rL a) (hb0 : rL b) (h1 : a ≤ b → GG K B C tgt lv st) (h2 : ¬ a ≤ b → GG K B C (pc + 4) lv st) : GG K B C pc lv (.long (iL b) :: .long (iL a) :: st) :=
  gg_lcmp k hd ha hb0 (gg_if_le k tgt hd2 ht (rI_cmp a b) (fun q => h1 (by by_cases w : b < a; (· rw [if_pos w] at q; omega); (· omega))) (fun q => h2 (by by_cases w : b < a; (· omega); (· rw [if_neg w] at q; split at q <;> omega))))
theorem gg_lt_ge (k : gOk K B l R nL cc own Ts) {a b off : Int} (tgt : Nat) (hd : decode cc pc = .ok (.lcmp, 1)) (hd2 : decode cc (pc + 1) = .ok (.ifCond .ge off, 3)) (ht : ((pc + 1 : Nat) : Int) + off = (tgt : Int)) (ha : rL a) (hb0 : rL b) (h1 : b ≤ a → GG K B C tgt lv st) (h2 : ¬ b ≤ a → GG K B C (pc + 4) lv st) : GG K B C pc lv (.long (iL b) :: .long (iL a) :: st) :=
  gg_lcmp k hd ha hb0 (gg_if_ge k tgt hd2 ht (rI_cmp a b) (fun q => h1 (by by_cases w : b < a; (· omega); (· rw [if_neg w] at q; split at q <;> omega))) (fun q => h2 (by by_cases w : b < a; (· rw [if_pos w] at q; omega); (· rw [if_neg w] at q; split at q <;> omega))))
theorem gg_lt_lt (k : gOk K B l R nL cc own Ts) {a b off : Int} (tgt : Nat) (hd : decode cc pc = .ok (.lcmp, 1)) (hd2 : decode cc (pc + 1) = .ok (.ifCond .lt off, 3)) (ht : ((pc + 1 : Nat) : Int) + off = (tgt : Int)) (ha : rL a) (hb0 : rL b) (h1 : a < b → GG K B C tgt lv st) (h2 : ¬ a < b → GG K B C (pc + 4) lv st) : GG K B C pc lv (.long (iL b) :: .long (iL a) :: st) :=
  gg_lcmp k hd ha hb0 (gg_if_lt k tgt hd2 ht (rI_cmp a b) (fun q => h1 (by by_cases w : b < a; (· rw [if_pos w] at q; omega); (· rw [if_neg w] at q; split at q <;> omega))) (fun q => h2 (by by_cases w : b < a; (· omega); (· rw [if_neg w] at q; split at q <;> omega))))
theorem gg_lt_ne (k : gOk K B l R nL cc own Ts) {a b off : Int} (tgt : Nat) (hd : decode cc pc = .ok (.lcmp, 1)) (hd2 : decode cc (pc + 1) = .ok (.ifCond .ne off, 3)) (ht : ((pc + 1 : Nat) : Int) + off = (tgt : Int)) (ha : rL a) (hb0 : rL b) (h1 : ¬ a = b → GG K B C tgt lv st) (h2 : a = b → GG K B C (pc + 4) lv st) : GG K B C pc lv (.long (iL b) :: .long (iL a) :: st) :=
  gg_lcmp k hd ha hb0 (gg_if_ne k tgt hd2 ht (rI_cmp a b) (fun q => h1 (fun w => q (by rw [if_neg (by omega), if_pos w]))) (fun q => h2 (by by_cases w : b < a; (· rw [if_pos w] at q; omega); (· rw [if_neg w] at q; split at q <;> omega))))
theorem gg_lt_eq (k : gOk K B l R nL cc own Ts) {a b off : Int} (tgt : Nat) (hd : decode cc pc = .ok (.lcmp, 1)) (hd2 : decode cc (pc + 1) = .ok (.ifCond .eq off, 3)) (ht : ((pc + 1 : Nat) : Int) + off = (tgt : Int)) (ha : rL a) (hb0 : rL b) (h1 : a = b → GG K B C tgt lv st) (h2 : ¬ a = b → GG K B C (pc + 4) lv st) : GG K B C pc lv (.long (iL b) :: .long (iL a) :: st) :=
  gg_lcmp k hd ha hb0 (gg_if_eq k tgt hd2 ht (rI_cmp a b) (fun q => h1 (by by_cases w : b < a; (· rw [if_pos w] at q; omega); (· rw [if_neg w] at q; split at q <;> omega))) (fun q => h2 (fun w => q (by rw [if_neg (by omega), if_pos w]))))
/-- what a write into cell q's contents makes of the world -/
theorem gw_wr {ad : Nat → Nat} {cg : gCg} {N q : Nat} {C : gSt} {e v : Int} (hq : q < N) {x : va_E} (hx : cg q (fun j => if j = e then v else C q j) = x) : (gw ad cg N C).set q (ad q, x) = gw ad cg N (wr C q e v) := by
  refine gw_set hq ?_ (fun j hj => wr_k hj)
  rw [← hx]
  congr 1
  funext j
  exact wr_w
theorem gg_iald (k : gOk K B l R nL cc own Ts) {q n : Nat} (hq : gIA B q n) {e : Int} (h0 : 0 ≤ e) (h1 : e < (n : Int)) (hd : decode cc pc = .ok (.iaload, 1)) (h : GG K B C (pc + 1) lv (.int (iI (C q e)) :: st)) : GG K B C pc lv (.int (iI e) :: .ref (gad B q) :: st) := by
  obtain ⟨p, l', e', R', s, m, args, below, meth, c, A, Q, nL'⟩ := K
  obtain ⟨D, cl, tys, ad, cg, N⟩ := B
  obtain ⟨rfl, rfl, rfl, hx, hb, hml, hown, hts, hK, hA⟩ := k
  obtain ⟨hqN, hn, cA, t0, ht, hc⟩ := hq
  intro H locs ls hP hD hS hl0
  have hat : (gw ad cg N C)[q]? = some (ad q, .inl (cA, n, .inl (fun j : Nat => iI (C q j)))) := by rw [gw_at hqN]; exact congrArg some (congrArg (Prod.mk (ad q)) (hc (C q)))
  refine va_iald hx hb hK hP q t0 hat ht (iI_in h0 h1 hn) hd ?_
  rw [iI_cl (by omega) h0, Int.toNat_of_nonneg h0]
  exact h H locs ls hP hD hS hl0
theorem gg_zald (k : gOk K B l R nL cc own Ts) {q n : Nat} (hq : gZA B q n) {e : Int} (h0 : 0 ≤ e) (h1 : e < (n : Int)) (hd : decode cc pc = .ok (.baload, 1)) (h : GG K B C (pc + 1) lv (.int (iI (C q e)) :: st)) : GG K B C pc lv (.int (iI e) :: .ref (gad B q) :: st) := by
  obtain ⟨p, l', e', R', s, m, args, below, meth, c, A, Q, nL'⟩ := K
  obtain ⟨D, cl, tys, ad, cg, N⟩ := B
  obtain ⟨rfl, rfl, rfl, hx, hb, hml, hown, hts, hK, hA⟩ := k
  obtain ⟨hqN, hn, cA, t0, ht, hc⟩ := hq
  intro H locs ls hP hD hS hl0
  have hat : (gw ad cg N C)[q]? = some (ad q, .inl (cA, n, .inl (fun j : Nat => iI (C q j)))) := by rw [gw_at hqN]; exact congrArg some (congrArg (Prod.mk (ad q)) (hc (C q)))
  refine va_zald hx hb hK hP q t0 hat ht (iI_in h0 h1 hn) hd ?_
  rw [iI_cl (by omega) h0, Int.toNat_of_nonneg h0]
  exact h H locs ls hP hD hS hl0
theorem gg_lald (k : gOk K B l R nL cc own Ts) {q n : Nat} (hq : gLA B q n) {e : Int} (h0 : 0 ≤ e) (h1 : e < (n : Int)) (hd : decode cc pc = .ok (.laload, 1)) (h : GG K B C (pc + 1) lv (.long (iL (C q e)) :: st)) : GG K B C pc lv (.int (iI e) :: .ref (gad B q) :: st) := by
  obtain ⟨p, l', e', R', s, m, args, below, meth, c, A, Q, nL'⟩ := K
  obtain ⟨D, cl, tys, ad, cg, N⟩ := B
  obtain ⟨rfl, rfl, rfl, hx, hb, hml, hown, hts, hK, hA⟩ := k
  obtain ⟨hqN, hn, cA, t0, ht, hc⟩ := hq
  intro H locs ls hP hD hS hl0
  have hat : (gw ad cg N C)[q]? = some (ad q, .inl (cA, n, .inr (.inl (fun j : Nat => iL (C q j))))) := by rw [gw_at hqN]; exact congrArg some (congrArg (Prod.mk (ad q)) (hc (C q)))
  refine va_lald hx hb hK hP q t0 hat ht (iI_in h0 h1 hn) hd ?_
  rw [iI_cl (by omega) h0, Int.toNat_of_nonneg h0]
  exact h H locs ls hP hD hS hl0
theorem gg_aald (k : gOk K B l R nL cc own Ts) {q n : Nat} {g : Nat → Nat} (hq : gQA B q n g) {e : Int} (h0 : 0 ≤ e) (h1 : e < (n : Int)) (hd : decode cc pc = .ok (.aaload, 1)) (h : GG K B C (pc + 1) lv (.ref (gad B (g e.toNat)) :: st)) : GG K B C pc lv (.int (iI e) :: .ref (gad B q) :: st) := by
  obtain ⟨p, l', e', R', s, m, args, below, meth, c, A, Q, nL'⟩ := K
  obtain ⟨D, cl, tys, ad, cg, N⟩ := B
  obtain ⟨rfl, rfl, rfl, hx, hb, hml, hown, hts, hK, hA⟩ := k
  obtain ⟨hqN, hn, cA, t0, Cn, ht, hc⟩ := hq
  intro H locs ls hP hD hS hl0
  have hat : (gw ad cg N C)[q]? = some (ad q, .inl (cA, n, .inr (.inr (.inr (.inr (fun j : Nat => some (ad (g j)))))))) := by rw [gw_at hqN]; exact congrArg some (congrArg (Prod.mk (ad q)) (hc (C q)))
  refine va_aldq hx hb hK hP q t0 hat ht (iI_in h0 h1 hn) hd ?_
  rw [iI_cl (by omega) h0]
  exact h H locs ls hP hD hS hl0
theorem gg_upd {f : Int → Int} {e v : Int} (h0 : 0 ≤ e) : (fun j : Nat => iI (if (j : Int) = e then v else f j)) = upd (fun j : Nat => iI (f j)) e.toNat (iI v) := by
  funext j
  unfold upd
  by_cases h : j = e.toNat
  · rw [if_pos h, if_pos (by omega)]
  · rw [if_neg h, if_neg (by omega)]
theorem gg_updL {f : Int → Int} {e v : Int} (h0 : 0 ≤ e) : (fun j : Nat => iL (if (j : Int) = e then v else f j)) = vp_updL (fun j : Nat => iL (f j)) e.toNat (iL v) := by
  funext j
  unfold vp_updL
  by_cases h : j = e.toNat
  · rw [if_pos h, if_pos (by omega)]
  · rw [if_neg h, if_neg (by omega)]
theorem gg_iast (k : gOk K B l R nL cc own Ts) {q n : Nat} (hq : gIA B q n) {e v : Int} (h0 : 0 ≤ e) (h1 : e < (n : Int)) (hd : decode cc pc = .ok (.iastore, 1)) (h : GG K B (wr C q e v) (pc + 1) lv st) : GG K B C pc lv (.int (iI v) :: .int (iI e) :: .ref (gad B q) :: st) := by
  obtain ⟨p, l', e', R', s, m, args, below, meth, c, A, Q, nL'⟩ := K
  obtain ⟨D, cl, tys, ad, cg, N⟩ := B
  obtain ⟨rfl, rfl, rfl, hx, hb, hml, hown, hts, hK, hA⟩ := k
  obtain ⟨hqN, hn, cA, t0, ht, hc⟩ := hq
  intro H locs ls hP hD hS hl0
  have hat : (gw ad cg N C)[q]? = some (ad q, .inl (cA, n, .inl (fun j : Nat => iI (C q j)))) := by rw [gw_at hqN]; exact congrArg some (congrArg (Prod.mk (ad q)) (hc (C q)))
  refine va_iast hx hb hK hP hD hS q t0 hat ht (iI_in h0 h1 hn) hd fun H1 locs1 hP1 hD1 hS1 => ?_
  have hw : (gw ad cg N C).set q (ad q, .inl (cA, n, .inl (upd (fun j : Nat => iI (C q j)) (iI e).toNatClampNeg (iI v)))) = gw ad cg N (wr C q e v) := by
    refine gw_wr hqN ?_
    rw [iI_cl (by omega) h0, ← gg_upd h0]
    exact hc _
  change va_P D cl ((gw ad cg N C).set q (ad q, _)) H1 at hP1
  rw [hw] at hP1 hD1
  exact h H1 locs1 ls hP1 hD1 hS1 hl0
theorem gg_last (k : gOk K B l R nL cc own Ts) {q n : Nat} (hq : gLA B q n) {e v : Int} (h0 : 0 ≤ e) (h1 : e < (n : Int)) (hd : decode cc pc = .ok (.lastore, 1)) (h : GG K B (wr C q e v) (pc + 1) lv st) : GG K B C pc lv (.long (iL v) :: .int (iI e) :: .ref (gad B q) :: st) := by
  obtain ⟨p, l', e', R', s, m, args, below, meth, c, A, Q, nL'⟩ := K
  obtain ⟨D, cl, tys, ad, cg, N⟩ := B
  obtain ⟨rfl, rfl, rfl, hx, hb, hml, hown, hts, hK, hA⟩ := k
  obtain ⟨hqN, hn, cA, t0, ht, hc⟩ := hq
  intro H locs ls hP hD hS hl0
  have hat : (gw ad cg N C)[q]? = some (ad q, .inl (cA, n, .inr (.inl (fun j : Nat => iL (C q j))))) := by rw [gw_at hqN]; exact congrArg some (congrArg (Prod.mk (ad q)) (hc (C q)))
  refine va_last hx hb hK hP hD hS q t0 hat ht (iI_in h0 h1 hn) hd fun H1 locs1 hP1 hD1 hS1 => ?_
  have hw : (gw ad cg N C).set q (ad q, .inl (cA, n, .inr (.inl (vp_updL (fun j : Nat => iL (C q j)) (iI e).toNatClampNeg (iL v))))) = gw ad cg N (wr C q e v) := by
    refine gw_wr hqN ?_
    rw [iI_cl (by omega) h0, ← gg_updL h0]
    exact hc _
  change va_P D cl ((gw ad cg N C).set q (ad q, _)) H1 at hP1
  rw [hw] at hP1 hD1
  exact h H1 locs1 ls hP1 hD1 hS1 hl0
theorem gg_zast (k : gOk K B l R nL cc own Ts) {q n : Nat} (hq : gZA B q n) {e v : Int} (h0 : 0 ≤ e) (h1 : e < (n : Int)) (hv : v = 0 ∨ v = 1) (hd : decode cc pc = .ok (.bastore, 1)) (h : GG K B (wr C q e v) (pc + 1) lv st) : GG K B C pc lv (.int (iI v) :: .int (iI e) :: .ref (gad B q) :: st) := by
  obtain ⟨p, l', e', R', s, m, args, below, meth, c, A, Q, nL'⟩ := K
  obtain ⟨D, cl, tys, ad, cg, N⟩ := B
  obtain ⟨rfl, rfl, rfl, hx, hb, hml, hown, hts, hK, hA⟩ := k
  obtain ⟨hqN, hn, cA, t0, ht, hc⟩ := hq
  intro H locs ls hP hD hS hl0
  have hat : (gw ad cg N C)[q]? = some (ad q, .inl (cA, n, .inl (fun j : Nat => iI (C q j)))) := by rw [gw_at hqN]; exact congrArg some (congrArg (Prod.mk (ad q)) (hc (C q)))
  refine va_zast hx hb hK hP hD hS q t0 hat ht (iI_in h0 h1 hn) hd fun H1 locs1 hP1 hD1 hS1 => ?_
  have hnar : vp_nar .boolean (iI v) = iI v := by
    rcases hv with rfl | rfl <;> decide +kernel
  have hw : (gw ad cg N C).set q (ad q, .inl (cA, n, .inl (upd (fun j : Nat => iI (C q j)) (iI e).toNatClampNeg (vp_nar .boolean (iI v))))) = gw ad cg N (wr C q e v) := by
    refine gw_wr hqN ?_
    rw [hnar, iI_cl (by omega) h0, ← gg_upd h0]
    exact hc _
  change va_P D cl ((gw ad cg N C).set q (ad q, _)) H1 at hP1
  rw [hw] at hP1 hD1
  exact h H1 locs1 ls hP1 hD1 hS1 hl0
theorem gg_ilen (k : gOk K B l R nL cc own Ts) {q n : Nat} (hq : gIA B q n) (hd : decode cc pc = .ok (.arraylength, 1)) (h : GG K B C (pc + 1) lv (.int (iI (n : Int)) :: st)) : GG K B C pc lv (.ref (gad B q) :: st) := by
  obtain ⟨p, l', e', R', s, m, args, below, meth, c, A, Q, nL'⟩ := K
  obtain ⟨D, cl, tys, ad, cg, N⟩ := B
  obtain ⟨rfl, rfl, rfl, hx, hb, hml, hown, hts, hK, hA⟩ := k
  obtain ⟨hqN, hn, cA, t0, ht, hc⟩ := hq
  intro H locs ls hP hD hS hl0
  have hat : (gw ad cg N C)[q]? = some (ad q, .inl (cA, n, .inl (fun j : Nat => iI (C q j)))) := by rw [gw_at hqN]; exact congrArg some (congrArg (Prod.mk (ad q)) (hc (C q)))
  exact va_alen hx hb hK hP q t0 hat ht (iI_nat n) hd (h H locs ls hP hD hS hl0)
theorem gg_get (k : gOk K B l R nL cc own Ts) {q Nf idx : Nat} {Cn ref : String} {T : u_T} {fs : (Int → Int) → List Value} (hq : gOB B q Cn T Nf fs) (hin : ∀ w ∈ u_ws Cn T Nf, w ∈ Ts) (f : Nat) (hf : f < Nf) (hm : Cond.fieldLink own idx ref (T f).2.1 (T f).2.2.1 ∈ Ts) (hsame : ref = (T f).1) {v : Value} (hv : (fs (C q))[f]? = some v) (hd : decode cc pc = .ok (.getfield idx, 3)) (h : GG K B C (pc + 3) lv (v :: st)) : GG K B C pc lv (.ref (gad B q) :: st) := by
  obtain ⟨p, l', e', R', s, m, args, below, meth, c, A, Q, nL'⟩ := K
  obtain ⟨D, cl, tys, ad, cg, N⟩ := B
  obtain ⟨rfl, rfl, rfl, hx, hb, hml, hown, hts, hK, hA⟩ := k
  obtain ⟨hqN, ci, hcl, hc⟩ := hq
  intro H locs ls hP hD hS hl0
  have hat : (gw ad cg N C)[q]? = some (ad q, .inr (ci, fs (C q))) := by rw [gw_at hqN]; exact congrArg some (congrArg (Prod.mk (ad q)) (hc (C q)))
  exact va_get hx hb hts hin hown hK hP q hat hcl f hf (hts _ hm) (fun x h9 => by rw [hsame]; exact h9) hv hd (h H locs ls hP hD hS hl0)
theorem gg_put (k : gOk K B l R nL cc own Ts) {q Nf idx : Nat} {Cn ref : String} {T : u_T} {fs : (Int → Int) → List Value} (hq : gOB B q Cn T Nf fs) (hin : ∀ w ∈ u_ws Cn T Nf, w ∈ Ts) (ty0 : Nat → FieldType) (hty : ∀ k, k < Nf → parseFieldDescriptor (T k).2.2.1 = some (ty0 k)) (hnm : ∀ a, a < Nf → ∀ b, b < Nf → a ≠ b → (T a).2.1 ≠ (T b).2.1) (f : Nat) (hf : f < Nf) (hm : Cond.fieldLink own idx ref (T f).2.1 (T f).2.2.1 ∈ Ts) (hsame : ref = (T f).1) (hfin : (T f).2.2.2 = false) (hdI : (T f).2.2.1 = "I") {e v : Int} (hl : f < (fs (C q)).length) (hset : fs (fun j => if j = e then v else C q j) = (fs (C q)).set f (.int (iI v))) (hd : decode cc pc = .ok (.putfield idx, 3)) (h : GG K B (wr C q e v) (pc + 3) lv st) : GG K B C pc lv (.int (iI v) :: .ref (gad B q) :: st) := by
  obtain ⟨p, l', e', R', s, m, args, below, meth, c, A, Q, nL'⟩ := K
  obtain ⟨D, cl, tys, ad, cg, N⟩ := B
  obtain ⟨rfl, rfl, rfl, hx, hb, hml, hown, hts, hK, hA⟩ := k
  obtain ⟨hqN, ci, hcl, hc⟩ := hq
  intro H locs ls hP hD hS hl0
  have hat : (gw ad cg N C)[q]? = some (ad q, .inr (ci, fs (C q))) := by rw [gw_at hqN]; exact congrArg some (congrArg (Prod.mk (ad q)) (hc (C q)))
  refine va_put (ty := .int) hx hb hts hin ty0 hty hnm hown hK hP hD hS q hat hcl f hf (hts _ hm) (fun x h9 => by rw [hsame]; exact h9) hfin (by rw [hdI]; decide +kernel) rfl rfl hl hd fun H1 locs1 hP1 hD1 hS1 => ?_
  have hw : (gw ad cg N C).set q (ad q, .inr (ci, (fs (C q)).set f (.int (iI v)))) = gw ad cg N (wr C q e v) := by
    refine gw_wr hqN ?_
    rw [← hset]
    exact hc _
  change va_P D cl ((gw ad cg N C).set q (ad q, _)) H1 at hP1
  rw [hw] at hP1 hD1
  exact h H1 locs1 ls hP1 hD1 hS1 hl0
end GG2
end
section
/-! ===== contracts over one world, calls, entry ===== -/
def gA (B : gB) (sz : Nat) : Nat → Prop := fun q => (∃ k, k < B.2.2.2.2.2 ∧ q = gad B k) ∨ sz ≤ q
def gPre (B : gB) (C : gSt) (sz : Nat) (U : State) : Prop := match B with
  | (D, cl, tys, ad, cg, N) => U.heap.size = sz ∧ va_P D cl (gw ad cg N C) U.heap ∧ va_K D cl tys U ∧ va_D (fun _ => True) (gw ad cg N C)
def gPost (B : gB) (sz : Nat) (C : gSt) (t : State) : Prop := match B with
  | (D, cl, tys, ad, cg, N) => va_P D cl (gw ad cg N C) t.heap ∧ va_K D cl tys t ∧ va_D (gA (D, cl, tys, ad, cg, N) sz) (gw ad cg N C)
def gMi (l : Launch) (B : gB) (y : MethodName) (ws : List Cond) (rm : Room) (As : List Value) (C : gSt) (post : Int → gSt → Prop) : Prop := ∀ sz : Nat, Met l y ws rm (va_Pc As (gPre B C sz)) (va_Qi (fun r C' => ∃ z, r = iI z ∧ rI z ∧ post z C') (gPost B sz) (gA B sz)) 0 0 (gA B sz)
def gMl (l : Launch) (B : gB) (y : MethodName) (ws : List Cond) (rm : Room) (As : List Value) (C : gSt) (post : Int → gSt → Prop) : Prop := ∀ sz : Nat, Met l y ws rm (va_Pc As (gPre B C sz)) (va_Ql (fun r C' => ∃ z, r = iL z ∧ rL z ∧ post z C') (gPost B sz) (gA B sz)) 0 0 (gA B sz)
def gMv (l : Launch) (B : gB) (y : MethodName) (ws : List Cond) (rm : Room) (As : List Value) (C : gSt) (post : gSt → Prop) : Prop := ∀ sz : Nat, Met l y ws rm (va_Pc As (gPre B C sz)) (va_Qv (fun C' => post C') (gPost B sz) (gA B sz)) 0 0 (gA B sz)
theorem gPre_blind {B : gB} {C : gSt} {sz : Nat} {As : List Value} : FrameBlind (va_Pc As (gPre B C sz)) := by
  intro a U g mk q
  obtain ⟨D, cl, tys, ad, cg, N⟩ := B
  obtain ⟨q0, q1, qP, qK, qD⟩ := q
  exact ⟨q0, q1, qP, va_K.moved (u := U) (U := U.calling g mk a) (Vm.Alike.refl U.vm) qK, qD⟩
theorem gA_in {B : gB} {A : Nat → Prop} {C : gSt} {H0 H : Heap} {locs : List Loc} (hD : va_D A (gw B.2.2.2.1 B.2.2.2.2.1 B.2.2.2.2.2 C)) (hS : va_S A H0 H locs) (hA : ∀ q, H0.size ≤ q → A q) : ∀ q, gA B H.size q → A q := by
  intro q h
  rcases h with ⟨k, hk, rfl⟩ | h
  · exact hD.2 k _ (gw_at hk)
  · exact hA q (Nat.le_trans hS.1 h)
theorem gD_in {ad : Nat → Nat} {cg : gCg} {N : Nat} {A A' : Nat → Prop} {C C' : gSt} (hD : va_D A (gw ad cg N C)) (hD' : va_D A' (gw ad cg N C')) : va_D A (gw ad cg N C') := by
  refine ⟨hD'.1, fun k q hk => ?_⟩
  obtain ⟨h1, rfl⟩ := gw_in hk
  exact (hD.2 k (ad k, cg k (C k)) (gw_at h1) : A (ad k))
/-- what a return row gives -/
def gRi (K : gK) (B : gB) (cc : ByteArray) (post : Int → gSt → Prop) : Prop := ∀ (pc : Nat) (lv : gLv) (z : Int) (C' : gSt), decode cc pc = .ok (.ireturn, 1) → rI z → post z C' → GG K B C' pc lv [.int (iI z)]
def gRl (K : gK) (B : gB) (cc : ByteArray) (post : Int → gSt → Prop) : Prop := ∀ (pc : Nat) (lv : gLv) (z : Int) (C' : gSt), decode cc pc = .ok (.lreturn, 1) → rL z → post z C' → GG K B C' pc lv [.long (iL z)]
def gRv (K : gK) (B : gB) (cc : ByteArray) (post : gSt → Prop) : Prop := ∀ (pc : Nat) (lv : gLv) (C' : gSt), decode cc pc = .ok (.return_, 1) → post C' → GG K B C' pc lv []
section GG3
variable {K : gK} {B : gB} {C : gSt} {l : Launch} {R : Room} {nL : Nat} {cc : ByteArray} {own : String} {Ts : List Cond} {pc : Nat} {lv : gLv} {st : List Value}
theorem gA_start {D : va_G} {cl : List vw_C} {tys : List (ClassId × FieldType)} {ad : Nat → Nat} {cg : gCg} {N sz : Nat} {C : gSt} (hD : va_D (fun _ => True) (gw ad cg N C)) : va_D (gA (D, cl, tys, ad, cg, N) sz) (gw ad cg N C) := by
  refine ⟨hD.1, fun k q hk => ?_⟩
  obtain ⟨h1, rfl⟩ := gw_in hk
  exact Or.inl ⟨k, h1, rfl⟩
theorem gMi_of {y : MethodName} {ws ws' : List Cond} {rm : Room} {As : List Value} {post : Int → gSt → Prop} {ty : FieldType} (hty : ty = .int) (hy : plainName y.cls = true) (hw : ws = Cond.code y cc nL (some ty) :: ws') (hn : (lg_sl As).length ≤ nL)
    (body : ∀ K : gK, gOk K B l rm nL cc y.cls ws → gRi K B cc post → GG K B C 0 (lv_args 0 As) []) : gMi l B y ws rm As C post := by
  intro sz
  subst hty
  refine Met.ofW (cc := cc) (maxL := nL) (ret := some .int) hy hw ?_
  intro p e s m args below meth c s₁ Bd hml hv
  obtain ⟨D, cl, tys, ad, cg, N⟩ := B
  obtain ⟨rfl, hsz, hP, hK, hD0⟩ := hv
  have hlocks := Bd.notSynchronized
  have hD := gA_start (D := D) (cl := cl) (tys := tys) (sz := sz) hD0
  have hl := lv_entry As (n := nL) hn
  rw [lg_entry_eq]
  refine body (p, l, e, (headSpec ws rm).room, s, m, As.toArray, below, meth, c, gA (D, cl, tys, ad, cg, N) sz, _, nL) ⟨rfl, rfl, rfl, Bd.exec, Bd.bytes, hml, findClass_of_methodNamed Bd.named, atoms_spec (ws := ws) Bd.pre, hK, fun q h => Or.inr (by rw [← hsz]; exact h)⟩ ?_ s.heap [] _ hP hD va_S.rf hl
  intro pc lv z C' hd hz hp H locs ls hP' hD' hS' hl'
  exact W.iret (v := iI z) Bd.exec Bd.bytes Bd.returns (fun t ht hW => ⟨⟨iI z, C', rfl, ⟨z, rfl, hz, hp⟩, by rw [ht]; exact hP', va_K.moved hW.alike hK, hD'⟩, hS'.F ht⟩) hS'.2.2 hd
theorem gMz_of {y : MethodName} {ws ws' : List Cond} {rm : Room} {As : List Value} {post : Int → gSt → Prop} (hy : plainName y.cls = true) (hw : ws = Cond.code y cc nL (some .boolean) :: ws') (hn : (lg_sl As).length ≤ nL) (h01 : ∀ z C', post z C' → z = 0 ∨ z = 1)
    (body : ∀ K : gK, gOk K B l rm nL cc y.cls ws → gRi K B cc post → GG K B C 0 (lv_args 0 As) []) : gMi l B y ws rm As C post := by
  intro sz
  refine Met.ofW (cc := cc) (maxL := nL) (ret := some .boolean) hy hw ?_
  intro p e s m args below meth c s₁ Bd hml hv
  obtain ⟨D, cl, tys, ad, cg, N⟩ := B
  obtain ⟨rfl, hsz, hP, hK, hD0⟩ := hv
  have hlocks := Bd.notSynchronized
  have hD := gA_start (D := D) (cl := cl) (tys := tys) (sz := sz) hD0
  have hl := lv_entry As (n := nL) hn
  rw [lg_entry_eq]
  refine body (p, l, e, (headSpec ws rm).room, s, m, As.toArray, below, meth, c, gA (D, cl, tys, ad, cg, N) sz, _, nL) ⟨rfl, rfl, rfl, Bd.exec, Bd.bytes, hml, findClass_of_methodNamed Bd.named, atoms_spec (ws := ws) Bd.pre, hK, fun q h => Or.inr (by rw [← hsz]; exact h)⟩ ?_ s.heap [] _ hP hD va_S.rf hl
  intro pc lv z C' hd hz hp H locs ls hP' hD' hS' hl'
  exact W.zret (v := iI z) (ty := .boolean) Bd.exec Bd.bytes Bd.returns (by rcases h01 z C' hp with rfl | rfl <;> decide +kernel) (fun t ht hW => ⟨⟨iI z, C', rfl, ⟨z, rfl, hz, hp⟩, by rw [ht]; exact hP', va_K.moved hW.alike hK, hD'⟩, hS'.F ht⟩) hS'.2.2 hd
theorem gMl_of {y : MethodName} {ws ws' : List Cond} {rm : Room} {As : List Value} {post : Int → gSt → Prop} (hy : plainName y.cls = true) (hw : ws = Cond.code y cc nL (some .long) :: ws') (hn : (lg_sl As).length ≤ nL)
    (body : ∀ K : gK, gOk K B l rm nL cc y.cls ws → gRl K B cc post → GG K B C 0 (lv_args 0 As) []) : gMl l B y ws rm As C post := by
  intro sz
  refine Met.ofW (cc := cc) (maxL := nL) (ret := some .long) hy hw ?_
  intro p e s m args below meth c s₁ Bd hml hv
  obtain ⟨D, cl, tys, ad, cg, N⟩ := B
  obtain ⟨rfl, hsz, hP, hK, hD0⟩ := hv
  have hlocks := Bd.notSynchronized
  have hD := gA_start (D := D) (cl := cl) (tys := tys) (sz := sz) hD0
  have hl := lv_entry As (n := nL) hn
  rw [lg_entry_eq]
  refine body (p, l, e, (headSpec ws rm).room, s, m, As.toArray, below, meth, c, gA (D, cl, tys, ad, cg, N) sz, _, nL) ⟨rfl, rfl, rfl, Bd.exec, Bd.bytes, hml, findClass_of_methodNamed Bd.named, atoms_spec (ws := ws) Bd.pre, hK, fun q h => Or.inr (by rw [← hsz]; exact h)⟩ ?_ s.heap [] _ hP hD va_S.rf hl
  intro pc lv z C' hd hz hp H locs ls hP' hD' hS' hl'
  exact W.lret (v := iL z) Bd.exec Bd.bytes Bd.returns (fun t ht hW => ⟨⟨iL z, C', rfl, ⟨z, rfl, hz, hp⟩, by rw [ht]; exact hP', va_K.moved hW.alike hK, hD'⟩, hS'.F ht⟩) hS'.2.2 hd
theorem gMv_of {y : MethodName} {ws ws' : List Cond} {rm : Room} {As : List Value} {post : gSt → Prop} (hy : plainName y.cls = true) (hw : ws = Cond.code y cc nL none :: ws') (hn : (lg_sl As).length ≤ nL)
    (body : ∀ K : gK, gOk K B l rm nL cc y.cls ws → gRv K B cc post → GG K B C 0 (lv_args 0 As) []) : gMv l B y ws rm As C post := by
  intro sz
  refine Met.ofW (cc := cc) (maxL := nL) (ret := none) hy hw ?_
  intro p e s m args below meth c s₁ Bd hml hv
  obtain ⟨D, cl, tys, ad, cg, N⟩ := B
  obtain ⟨rfl, hsz, hP, hK, hD0⟩ := hv
  have hlocks := Bd.notSynchronized
  have hD := gA_start (D := D) (cl := cl) (tys := tys) (sz := sz) hD0
  have hl := lv_entry As (n := nL) hn
  rw [lg_entry_eq]
  refine body (p, l, e, (headSpec ws rm).room, s, m, As.toArray, below, meth, c, gA (D, cl, tys, ad, cg, N) sz, _, nL) ⟨rfl, rfl, rfl, Bd.exec, Bd.bytes, hml, findClass_of_methodNamed Bd.named, atoms_spec (ws := ws) Bd.pre, hK, fun q h => Or.inr (by rw [← hsz]; exact h)⟩ ?_ s.heap [] _ hP hD va_S.rf hl
  intro pc lv C' hd hp H locs ls hP' hD' hS' hl'
  exact W.vret Bd.exec Bd.bytes Bd.returns (fun t ht hW => ⟨⟨C', rfl, hp, by rw [ht]; exact hP', va_K.moved hW.alike hK, hD'⟩, hS'.F ht⟩) hS'.2.2 hd
/-- what a call asks of the names, of an instance method and of a static one -/
def gCw (R : Room) (own : String) (Ts : List Cond) (Cn : String) (idx : Nat) (y : MethodName) (ws : List Cond) (rm : Room) (n : Nat) (ret : Option FieldType) : Prop := ∃ (bytes : ByteArray) (maxL : Nat) (ws' : List Cond), GoodIn Ts (wsV own idx Cn y ws) ∧ ws = Cond.code y bytes maxL ret :: ws' ∧ rm.cells = 0 ∧ rm.slots = 0 ∧ (y.cls = Cn ∧ y.cls ≠ "java/lang/invoke/MethodHandle" ∧ y.cls ≠ "java/lang/invoke/VarHandle" ∧ (parseMethodDescriptor y.desc).map (fun d => d.parameters.length) = some n) ∧ (rm.frames + 1 ≤ R.frames ∧ 8 + (maxL + 11) + rm.locals ≤ R.locals)
def gCs (R : Room) (own : String) (Ts : List Cond) (idx : Nat) (y : MethodName) (ws : List Cond) (rm : Room) (n : Nat) (ret : Option FieldType) : Prop := ∃ (bytes : ByteArray) (maxL : Nat) (ws' : List Cond), GoodIn Ts (va_wsS own idx y ws) ∧ ws = Cond.code y bytes maxL ret :: ws' ∧ rm.cells = 0 ∧ rm.slots = 0 ∧ (y.cls ≠ "java/lang/invoke/MethodHandle" ∧ y.cls ≠ "java/lang/invoke/VarHandle" ∧ (parseMethodDescriptor y.desc).map (fun d => d.parameters.length) = some n) ∧ (rm.frames + 1 ≤ R.frames ∧ 8 + (maxL + 11) + rm.locals ≤ R.locals)
theorem gg_calli (k : gOk K B l R nL cc own Ts) {y : MethodName} {ws : List Cond} {rm : Room} {q Nf idx n : Nat} {Cn : String} {T : u_T} {fs : (Int → Int) → List Value} {ret : Option FieldType} {As rest : List Value} {post : Int → gSt → Prop} (hM : gMi l B y ws rm (.ref (gad B q) :: As) C post) (hcw : gCw R own Ts Cn idx y ws rm n ret) (hq : gOB B q Cn T Nf fs) (hst : st = As.reverse ++ .ref (gad B q) :: rest) (hn : As.length = n) (hr : (rest.map fun v => v.category).sum ≤ 8) (hd : decode cc pc = .ok (.invokevirtual idx, 3))
    (h : ∀ (z : Int) (C' : gSt), rI z → post z C' → GG K B C' (pc + 3) lv (.int (iI z) :: rest)) : GG K B C pc lv st := by
  obtain ⟨p, l', e', R', s, m, args, below, meth, c, A, Q, nL'⟩ := K
  obtain ⟨D, cl, tys, ad, cg, N⟩ := B
  obtain ⟨rfl, rfl, rfl, hx, hb, hml, hown, hts, hK, hA⟩ := k
  obtain ⟨hqN, ci, hcl, hc⟩ := hq
  obtain ⟨bytes, maxL, ws', hG, hw, hrc, hrs, hd9, hR⟩ := hcw
  intro H locs ls hP hD hS hl0
  have hat : (gw ad cg N C)[q]? = some (ad q, .inr (ci, fs (C q))) := by rw [gw_at hqN]; exact congrArg some (congrArg (Prod.mk (ad q)) (hc (C q)))
  have hF := gA_in (B := (D, cl, tys, ad, cg, N)) hD hS hA
  refine va_calli (va_runV (As := As) (rest := rest) (b := ad q) ⟨hx, hb, hml, hown, hts⟩ (hM H.size) (cwV n hts hG hw hrc hrs hd9 hR) ⟨gPre_blind, va_recv hK hP hcl hat, fun U hU hW => ⟨rfl, by rw [hU], by rw [hU]; exact hP, va_K.moved hW.alike hK, hD.weaken (fun _ _ _ _ => trivial)⟩⟩ rfl hn hl0.1 hst (lv_room hr) hd ⟨Nat.zero_le _, Nat.zero_le _⟩) hS (fun q _ w => hF q w) hF (fun r C' t H1 locs1 ht hvm hw hB hz1 hk1 hS1 => ?_)
  obtain ⟨z, rfl, hz, hp⟩ := hw
  obtain ⟨hP1, hK1, hD1⟩ := hB
  rw [ht] at hP1
  exact h z C' hz hp H1 locs1 ls hP1 (gD_in hD hD1) hS1 hl0
theorem gg_calll (k : gOk K B l R nL cc own Ts) {y : MethodName} {ws : List Cond} {rm : Room} {q Nf idx n : Nat} {Cn : String} {T : u_T} {fs : (Int → Int) → List Value} {ret : Option FieldType} {As rest : List Value} {post : Int → gSt → Prop} (hM : gMl l B y ws rm (.ref (gad B q) :: As) C post) (hcw : gCw R own Ts Cn idx y ws rm n ret) (hq : gOB B q Cn T Nf fs) (hst : st = As.reverse ++ .ref (gad B q) :: rest) (hn : As.length = n) (hr : (rest.map fun v => v.category).sum ≤ 8) (hd : decode cc pc = .ok (.invokevirtual idx, 3))
    (h : ∀ (z : Int) (C' : gSt), rL z → post z C' → GG K B C' (pc + 3) lv (.long (iL z) :: rest)) : GG K B C pc lv st := by
  obtain ⟨p, l', e', R', s, m, args, below, meth, c, A, Q, nL'⟩ := K
  obtain ⟨D, cl, tys, ad, cg, N⟩ := B
  obtain ⟨rfl, rfl, rfl, hx, hb, hml, hown, hts, hK, hA⟩ := k
  obtain ⟨hqN, ci, hcl, hc⟩ := hq
  obtain ⟨bytes, maxL, ws', hG, hw, hrc, hrs, hd9, hR⟩ := hcw
  intro H locs ls hP hD hS hl0
  have hat : (gw ad cg N C)[q]? = some (ad q, .inr (ci, fs (C q))) := by rw [gw_at hqN]; exact congrArg some (congrArg (Prod.mk (ad q)) (hc (C q)))
  have hF := gA_in (B := (D, cl, tys, ad, cg, N)) hD hS hA
  refine va_calll (va_runV (As := As) (rest := rest) (b := ad q) ⟨hx, hb, hml, hown, hts⟩ (hM H.size) (cwV n hts hG hw hrc hrs hd9 hR) ⟨gPre_blind, va_recv hK hP hcl hat, fun U hU hW => ⟨rfl, by rw [hU], by rw [hU]; exact hP, va_K.moved hW.alike hK, hD.weaken (fun _ _ _ _ => trivial)⟩⟩ rfl hn hl0.1 hst (lv_room hr) hd ⟨Nat.zero_le _, Nat.zero_le _⟩) hS (fun q _ w => hF q w) hF (fun r C' t H1 locs1 ht hvm hw hB hz1 hk1 hS1 => ?_)
  obtain ⟨z, rfl, hz, hp⟩ := hw
  obtain ⟨hP1, hK1, hD1⟩ := hB
  rw [ht] at hP1
  exact h z C' hz hp H1 locs1 ls hP1 (gD_in hD hD1) hS1 hl0
theorem gg_callv (k : gOk K B l R nL cc own Ts) {y : MethodName} {ws : List Cond} {rm : Room} {q Nf idx n : Nat} {Cn : String} {T : u_T} {fs : (Int → Int) → List Value} {ret : Option FieldType} {As rest : List Value} {post : gSt → Prop} (hM : gMv l B y ws rm (.ref (gad B q) :: As) C post) (hcw : gCw R own Ts Cn idx y ws rm n ret) (hq : gOB B q Cn T Nf fs) (hst : st = As.reverse ++ .ref (gad B q) :: rest) (hn : As.length = n) (hr : (rest.map fun v => v.category).sum ≤ 8) (hd : decode cc pc = .ok (.invokevirtual idx, 3))
    (h : ∀ (C' : gSt), post C' → GG K B C' (pc + 3) lv rest) : GG K B C pc lv st := by
  obtain ⟨p, l', e', R', s, m, args, below, meth, c, A, Q, nL'⟩ := K
  obtain ⟨D, cl, tys, ad, cg, N⟩ := B
  obtain ⟨rfl, rfl, rfl, hx, hb, hml, hown, hts, hK, hA⟩ := k
  obtain ⟨hqN, ci, hcl, hc⟩ := hq
  obtain ⟨bytes, maxL, ws', hG, hw, hrc, hrs, hd9, hR⟩ := hcw
  intro H locs ls hP hD hS hl0
  have hat : (gw ad cg N C)[q]? = some (ad q, .inr (ci, fs (C q))) := by rw [gw_at hqN]; exact congrArg some (congrArg (Prod.mk (ad q)) (hc (C q)))
  have hF := gA_in (B := (D, cl, tys, ad, cg, N)) hD hS hA
  refine va_callv (va_runV (As := As) (rest := rest) (b := ad q) ⟨hx, hb, hml, hown, hts⟩ (hM H.size) (cwV n hts hG hw hrc hrs hd9 hR) ⟨gPre_blind, va_recv hK hP hcl hat, fun U hU hW => ⟨rfl, by rw [hU], by rw [hU]; exact hP, va_K.moved hW.alike hK, hD.weaken (fun _ _ _ _ => trivial)⟩⟩ rfl hn hl0.1 hst (lv_room hr) hd ⟨Nat.zero_le _, Nat.zero_le _⟩) hS (fun q _ w => hF q w) hF (fun C' t H1 locs1 ht hvm hw hB hz1 hk1 hS1 => ?_)
  obtain ⟨hP1, hK1, hD1⟩ := hB
  rw [ht] at hP1
  exact h C' hw H1 locs1 ls hP1 (gD_in hD hD1) hS1 hl0
theorem gg_callsi (k : gOk K B l R nL cc own Ts) {y : MethodName} {ws : List Cond} {rm : Room} {idx n : Nat} {ret : Option FieldType} {As rest : List Value} {post : Int → gSt → Prop} (hM : gMi l B y ws rm As C post) (hcw : gCs R own Ts idx y ws rm n ret) (hst : st = As.reverse ++ rest) (hn : As.length = n) (hr : (rest.map fun v => v.category).sum ≤ 8) (hd : decode cc pc = .ok (.invokestatic idx, 3))
    (h : ∀ (z : Int) (C' : gSt), rI z → post z C' → GG K B C' (pc + 3) lv (.int (iI z) :: rest)) : GG K B C pc lv st := by
  obtain ⟨p, l', e', R', s, m, args, below, meth, c, A, Q, nL'⟩ := K
  obtain ⟨D, cl, tys, ad, cg, N⟩ := B
  obtain ⟨rfl, rfl, rfl, hx, hb, hml, hown, hts, hK, hA⟩ := k
  obtain ⟨bytes, maxL, ws', hG, hw, hrc, hrs, hd9, hR⟩ := hcw
  intro H locs ls hP hD hS hl0
  have hF := gA_in (B := (D, cl, tys, ad, cg, N)) hD hS hA
  refine va_calli (va_runS (As := As) (rest := rest) ⟨hx, hb, hml, hown, hts⟩ (hM H.size) (va_cwS n hts hG hw hrc hrs hd9 hR) ⟨gPre_blind, fun U hU hW => ⟨rfl, by rw [hU], by rw [hU]; exact hP, va_K.moved hW.alike hK, hD.weaken (fun _ _ _ _ => trivial)⟩⟩ rfl hn hl0.1 hst (lv_room hr) hd ⟨Nat.zero_le _, Nat.zero_le _⟩) hS (fun q _ w => hF q w) hF (fun r C' t H1 locs1 ht hvm hw hB hz1 hk1 hS1 => ?_)
  obtain ⟨z, rfl, hz, hp⟩ := hw
  obtain ⟨hP1, hK1, hD1⟩ := hB
  rw [ht] at hP1
  exact h z C' hz hp H1 locs1 ls hP1 (gD_in hD hD1) hS1 hl0
theorem iI_max {a b : Int} (ha : rI a) (hb : rI b) : (if iI a < iI b then iI b else iI a) = iI (max a b) := by
  by_cases h : a < b
  · rw [if_pos ((iI_lt ha hb).mpr h), Int.max_eq_right (by omega)]
  · rw [if_neg (fun w => h ((iI_lt ha hb).mp w)), Int.max_eq_left (by omega)]
theorem iI_min {a b : Int} (ha : rI a) (hb : rI b) : (if iI b < iI a then iI b else iI a) = iI (min a b) := by
  by_cases h : b < a
  · rw [if_pos ((iI_lt hb ha).mpr h), Int.min_eq_right (by omega)]
  · rw [if_neg (fun w => h ((iI_lt hb ha).mp w)), Int.min_eq_left (by omega)]
theorem iL_max {a b : Int} (ha : rL a) (hb : rL b) : (if iL b < iL a then iL a else iL b) = iL (max a b) := by
  by_cases h : b < a
  · rw [if_pos ((iL_lt hb ha).mpr h), Int.max_eq_left (by omega)]
  · rw [if_neg (fun w => h ((iL_lt hb ha).mp w)), Int.max_eq_right (by omega)]
theorem gg_max (k : gOk K B l R nL cc own Ts) {idx : Nat} {a b : Int} (ha : rI a) (hb0 : rI b) (hd : decode cc pc = .ok (.invokestatic idx, 3)) (h1 : Cond.methodLink own idx Lib.Math.max.name ∈ Ts) (h2 : Cond.static Lib.Math.max.name ∈ Ts) (h3 : Cond.initialized "java/lang/Math" ∈ Ts) (h4 : Cond.code Lib.Math.max.name Lib.Math.max.code 2 (some .int) ∈ Ts) (hR : 1 ≤ R.frames) (hR2 : (st.map fun v => v.category).sum + 13 ≤ R.locals) (h : GG K B C (pc + 3) lv (.int (iI (max a b)) :: st)) : GG K B C pc lv (.int (iI b) :: .int (iI a) :: st) :=
  gg_go k (fun _ _ _ _ _ _ _ _ _ _ _ _ hx hb ho ht hml _ hw => va_mmax hx hb hml ho (ht _ h1) (ht _ h2) (ht _ h3) (ht _ h4) hR hR2 (Nat.zero_le _) (Nat.zero_le _) hd (by rw [iI_max ha hb0]; exact hw)) h
theorem gg_min (k : gOk K B l R nL cc own Ts) {idx : Nat} {a b : Int} (ha : rI a) (hb0 : rI b) (hd : decode cc pc = .ok (.invokestatic idx, 3)) (h1 : Cond.methodLink own idx Lib.Math.min.name ∈ Ts) (h2 : Cond.static Lib.Math.min.name ∈ Ts) (h3 : Cond.initialized "java/lang/Math" ∈ Ts) (h4 : Cond.code Lib.Math.min.name Lib.Math.min.code 2 (some .int) ∈ Ts) (hR : 1 ≤ R.frames) (hR2 : (st.map fun v => v.category).sum + 13 ≤ R.locals) (h : GG K B C (pc + 3) lv (.int (iI (min a b)) :: st)) : GG K B C pc lv (.int (iI b) :: .int (iI a) :: st) :=
  gg_go k (fun _ _ _ _ _ _ _ _ _ _ _ _ hx hb ho ht hml _ hw => va_mmin hx hb hml ho (ht _ h1) (ht _ h2) (ht _ h3) (ht _ h4) hR hR2 (Nat.zero_le _) (Nat.zero_le _) hd (by rw [iI_min ha hb0]; exact hw)) h
theorem gg_maxl (k : gOk K B l R nL cc own Ts) {idx : Nat} {a b : Int} (ha : rL a) (hb0 : rL b) (hd : decode cc pc = .ok (.invokestatic idx, 3)) (h1 : Cond.methodLink own idx Lib.MathLoose.max_long.x ∈ Ts) (h2 : Cond.static Lib.MathLoose.max_long.x ∈ Ts) (h3 : Cond.initialized "java/lang/Math" ∈ Ts) (h4 : Cond.code Lib.MathLoose.max_long.x Lib.MathLoose.max_long.code 4 (some .long) ∈ Ts) (hR : 1 ≤ R.frames) (hR2 : (st.map fun v => v.category).sum + 15 ≤ R.locals) (h : GG K B C (pc + 3) lv (.long (iL (max a b)) :: st)) : GG K B C pc lv (.long (iL b) :: .long (iL a) :: st) :=
  gg_go k (fun _ _ _ _ _ _ _ _ _ _ _ _ hx hb ho ht hml _ hw => va_mmax_long hx hb hml ho (ht _ h1) (ht _ h2) (ht _ h3) (ht _ h4) hR hR2 (Nat.zero_le _) (Nat.zero_le _) hd (by rw [iL_max ha hb0]; exact hw)) h
end GG3
end
