/-! ===== one world of cells that is never reshaped: cell k stands at 'ad k', its contents are 'C k' (an Int for each place); a walk is said over (C, pc, locals, stack) alone ===== -/
abbrev gSt : Type := Nat → Int → Int
abbrev gCg : Type := Nat → (Int → Int) → va_E
abbrev gLv : Type := List (Nat × Value)
def gw (ad : Nat → Nat) (cg : gCg) (N : Nat) (C : gSt) : va_W := (List.range N).map (fun k => (ad k, cg k (C k)))
theorem gw_len {ad : Nat → Nat} {cg : gCg} {N : Nat} {C : gSt} : (gw ad cg N C).length = N := by simp [gw]
theorem gw_at {ad : Nat → Nat} {cg : gCg} {N k : Nat} {C : gSt} (hk : k < N) : (gw ad cg N C)[k]? = some (ad k, cg k (C k)) := by
  unfold gw
  rw [List.getElem?_map, List.getElem?_range hk]
  rfl
theorem gw_in {ad : Nat → Nat} {cg : gCg} {N k : Nat} {C : gSt} {q : Nat × va_E} (h : (gw ad cg N C)[k]? = some q) : k < N ∧ q = (ad k, cg k (C k)) := by
  have hl : k < N := by
    have := (List.getElem?_eq_some_iff.mp h).1
    rwa [gw_len] at this
  rw [gw_at hl] at h
  exact ⟨hl, (Option.some.inj h).symm⟩
theorem gw_set {ad : Nat → Nat} {cg : gCg} {N k : Nat} {C C' : gSt} (hk : k < N) {e : va_E} (h1 : cg k (C' k) = e) (h2 : ∀ j, j ≠ k → C' j = C j) : (gw ad cg N C).set k (ad k, e) = gw ad cg N C' := by
  apply List.ext_getElem?
  intro i
  by_cases hi : i = k
  · subst hi
    rw [List.getElem?_set_self (by rw [gw_len]; exact hk), gw_at hk, h1]
  · rw [List.getElem?_set_ne (Ne.symm hi)]
    by_cases hN : i < N
    · rw [gw_at hN, gw_at hN, h2 i hi]
    · rw [List.getElem?_eq_none (by rw [gw_len]; omega), List.getElem?_eq_none (by rw [gw_len]; omega)]
def wr (C : gSt) (k : Nat) (e v : Int) : gSt := fun k' j => if k' = k ∧ j = e then v else C k' j
theorem wr_s (C : gSt) (k : Nat) (e v : Int) : wr C k e v k e = v := by simp [wr]
theorem wr_k {C : gSt} {k k' : Nat} {e v : Int} (h : k' ≠ k) : wr C k e v k' = C k' := by funext j; simp [wr, h]
theorem wr_j {C : gSt} {k k' : Nat} {e v j : Int} (h : j ≠ e) : wr C k e v k' j = C k' j := by simp [wr, h]
theorem wr_w {C : gSt} {k : Nat} {e v j : Int} : wr C k e v k j = if j = e then v else C k j := by simp [wr]
/-- tables' names: (dC, dI), classes, array classes, addresses, cells' shapes, how many -/
abbrev gB : Type := va_G × List vw_C × List (ClassId × FieldType) × (Nat → Nat) × gCg × Nat
def gad (B : gB) : Nat → Nat := B.2.2.2.1
def gIA (B : gB) (q n : Nat) : Prop := q < B.2.2.2.2.2 ∧ n < 2147483648 ∧ ∃ (cA : ClassId) (t0 : Nat), B.2.2.1[t0]? = some (cA, .int) ∧ ∀ f : Int → Int, B.2.2.2.2.1 q f = .inl (cA, n, .inl (fun j : Nat => iI (f j)))
def gZA (B : gB) (q n : Nat) : Prop := q < B.2.2.2.2.2 ∧ n < 2147483648 ∧ ∃ (cA : ClassId) (t0 : Nat), B.2.2.1[t0]? = some (cA, .boolean) ∧ ∀ f : Int → Int, B.2.2.2.2.1 q f = .inl (cA, n, .inl (fun j : Nat => iI (f j)))
def gLA (B : gB) (q n : Nat) : Prop := q < B.2.2.2.2.2 ∧ n < 2147483648 ∧ ∃ (cA : ClassId) (t0 : Nat), B.2.2.1[t0]? = some (cA, .long) ∧ ∀ f : Int → Int, B.2.2.2.2.1 q f = .inl (cA, n, .inr (.inl (fun j : Nat => iL (f j))))
def gQA (B : gB) (q n : Nat) (g : Nat → Nat) : Prop := q < B.2.2.2.2.2 ∧ n < 2147483648 ∧ ∃ (cA : ClassId) (t0 : Nat) (Cn : String) (φ : Nat → Option Nat), B.2.2.1[t0]? = some (cA, .object Cn) ∧ (∀ j : Nat, j < n → φ j = some (gad B (g j))) ∧ ∀ f : Int → Int, B.2.2.2.2.1 q f = .inl (cA, n, .inr (.inr (.inr (.inr φ))))
def gOB (B : gB) (q : Nat) (Cn : String) (T : u_T) (Nf : Nat) (fs : (Int → Int) → List Value) : Prop := q < B.2.2.2.2.2 ∧ ∃ ci : Nat, B.2.1[ci]? = some (Cn, T, Nf) ∧ ∀ f : Int → Int, B.2.2.2.2.1 q f = .inr (ci, fs f)
abbrev gK : Type := Program × Launch × Env × Room × State × MethodId × Array Value × List Frame × Method × Code × (Nat → Prop) × (State → Prop) × Nat
def GG (K : gK) (B : gB) (C : gSt) (pc : Nat) (lv : gLv) (st : List Value) : Prop := match K, B with
  | (p, l, e, R, s, m, args, below, meth, c, A, Q, nL), (D, cl, _, ad, cg, N) => ∀ (H : Heap) (locs : List Loc) (ls : Array Slot), va_P D cl (gw ad cg N C) H → va_D A (gw ad cg N C) → va_S A s.heap H locs → lv_has ls nL lv → W p l e R s m args below meth c H locs 0 0 Q (F0 m pc ls st)
def gOk (K : gK) (B : gB) (l : Launch) (R : Room) (nL : Nat) (cc : ByteArray) (own : String) (Ts : List Cond) : Prop := match K, B with
  | (p, l', _, R', s, m, args, _, _, c, A, _, nL'), (D, cl, tys, _, _, _) => l' = l ∧ R' = R ∧ nL' = nL ∧ p.tables.exec = Jvm.exec ∧ c.code = cc ∧ c.maxLocals = nL ∧ s.vm.findClass own = some m.cls ∧ (∀ w ∈ Ts, w.before args s = true) ∧ va_K D cl tys s ∧ ∀ q, s.heap.size ≤ q → A q
def lvg : gLv → Nat → Option Value
  | [], _ => none
  | (j, v) :: r, i => if j = i then some v else lvg r i
theorem lvg_in : ∀ {lv : gLv} {i : Nat} {v : Value}, lvg lv i = some v → (i, v) ∈ lv
  | [], _, _, h => by simp [lvg] at h
  | (j, w) :: r, i, v, h => by
    unfold lvg at h
    by_cases hj : j = i
    · rw [if_pos hj] at h
      cases h
      rw [hj]
      exact List.mem_cons_self
    · rw [if_neg hj] at h
      exact List.mem_cons_of_mem _ (lvg_in h)
theorem lvg_at {ls : Array Slot} {nL i : Nat} {lv : gLv} {v : Value} (h : lv_has ls nL lv) (hg : lvg lv i = some v) : ls[i]? = some (.val v) := h.2.2 (i, v) (lvg_in hg)
section GG1
variable {K : gK} {B : gB} {C : gSt} {l : Launch} {R : Room} {nL : Nat} {cc : ByteArray} {own : String} {Ts : List Cond} {pc : Nat} {lv : gLv} {st : List Value}
/-- a row that touches the stack and the place alone -/
theorem gg_go (k : gOk K B l R nL cc own Ts) {pc2 : Nat} {st2 : List Value} (hrow : ∀ (p : Program) (e : Env) (s : State) (m : MethodId) (args : Array Value) (below : List Frame) (meth : Method) (c : Code) (H : Heap) (locs : List Loc) (Q : State → Prop) (ls : Array Slot), p.tables.exec = Jvm.exec → c.code = cc → s.vm.findClass own = some m.cls → (∀ w ∈ Ts, w.before args s = true) → c.maxLocals = ls.size → lv_has ls nL lv → W p l e R s m args below meth c H locs 0 0 Q (F0 m pc2 ls st2) → W p l e R s m args below meth c H locs 0 0 Q (F0 m pc ls st))
    (h : GG K B C pc2 lv st2) : GG K B C pc lv st := by
  obtain ⟨p, l', e, R', s, m, args, below, meth, c, A, Q, nL'⟩ := K
  obtain ⟨D, cl, tys, ad, cg, N⟩ := B
  obtain ⟨rfl, rfl, rfl, hx, hb, hml, hown, hts, hK, hA⟩ := k
  intro H locs ls hP hD hS hl
  exact hrow p e s m args below meth c H locs Q ls hx hb hown hts (hml.trans hl.1.symm) hl (h H locs ls hP hD hS hl)
/-- a row that branches -/
theorem gg_br (k : gOk K B l R nL cc own Ts) {pt pf : Nat} {st2 : List Value} {P : Prop} (hrow : ∀ (p : Program) (e : Env) (s : State) (m : MethodId) (args : Array Value) (below : List Frame) (meth : Method) (c : Code) (H : Heap) (locs : List Loc) (Q : State → Prop) (ls : Array Slot), p.tables.exec = Jvm.exec → c.code = cc → (P → W p l e R s m args below meth c H locs 0 0 Q (F0 m pt ls st2)) → (¬ P → W p l e R s m args below meth c H locs 0 0 Q (F0 m pf ls st2)) → W p l e R s m args below meth c H locs 0 0 Q (F0 m pc ls st))
    (h1 : P → GG K B C pt lv st2) (h2 : ¬ P → GG K B C pf lv st2) : GG K B C pc lv st := by
  obtain ⟨p, l', e, R', s, m, args, below, meth, c, A, Q, nL'⟩ := K
  obtain ⟨D, cl, tys, ad, cg, N⟩ := B
  obtain ⟨rfl, rfl, rfl, hx, hb, hml, hown, hts, hK, hA⟩ := k
  intro H locs ls hP hD hS hl
  exact hrow p e s m args below meth c H locs Q ls hx hb (fun q => h1 q H locs ls hP hD hS hl) (fun q => h2 q H locs ls hP hD hS hl)
theorem gg_sub {lv' : gLv} (ks : List Nat) (hs : lv_pick lv ks = lv') (h : GG K B C pc lv' st) : GG K B C pc lv st := by
  obtain ⟨p, l', e, R', s, m, args, below, meth, c, A, Q, nL'⟩ := K
  obtain ⟨D, cl, tys, ad, cg, N⟩ := B
  intro H locs ls hP hD hS hl
  exact h H locs ls hP hD hS (lv_sub hl ks hs)
theorem gg_ct {C' : gSt} (hC : C = C') (h : GG K B C' pc lv st) : GG K B C pc lv st := hC ▸ h
theorem gg_st {st' : List Value} (hC : st = st') (h : GG K B C pc lv st') : GG K B C pc lv st := hC ▸ h
theorem gg_iconst (k : gOk K B l R nL cc own Ts) {n : Int} (hd : decode cc pc = .ok (.iconst n, 1)) (h : GG K B C (pc + 1) lv (.int (iI n) :: st)) : GG K B C pc lv st :=
  gg_go k (fun _ _ _ _ _ _ _ _ _ _ _ _ hx hb _ _ _ _ hw => lv_iconst hx hb hd rfl hw) h
theorem gg_bipush (k : gOk K B l R nL cc own Ts) {n : Int} (hd : decode cc pc = .ok (.bipush n, 2)) (hv : (Int8.ofInt n).toInt32 = iI n) (h : GG K B C (pc + 2) lv (.int (iI n) :: st)) : GG K B C pc lv st :=
  gg_go k (fun _ _ _ _ _ _ _ _ _ _ _ _ hx hb _ _ _ _ hw => lv_bipush hx hb hd hv hw) h
theorem gg_sipush (k : gOk K B l R nL cc own Ts) {n : Int} (hd : decode cc pc = .ok (.sipush n, 3)) (hv : (Int16.ofInt n).toInt32 = iI n) (h : GG K B C (pc + 3) lv (.int (iI n) :: st)) : GG K B C pc lv st :=
  gg_go k (fun _ _ _ _ _ _ _ _ _ _ _ _ hx hb _ _ _ _ hw => lv_sipush hx hb hd hv hw) h
theorem gg_lconst0 (k : gOk K B l R nL cc own Ts) (hd : decode cc pc = .ok (.lconst 0, 1)) (h : GG K B C (pc + 1) lv (.long (iL 0) :: st)) : GG K B C pc lv st :=
  gg_go k (fun _ _ _ _ _ _ _ _ _ _ _ _ hx hb _ _ _ _ hw => lv_lconst hx hb hd rfl hw) h
theorem gg_iload (k : gOk K B l R nL cc own Ts) {i : Nat} {z : Int} (hd : decode cc pc = .ok (.iload i, 2)) (hg : lvg lv i = some (.int (iI z))) (h : GG K B C (pc + 2) lv (.int (iI z) :: st)) : GG K B C pc lv st :=
  gg_go k (fun _ _ _ _ _ _ _ _ _ _ _ _ hx hb _ _ _ hl hw => lv_iload hx hb hd (lvg_at hl hg) hw) h
theorem gg_iload_n (k : gOk K B l R nL cc own Ts) {i : Fin 4} {z : Int} (hd : decode cc pc = .ok (.iload_n i, 1)) (hg : lvg lv i = some (.int (iI z))) (h : GG K B C (pc + 1) lv (.int (iI z) :: st)) : GG K B C pc lv st :=
  gg_go k (fun _ _ _ _ _ _ _ _ _ _ _ _ hx hb _ _ _ hl hw => lv_iload_n hx hb hd rfl (lvg_at hl hg) hw) h
theorem gg_lload (k : gOk K B l R nL cc own Ts) {i : Nat} {z : Int} (hd : decode cc pc = .ok (.lload i, 2)) (hg : lvg lv i = some (.long (iL z))) (h : GG K B C (pc + 2) lv (.long (iL z) :: st)) : GG K B C pc lv st :=
  gg_go k (fun _ _ _ _ _ _ _ _ _ _ _ _ hx hb _ _ _ hl hw => lv_lload hx hb hd (lvg_at hl hg) hw) h
theorem gg_lload_n (k : gOk K B l R nL cc own Ts) {i : Fin 4} {z : Int} (hd : decode cc pc = .ok (.lload_n i, 1)) (hg : lvg lv i = some (.long (iL z))) (h : GG K B C (pc + 1) lv (.long (iL z) :: st)) : GG K B C pc lv st :=
  gg_go k (fun _ _ _ _ _ _ _ _ _ _ _ _ hx hb _ _ _ hl hw => lv_lload_n hx hb hd rfl (lvg_at hl hg) hw) h
theorem gg_aload (k : gOk K B l R nL cc own Ts) {i a : Nat} (hd : decode cc pc = .ok (.aload i, 2)) (hg : lvg lv i = some (.ref a)) (h : GG K B C (pc + 2) lv (.ref a :: st)) : GG K B C pc lv st :=
  gg_go k (fun _ _ _ _ _ _ _ _ _ _ _ _ hx hb _ _ _ hl hw => lv_aload hx hb hd (lvg_at hl hg) hw) h
theorem gg_aload_n (k : gOk K B l R nL cc own Ts) {i : Fin 4} {a : Nat} (hd : decode cc pc = .ok (.aload_n i, 1)) (hg : lvg lv i = some (.ref a)) (h : GG K B C (pc + 1) lv (.ref a :: st)) : GG K B C pc lv st :=
  gg_go k (fun _ _ _ _ _ _ _ _ _ _ _ _ hx hb _ _ _ hl hw => lv_aload_n hx hb hd rfl (lvg_at hl hg) hw) h
theorem gg_iadd (k : gOk K B l R nL cc own Ts) {a b : Int} (hd : decode cc pc = .ok (.iadd, 1)) (h : GG K B C (pc + 1) lv (.int (iI (a + b)) :: st)) : GG K B C pc lv (.int (iI b) :: .int (iI a) :: st) :=
  gg_go k (fun _ _ _ _ _ _ _ _ _ _ _ _ hx hb _ _ _ _ hw => lv_iadd hx hb hd (by rw [iI_add]; exact hw)) h
theorem gg_isub (k : gOk K B l R nL cc own Ts) {a b : Int} (hd : decode cc pc = .ok (.isub, 1)) (h : GG K B C (pc + 1) lv (.int (iI (a - b)) :: st)) : GG K B C pc lv (.int (iI b) :: .int (iI a) :: st) :=
  gg_go k (fun _ _ _ _ _ _ _ _ _ _ _ _ hx hb _ _ _ _ hw => lv_isub hx hb hd (by rw [iI_sub]; exact hw)) h
theorem gg_imul (k : gOk K B l R nL cc own Ts) {a b : Int} (hd : decode cc pc = .ok (.imul, 1)) (h : GG K B C (pc + 1) lv (.int (iI (a * b)) :: st)) : GG K B C pc lv (.int (iI b) :: .int (iI a) :: st) :=
  gg_go k (fun _ _ _ _ _ _ _ _ _ _ _ _ hx hb _ _ _ _ hw => lv_imul hx hb hd (by rw [iI_mul]; exact hw)) h
theorem gg_ineg (k : gOk K B l R nL cc own Ts) {a : Int} (hd : decode cc pc = .ok (.ineg, 1)) (h : GG K B C (pc + 1) lv (.int (iI (-a)) :: st)) : GG K B C pc lv (.int (iI a) :: st) :=
  gg_go k (fun _ _ _ _ _ _ _ _ _ _ _ _ hx hb _ _ _ _ hw => lv_ineg hx hb hd (by rw [iI_neg]; exact hw)) h
theorem gg_ladd (k : gOk K B l R nL cc own Ts) {a b : Int} (hd : decode cc pc = .ok (.ladd, 1)) (h : GG K B C (pc + 1) lv (.long (iL (a + b)) :: st)) : GG K B C pc lv (.long (iL b) :: .long (iL a) :: st) :=
  gg_go k (fun _ _ _ _ _ _ _ _ _ _ _ _ hx hb _ _ _ _ hw => lv_ladd hx hb hd (by rw [iL_add]; exact hw)) h
theorem gg_lsub (k : gOk K B l R nL cc own Ts) {a b : Int} (hd : decode cc pc = .ok (.lsub, 1)) (h : GG K B C (pc + 1) lv (.long (iL (a - b)) :: st)) : GG K B C pc lv (.long (iL b) :: .long (iL a) :: st) :=
  gg_go k (fun _ _ _ _ _ _ _ _ _ _ _ _ hx hb _ _ _ _ hw => lv_lsub hx hb hd (by rw [iL_sub]; exact hw)) h
theorem gg_lmul (k : gOk K B l R nL cc own Ts) {a b : Int} (hd : decode cc pc = .ok (.lmul, 1)) (h : GG K B C (pc + 1) lv (.long (iL (a * b)) :: st)) : GG K B C pc lv (.long (iL b) :: .long (iL a) :: st) :=
  gg_go k (fun _ _ _ _ _ _ _ _ _ _ _ _ hx hb _ _ _ _ hw => lv_lmul hx hb hd (by rw [iL_mul]; exact hw)) h
theorem gg_i2l (k : gOk K B l R nL cc own Ts) {a : Int} (hd : decode cc pc = .ok (.i2l, 1)) (ha : rI a) (h : GG K B C (pc + 1) lv (.long (iL a) :: st)) : GG K B C pc lv (.int (iI a) :: st) :=
  gg_go k (fun _ _ _ _ _ _ _ _ _ _ _ _ hx hb _ _ _ _ hw => lv_i2l hx hb hd (iI_i2l ha) hw) h
theorem gg_l2i (k : gOk K B l R nL cc own Ts) {a : Int} (hd : decode cc pc = .ok (.l2i, 1)) (h : GG K B C (pc + 1) lv (.int (iI a) :: st)) : GG K B C pc lv (.long (iL a) :: st) :=
  gg_go k (fun _ _ _ _ _ _ _ _ _ _ _ _ hx hb _ _ _ _ hw => lv_l2i hx hb hd (iL_l2i a) hw) h
theorem gg_dup (k : gOk K B l R nL cc own Ts) {v : Value} (hd : decode cc pc = .ok (.dup, 1)) (hc : v.category = 1) (h : GG K B C (pc + 1) lv (v :: v :: st)) : GG K B C pc lv (v :: st) :=
  gg_go k (fun _ _ _ _ _ _ _ _ _ _ _ _ hx hb _ _ _ _ hw => lv_dup hx hb hd hc hw) h
theorem gg_pop (k : gOk K B l R nL cc own Ts) {v : Value} (hd : decode cc pc = .ok (.pop, 1)) (hc : v.category = 1) (h : GG K B C (pc + 1) lv st) : GG K B C pc lv (v :: st) :=
  gg_go k (fun _ _ _ _ _ _ _ _ _ _ _ _ hx hb _ _ _ _ hw => lv_pop hx hb hd hc hw) h
theorem gg_dup2 (k : gOk K B l R nL cc own Ts) {v w : Value} (hd : decode cc pc = .ok (.dup2, 1)) (hc : v.category = 1) (hc2 : w.category = 1) (h : GG K B C (pc + 1) lv (v :: w :: v :: w :: st)) : GG K B C pc lv (v :: w :: st) :=
  gg_go k (fun _ _ _ _ _ _ _ _ _ _ _ _ hx hb _ _ _ _ hw => lv_dup2_11 hx hb hd hc hc2 hw) h
theorem gg_dup_x1 (k : gOk K B l R nL cc own Ts) {v w : Value} (hd : decode cc pc = .ok (.dup_x1, 1)) (hc : v.category = 1) (hc2 : w.category = 1) (h : GG K B C (pc + 1) lv (v :: w :: v :: st)) : GG K B C pc lv (v :: w :: st) :=
  gg_go k (fun _ _ _ _ _ _ _ _ _ _ _ _ hx hb _ _ _ _ hw => lv_dup_x1 hx hb hd hc hc2 hw) h
theorem gg_goto (k : gOk K B l R nL cc own Ts) {off : Int} {tgt : Nat} (hd : decode cc pc = .ok (.goto off, 3)) (ht : (pc : Int) + off = (tgt : Int)) (h : GG K B C tgt lv st) : GG K B C pc lv st :=
  gg_go k (fun _ _ _ _ _ _ _ _ _ _ _ _ hx hb _ _ _ _ hw => lv_goto hx hb hd ht hw) h
theorem gg_ldc2 (k : gOk K B l R nL cc own Ts) {idx : Nat} {z : Int} (hd : decode cc pc = .ok (.ldc2_w idx, 3)) (hm : Jvm.Cond.constantLong own idx (iL z) ∈ Ts) (h : GG K B C (pc + 3) lv (.long (iL z) :: st)) : GG K B C pc lv st :=
  gg_go k (fun _ _ _ _ _ _ _ _ _ _ _ _ hx hb ho ht _ _ hw => lv_ldc2 hx hb ho (ht _ hm) hd hw) h
end GG1
