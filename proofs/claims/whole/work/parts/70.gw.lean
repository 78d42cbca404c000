/-! ===== walks that make cells: the world is a list that grows; constructors, and the law itself ===== -/
def GW (K : gK) (D : va_G) (cl : List vw_C) (cells slots : Nat) (ws : va_W) (pc : Nat) (lv : gLv) (st : List Value) : Prop := match K with
  | (p, l, e, R, s, m, args, below, meth, c, A, Q, nL) => ∀ (H : Heap) (locs : List Loc) (ls : Array Slot), va_P D cl ws H → va_D A ws → va_S A s.heap H locs → lv_has ls nL lv → W p l e R s m args below meth c H locs cells slots Q (F0 m pc ls st)
def wOk (K : gK) (D : va_G) (cl : List vw_C) (tys : List (ClassId × FieldType)) (l : Launch) (R : Room) (nL : Nat) (cc : ByteArray) (own : String) (Ts : List Cond) : Prop := match K with
  | (p, l', _, R', s, m, args, _, _, c, A, _, nL') => l' = l ∧ R' = R ∧ nL' = nL ∧ p.tables.exec = Jvm.exec ∧ c.code = cc ∧ c.maxLocals = nL ∧ s.vm.findClass own = some m.cls ∧ (∀ w ∈ Ts, w.before args s = true) ∧ va_K D cl tys s ∧ ∀ q, s.heap.size ≤ q → A q
def nMv (l : Launch) (D : va_G) (cl : List vw_C) (tys : List (ClassId × FieldType)) (y : MethodName) (ws : List Cond) (rm : Room) (As : List Value) (w0 : va_W) (mc ms : Nat) (X : Nat → State → Prop) (post : va_W → Prop) : Prop := ∀ sz : Nat, Met l y ws rm (va_Pc As (fun U => (U.heap.size = sz ∧ va_P D cl w0 U.heap ∧ va_K D cl tys U ∧ va_D (fun _ => True) w0) ∧ X sz U)) (va_Qv (fun w1 => post w1) (fun w1 t => va_P D cl w1 t.heap ∧ va_K D cl tys t ∧ va_D (va_A w0 sz) w1) (va_A w0 sz)) mc ms (va_A w0 sz)
def noX : Nat → State → Prop := fun _ _ => True
/-- what came back beside the rest, which is unchanged -/
theorem vj {A0 A1 : Nat → Prop} {D : va_G} {cl : List vw_C} {pre wc post w1 : va_W} {H H1 : Heap} (hP : va_P D cl (pre ++ wc ++ post) H) (hD : va_D A0 (pre ++ wc ++ post)) (hA1 : ∀ q, A1 q → (∃ (k : Nat) (e : va_E), wc[k]? = some (q, e)) ∨ H.size ≤ q) (hfree : ∀ q, A1 q → A0 q) (hk1 : ∀ q : Nat, q < H.size → ¬ A1 q → H1[q]? = H[q]?) (hP1 : va_P D cl w1 H1) (hD1 : va_D A1 w1) : va_P D cl (pre ++ w1 ++ post) H1 ∧ va_D A0 (pre ++ w1 ++ post) := by
  have mem : ∀ {l : va_W} {x : Nat × va_E}, x ∈ l → ∃ k, l[k]? = some x := fun h => List.getElem?_of_mem h
  have hlt : ∀ x ∈ pre ++ wc ++ post, x.1 < H.size := fun x hx => by
    obtain ⟨k, hk⟩ := mem hx
    exact (hP k x hk).lt
  -- a cell of pre or post isn't one of wc's
  have apart : ∀ x, (x ∈ pre ∨ x ∈ post) → ¬ A1 x.1 := by
    intro x hx ha
    rcases hA1 _ ha with ⟨k, e, hk⟩ | h
    · have hkw : k < wc.length := (List.getElem?_eq_some_iff.mp hk).1
      have h2 : (pre ++ wc ++ post)[pre.length + k]? = some (x.1, e) := by
        rw [List.append_assoc, List.getElem?_append_right (by omega), show pre.length + k - pre.length = k by omega, List.getElem?_append_left hkw]
        exact hk
      rcases hx with hx | hx
      · obtain ⟨j, hj⟩ := mem hx
        have hjl : j < pre.length := (List.getElem?_eq_some_iff.mp hj).1
        have h3 : (pre ++ wc ++ post)[j]? = some x := by
          rw [List.append_assoc, List.getElem?_append_left hjl]; exact hj
        have := hD.1 j (pre.length + k) x (x.1, e) h3 h2 rfl
        omega
      · obtain ⟨j, hj⟩ := mem hx
        have h3 : (pre ++ wc ++ post)[(pre ++ wc).length + j]? = some x := by
          rw [List.getElem?_append_right (by omega), show (pre ++ wc).length + j - (pre ++ wc).length = j by omega]; exact hj
        have := hD.1 ((pre ++ wc).length + j) (pre.length + k) x (x.1, e) h3 h2 rfl
        rw [List.length_append] at this
        omega
    · have : x.1 < H.size := hlt x (by rcases hx with hx | hx <;> simp [hx])
      omega
  have keep : ∀ x, (x ∈ pre ∨ x ∈ post) → va_at D cl x H1 := fun x hx => by
    have hm : x ∈ pre ++ wc ++ post := by rcases hx with hx | hx <;> simp [hx]
    obtain ⟨k, hk⟩ := mem hm
    exact (hP k x hk).kept (hk1 x.1 (hlt x hm) (apart x hx))
  have hDp : ∀ (i j : Nat) (a b : Nat × va_E), (pre ++ post)[i]? = some a → (pre ++ post)[j]? = some b → a.1 = b.1 → i = j := by
    have sh : ∀ (i : Nat) (a : Nat × va_E), (pre ++ post)[i]? = some a → ∃ i', (pre ++ wc ++ post)[i']? = some a ∧ i' = if i < pre.length then i else i + wc.length := by
      intro i a ha
      by_cases h : i < pre.length
      · rw [List.getElem?_append_left h] at ha
        exact ⟨i, by rw [List.append_assoc, List.getElem?_append_left h]; exact ha, by rw [if_pos h]⟩
      · rw [List.getElem?_append_right (by omega)] at ha
        refine ⟨i + wc.length, ?_, by rw [if_neg h]⟩
        rw [List.getElem?_append_right (by rw [List.length_append]; omega), List.length_append, show i + wc.length - (pre.length + wc.length) = i - pre.length by omega]
        exact ha
    intro i j a b ha hb hab
    obtain ⟨i', h1, e1⟩ := sh i a ha
    obtain ⟨j', h2, e2⟩ := sh j b hb
    have := hD.1 i' j' a b h1 h2 hab
    rw [e1, e2] at this
    split at this <;> split at this <;> omega
  refine ⟨fun k x hk => ?_, ?_, fun k x hk => ?_⟩
  · have hm := List.mem_of_getElem? hk
    rcases List.mem_append.mp hm with h | h
    · rcases List.mem_append.mp h with h | h
      · exact keep x (Or.inl h)
      · obtain ⟨j, hj⟩ := mem h
        exact hP1 j x hj
    · exact keep x (Or.inr h)
  · intro i j a b ha hb hab
    -- where each lies
    have wh : ∀ (i : Nat) (a : Nat × va_E), (pre ++ w1 ++ post)[i]? = some a → (∃ i', (pre ++ post)[i']? = some a ∧ (i = if i' < pre.length then i' else i' + w1.length) ∧ (a ∈ pre ∨ a ∈ post)) ∨ (∃ i', w1[i']? = some a ∧ i = pre.length + i') := by
      intro i a ha
      by_cases h : i < pre.length
      · left
        rw [List.append_assoc, List.getElem?_append_left h] at ha
        exact ⟨i, by rw [List.getElem?_append_left h]; exact ha, by rw [if_pos h], Or.inl (List.mem_of_getElem? ha)⟩
      · by_cases h2 : i < pre.length + w1.length
        · right
          rw [List.getElem?_append_left (by rw [List.length_append]; omega), List.getElem?_append_right (by omega)] at ha
          exact ⟨i - pre.length, ha, by omega⟩
        · left
          rw [List.getElem?_append_right (by rw [List.length_append]; omega), List.length_append] at ha
          refine ⟨i - w1.length, ?_, by rw [if_neg (by omega)]; omega, Or.inr (List.mem_of_getElem? ha)⟩
          rw [List.getElem?_append_right (by omega), show i - w1.length - pre.length = i - (pre.length + w1.length) by omega]
          exact ha
    rcases wh i a ha with ⟨i', hi, ei, mi⟩ | ⟨i', hi, ei⟩ <;> rcases wh j b hb with ⟨j', hj, ej, mj⟩ | ⟨j', hj, ej⟩
    · have := hDp i' j' a b hi hj hab
      rw [ei, ej, this]
    · exact absurd (by rw [hab]; exact hD1.2 j' b hj) (apart a mi)
    · exact absurd (by rw [← hab]; exact hD1.2 i' a hi) (apart b mj)
    · have := hD1.1 i' j' a b hi hj hab
      omega
  · have hm := List.mem_of_getElem? hk
    rcases List.mem_append.mp hm with h | h
    · rcases List.mem_append.mp h with h | h
      · obtain ⟨j, hj⟩ := mem (l := pre ++ wc ++ post) (x := x) (by simp [h])
        exact hD.2 j x hj
      · obtain ⟨j, hj⟩ := mem h
        exact hfree _ (hD1.2 j x hj)
    · obtain ⟨j, hj⟩ := mem (l := pre ++ wc ++ post) (x := x) (by simp [h])
      exact hD.2 j x hj
theorem va_P.mid {D : va_G} {cl : List vw_C} {pre wc post : va_W} {H : Heap} (hP : va_P D cl (pre ++ wc ++ post) H) : va_P D cl wc H := fun k q hk => by
  obtain ⟨j, hj⟩ := List.getElem?_of_mem (show q ∈ pre ++ wc ++ post by simp [List.mem_of_getElem? hk])
  exact hP j q hj
theorem va_D.mid {A : Nat → Prop} {pre wc post : va_W} (hD : va_D A (pre ++ wc ++ post)) : va_D A wc := by
  have sh : ∀ (k : Nat) (q : Nat × va_E), wc[k]? = some q → (pre ++ wc ++ post)[pre.length + k]? = some q := fun k q hk => by
    have hkw : k < wc.length := (List.getElem?_eq_some_iff.mp hk).1
    rw [List.append_assoc, List.getElem?_append_right (by omega), show pre.length + k - pre.length = k by omega, List.getElem?_append_left hkw]
    exact hk
  refine ⟨fun i j a b ha hb hab => ?_, fun k q hk => hD.2 _ q (sh k q hk)⟩
  have := hD.1 _ _ a b (sh i a ha) (sh j b hb) hab
  omega
section GW1
variable {K : gK} {D : va_G} {cl : List vw_C} {tys : List (ClassId × FieldType)} {l : Launch} {R : Room} {nL cells slots : Nat} {cc : ByteArray} {own : String} {Ts : List Cond} {ws : va_W} {pc : Nat} {lv : gLv} {st : List Value}
theorem gw_go (k : wOk K D cl tys l R nL cc own Ts) {pc2 : Nat} {st2 : List Value} (hrow : ∀ (p : Program) (e : Env) (s : State) (m : MethodId) (args : Array Value) (below : List Frame) (meth : Method) (c : Code) (H : Heap) (locs : List Loc) (Q : State → Prop) (ls : Array Slot), p.tables.exec = Jvm.exec → c.code = cc → s.vm.findClass own = some m.cls → (∀ w ∈ Ts, w.before args s = true) → c.maxLocals = ls.size → lv_has ls nL lv → W p l e R s m args below meth c H locs cells slots Q (F0 m pc2 ls st2) → W p l e R s m args below meth c H locs cells slots Q (F0 m pc ls st))
    (h : GW K D cl cells slots ws pc2 lv st2) : GW K D cl cells slots ws pc lv st := by
  obtain ⟨p, l', e, R', s, m, args, below, meth, c, A, Q, nL'⟩ := K
  obtain ⟨rfl, rfl, rfl, hx, hb, hml, hown, hts, hK, hA⟩ := k
  intro H locs ls hP hD hS hl
  exact hrow p e s m args below meth c H locs Q ls hx hb hown hts (hml.trans hl.1.symm) hl (h H locs ls hP hD hS hl)
theorem gw_br (k : wOk K D cl tys l R nL cc own Ts) {pt pf : Nat} {st2 : List Value} {P : Prop} (hrow : ∀ (p : Program) (e : Env) (s : State) (m : MethodId) (args : Array Value) (below : List Frame) (meth : Method) (c : Code) (H : Heap) (locs : List Loc) (Q : State → Prop) (ls : Array Slot), p.tables.exec = Jvm.exec → c.code = cc → (P → W p l e R s m args below meth c H locs cells slots Q (F0 m pt ls st2)) → (¬ P → W p l e R s m args below meth c H locs cells slots Q (F0 m pf ls st2)) → W p l e R s m args below meth c H locs cells slots Q (F0 m pc ls st))
    (h1 : P → GW K D cl cells slots ws pt lv st2) (h2 : ¬ P → GW K D cl cells slots ws pf lv st2) : GW K D cl cells slots ws pc lv st := by
  obtain ⟨p, l', e, R', s, m, args, below, meth, c, A, Q, nL'⟩ := K
  obtain ⟨rfl, rfl, rfl, hx, hb, hml, hown, hts, hK, hA⟩ := k
  intro H locs ls hP hD hS hl
  exact hrow p e s m args below meth c H locs Q ls hx hb (fun q => h1 q H locs ls hP hD hS hl) (fun q => h2 q H locs ls hP hD hS hl)
theorem gw_sub {lv' : gLv} (ks : List Nat) (hs : lv_pick lv ks = lv') (h : GW K D cl cells slots ws pc lv' st) : GW K D cl cells slots ws pc lv st := by
  obtain ⟨p, l', e, R', s, m, args, below, meth, c, A, Q, nL'⟩ := K
  intro H locs ls hP hD hS hl
  exact h H locs ls hP hD hS (lv_sub hl ks hs)
theorem gw_ws {ws' : va_W} (he : ws = ws') (h : GW K D cl cells slots ws' pc lv st) : GW K D cl cells slots ws pc lv st := he ▸ h
theorem gw_widen {c2 s2 : Nat} (h1 : cells ≤ c2) (h2 : slots ≤ s2) (h : GW K D cl c2 s2 ws pc lv st) : GW K D cl cells slots ws pc lv st := by
  obtain ⟨p, l', e, R', s, m, args, below, meth, c, A, Q, nL'⟩ := K
  intro H locs ls hP hD hS hl
  exact W.widen h1 h2 (h H locs ls hP hD hS hl)
theorem gw_iconst (k : wOk K D cl tys l R nL cc own Ts) {n : Int} (hd : decode cc pc = .ok (.iconst n, 1)) (h : GW K D cl cells slots ws (pc + 1) lv (.int (iI n) :: st)) : GW K D cl cells slots ws pc lv st :=
  gw_go k (fun _ _ _ _ _ _ _ _ _ _ _ _ hx hb _ _ _ _ hw => lv_iconst hx hb hd rfl hw) h
theorem gw_bipush (k : wOk K D cl tys l R nL cc own Ts) {n : Int} (hd : decode cc pc = .ok (.bipush n, 2)) (hv : (Int8.ofInt n).toInt32 = iI n) (h : GW K D cl cells slots ws (pc + 2) lv (.int (iI n) :: st)) : GW K D cl cells slots ws pc lv st :=
  gw_go k (fun _ _ _ _ _ _ _ _ _ _ _ _ hx hb _ _ _ _ hw => lv_bipush hx hb hd hv hw) h
theorem gw_sipush (k : wOk K D cl tys l R nL cc own Ts) {n : Int} (hd : decode cc pc = .ok (.sipush n, 3)) (hv : (Int16.ofInt n).toInt32 = iI n) (h : GW K D cl cells slots ws (pc + 3) lv (.int (iI n) :: st)) : GW K D cl cells slots ws pc lv st :=
  gw_go k (fun _ _ _ _ _ _ _ _ _ _ _ _ hx hb _ _ _ _ hw => lv_sipush hx hb hd hv hw) h
theorem gw_iload_n (k : wOk K D cl tys l R nL cc own Ts) {i : Fin 4} {z : Int} (hd : decode cc pc = .ok (.iload_n i, 1)) (hg : lvg lv i = some (.int (iI z))) (h : GW K D cl cells slots ws (pc + 1) lv (.int (iI z) :: st)) : GW K D cl cells slots ws pc lv st :=
  gw_go k (fun _ _ _ _ _ _ _ _ _ _ _ _ hx hb _ _ _ hl hw => lv_iload_n hx hb hd rfl (lvg_at hl hg) hw) h
theorem gw_iload (k : wOk K D cl tys l R nL cc own Ts) {i : Nat} {z : Int} (hd : decode cc pc = .ok (.iload i, 2)) (hg : lvg lv i = some (.int (iI z))) (h : GW K D cl cells slots ws (pc + 2) lv (.int (iI z) :: st)) : GW K D cl cells slots ws pc lv st :=
  gw_go k (fun _ _ _ _ _ _ _ _ _ _ _ _ hx hb _ _ _ hl hw => lv_iload hx hb hd (lvg_at hl hg) hw) h
theorem gw_lload (k : wOk K D cl tys l R nL cc own Ts) {i : Nat} {z : Int} (hd : decode cc pc = .ok (.lload i, 2)) (hg : lvg lv i = some (.long (iL z))) (h : GW K D cl cells slots ws (pc + 2) lv (.long (iL z) :: st)) : GW K D cl cells slots ws pc lv st :=
  gw_go k (fun _ _ _ _ _ _ _ _ _ _ _ _ hx hb _ _ _ hl hw => lv_lload hx hb hd (lvg_at hl hg) hw) h
theorem gw_aload_n (k : wOk K D cl tys l R nL cc own Ts) {i : Fin 4} {a : Nat} (hd : decode cc pc = .ok (.aload_n i, 1)) (hg : lvg lv i = some (.ref a)) (h : GW K D cl cells slots ws (pc + 1) lv (.ref a :: st)) : GW K D cl cells slots ws pc lv st :=
  gw_go k (fun _ _ _ _ _ _ _ _ _ _ _ _ hx hb _ _ _ hl hw => lv_aload_n hx hb hd rfl (lvg_at hl hg) hw) h
theorem gw_iadd (k : wOk K D cl tys l R nL cc own Ts) {a b : Int} (hd : decode cc pc = .ok (.iadd, 1)) (h : GW K D cl cells slots ws (pc + 1) lv (.int (iI (a + b)) :: st)) : GW K D cl cells slots ws pc lv (.int (iI b) :: .int (iI a) :: st) :=
  gw_go k (fun _ _ _ _ _ _ _ _ _ _ _ _ hx hb _ _ _ _ hw => lv_iadd hx hb hd (by rw [iI_add]; exact hw)) h
theorem gw_isub (k : wOk K D cl tys l R nL cc own Ts) {a b : Int} (hd : decode cc pc = .ok (.isub, 1)) (h : GW K D cl cells slots ws (pc + 1) lv (.int (iI (a - b)) :: st)) : GW K D cl cells slots ws pc lv (.int (iI b) :: .int (iI a) :: st) :=
  gw_go k (fun _ _ _ _ _ _ _ _ _ _ _ _ hx hb _ _ _ _ hw => lv_isub hx hb hd (by rw [iI_sub]; exact hw)) h
theorem gw_imul (k : wOk K D cl tys l R nL cc own Ts) {a b : Int} (hd : decode cc pc = .ok (.imul, 1)) (h : GW K D cl cells slots ws (pc + 1) lv (.int (iI (a * b)) :: st)) : GW K D cl cells slots ws pc lv (.int (iI b) :: .int (iI a) :: st) :=
  gw_go k (fun _ _ _ _ _ _ _ _ _ _ _ _ hx hb _ _ _ _ hw => lv_imul hx hb hd (by rw [iI_mul]; exact hw)) h
theorem gw_dup (k : wOk K D cl tys l R nL cc own Ts) {v : Value} (hd : decode cc pc = .ok (.dup, 1)) (hc : v.category = 1) (h : GW K D cl cells slots ws (pc + 1) lv (v :: v :: st)) : GW K D cl cells slots ws pc lv (v :: st) :=
  gw_go k (fun _ _ _ _ _ _ _ _ _ _ _ _ hx hb _ _ _ _ hw => lv_dup hx hb hd hc hw) h
theorem gw_goto (k : wOk K D cl tys l R nL cc own Ts) {off : Int} (tgt : Nat) (hd : decode cc pc = .ok (.goto off, 3)) (ht : (pc : Int) + off = (tgt : Int)) (h : GW K D cl cells slots ws tgt lv st) : GW K D cl cells slots ws pc lv st :=
  gw_go k (fun _ _ _ _ _ _ _ _ _ _ _ _ hx hb _ _ _ _ hw => lv_goto hx hb hd ht hw) h
theorem gw_max (k : wOk K D cl tys l R nL cc own Ts) (hc : cells ≤ R.cells) (hs : slots ≤ R.slots) {idx : Nat} {a b : Int} (ha : rI a) (hb0 : rI b) (hd : decode cc pc = .ok (.invokestatic idx, 3)) (h1 : Cond.methodLink own idx Lib.Math.max.name ∈ Ts) (h2 : Cond.static Lib.Math.max.name ∈ Ts) (h3 : Cond.initialized "java/lang/Math" ∈ Ts) (h4 : Cond.code Lib.Math.max.name Lib.Math.max.code 2 (some .int) ∈ Ts) (hR : 1 ≤ R.frames) (hR2 : (st.map fun v => v.category).sum + 13 ≤ R.locals) (h : GW K D cl cells slots ws (pc + 3) lv (.int (iI (max a b)) :: st)) : GW K D cl cells slots ws pc lv (.int (iI b) :: .int (iI a) :: st) :=
  gw_go k (fun _ _ _ _ _ _ _ _ _ _ _ _ hx hb ho ht hml _ hw => va_mmax hx hb hml ho (ht _ h1) (ht _ h2) (ht _ h3) (ht _ h4) hR hR2 hc hs hd (by rw [iI_max ha hb0]; exact hw)) h
theorem gw_min (k : wOk K D cl tys l R nL cc own Ts) (hc : cells ≤ R.cells) (hs : slots ≤ R.slots) {idx : Nat} {a b : Int} (ha : rI a) (hb0 : rI b) (hd : decode cc pc = .ok (.invokestatic idx, 3)) (h1 : Cond.methodLink own idx Lib.Math.min.name ∈ Ts) (h2 : Cond.static Lib.Math.min.name ∈ Ts) (h3 : Cond.initialized "java/lang/Math" ∈ Ts) (h4 : Cond.code Lib.Math.min.name Lib.Math.min.code 2 (some .int) ∈ Ts) (hR : 1 ≤ R.frames) (hR2 : (st.map fun v => v.category).sum + 13 ≤ R.locals) (h : GW K D cl cells slots ws (pc + 3) lv (.int (iI (min a b)) :: st)) : GW K D cl cells slots ws pc lv (.int (iI b) :: .int (iI a) :: st) :=
  gw_go k (fun _ _ _ _ _ _ _ _ _ _ _ _ hx hb ho ht hml _ hw => va_mmin hx hb hml ho (ht _ h1) (ht _ h2) (ht _ h3) (ht _ h4) hR hR2 hc hs hd (by rw [iI_min ha hb0]; exact hw)) h
theorem gw_istore_n (k : wOk K D cl tys l R nL cc own Ts) {i : Fin 4} {z : Int} (lv' : gLv) (hd : decode cc pc = .ok (.istore_n i, 1)) (hn : (i : Nat) < nL) (hl : ((i : Nat), Value.int (iI z)) :: lv.filter (fun q => !(q.1 == (i : Nat)) && !(q.1 + 1 == (i : Nat) && q.2.category == 2)) = lv') (h : GW K D cl cells slots ws (pc + 1) lv' st) : GW K D cl cells slots ws pc lv (.int (iI z) :: st) := by
  obtain ⟨p, l', e, R', s, m, args, below, meth, c, A, Q, nL'⟩ := K
  obtain ⟨rfl, rfl, rfl, hx, hb, hml, hown, hts, hK, hA⟩ := k
  intro H locs ls hP hD hS hl0
  exact lv_istore_n hx hb hd rfl hl0 hn hl (fun ls' hl' => h H locs ls' hP hD hS hl')
theorem gw_istore (k : wOk K D cl tys l R nL cc own Ts) {i : Nat} {z : Int} (lv' : gLv) (hd : decode cc pc = .ok (.istore i, 2)) (hn : i < nL) (hl : (i, Value.int (iI z)) :: lv.filter (fun q => !(q.1 == i) && !(q.1 + 1 == i && q.2.category == 2)) = lv') (h : GW K D cl cells slots ws (pc + 2) lv' st) : GW K D cl cells slots ws pc lv (.int (iI z) :: st) := by
  obtain ⟨p, l', e, R', s, m, args, below, meth, c, A, Q, nL'⟩ := K
  obtain ⟨rfl, rfl, rfl, hx, hb, hml, hown, hts, hK, hA⟩ := k
  intro H locs ls hP hD hS hl0
  exact lv_istore hx hb hd hl0 hn hl (fun ls' hl' => h H locs ls' hP hD hS hl')
theorem gw_lstore (k : wOk K D cl tys l R nL cc own Ts) {i : Nat} {z : Int} (lv' : gLv) (hd : decode cc pc = .ok (.lstore i, 2)) (hn : i + 1 < nL) (hl : (i, Value.long (iL z)) :: lv.filter (fun q => !(q.1 == i) && (!(q.1 == i + 1) && !(q.1 + 1 == i && q.2.category == 2))) = lv') (h : GW K D cl cells slots ws (pc + 2) lv' st) : GW K D cl cells slots ws pc lv (.long (iL z) :: st) := by
  obtain ⟨p, l', e, R', s, m, args, below, meth, c, A, Q, nL'⟩ := K
  obtain ⟨rfl, rfl, rfl, hx, hb, hml, hown, hts, hK, hA⟩ := k
  intro H locs ls hP hD hS hl0
  exact lv_lstore hx hb hd hl0 hn hl (fun ls' hl' => h H locs ls' hP hD hS hl')
theorem gw_astore_n (k : wOk K D cl tys l R nL cc own Ts) {i : Fin 4} {a : Nat} (lv' : gLv) (hd : decode cc pc = .ok (.astore_n i, 1)) (hn : (i : Nat) < nL) (hl : ((i : Nat), Value.ref a) :: lv.filter (fun q => !(q.1 == (i : Nat)) && !(q.1 + 1 == (i : Nat) && q.2.category == 2)) = lv') (h : GW K D cl cells slots ws (pc + 1) lv' st) : GW K D cl cells slots ws pc lv (.ref a :: st) := by
  obtain ⟨p, l', e, R', s, m, args, below, meth, c, A, Q, nL'⟩ := K
  obtain ⟨rfl, rfl, rfl, hx, hb, hml, hown, hts, hK, hA⟩ := k
  intro H locs ls hP hD hS hl0
  exact lv_astore_n hx hb hd rfl hl0 hn hl (fun ls' hl' => h H locs ls' hP hD hS hl')
theorem gw_iinc (k : wOk K D cl tys l R nL cc own Ts) {i : Nat} {n z : Int} (j : Nat) (lv' : gLv) (hd : decode cc pc = .ok (.iinc i n, 3)) (hj : lv[j]? = some (i, Value.int (iI z))) (hn : i < nL) (hl : (i, Value.int (iI (z + n))) :: lv.filter (fun q => !(q.1 == i) && !(q.1 + 1 == i && q.2.category == 2)) = lv') (h : GW K D cl cells slots ws (pc + 3) lv' st) : GW K D cl cells slots ws pc lv st := by
  obtain ⟨p, l', e, R', s, m, args, below, meth, c, A, Q, nL'⟩ := K
  obtain ⟨rfl, rfl, rfl, hx, hb, hml, hown, hts, hK, hA⟩ := k
  intro H locs ls hP hD hS hl0
  exact lv_iinc hx hb hd hl0 hj (iI_add z n) hn hl (fun ls' hl' => h H locs ls' hP hD hS hl')
theorem gw_icmp_ge (k : wOk K D cl tys l R nL cc own Ts) {a b off : Int} (tgt : Nat) (hd : decode cc pc = .ok (.if_icmp .ge off, 3)) (ht : (pc : Int) + off = (tgt : Int)) (ha : rI a) (hb0 : rI b) (h1 : b ≤ a → GW K D cl cells slots ws tgt lv st) (h2 : ¬ b ≤ a → GW K D cl cells slots ws (pc + 3) lv st) : GW K D cl cells slots ws pc lv (.int (iI b) :: .int (iI a) :: st) :=
  gw_br k (P := b ≤ a) (fun _ _ _ _ _ _ _ _ _ _ _ _ hx hb q1 q2 => lv_icmp_ge hx hb hd ht (fun q => q1 ((iI_le hb0 ha).mp q)) (fun q => q2 (fun w => q ((iI_le hb0 ha).mpr w)))) h1 h2
theorem gw_icmp_gt (k : wOk K D cl tys l R nL cc own Ts) {a b off : Int} (tgt : Nat) (hd : decode cc pc = .ok (.if_icmp .gt off, 3)) (ht : (pc : Int) + off = (tgt : Int)) (ha : rI a) (hb0 : rI b) (h1 : b < a → GW K D cl cells slots ws tgt lv st) (h2 : ¬ b < a → GW K D cl cells slots ws (pc + 3) lv st) : GW K D cl cells slots ws pc lv (.int (iI b) :: .int (iI a) :: st) :=
  gw_br k (P := b < a) (fun _ _ _ _ _ _ _ _ _ _ _ _ hx hb q1 q2 => lv_icmp_gt hx hb hd ht (fun q => q1 ((iI_lt hb0 ha).mp q)) (fun q => q2 (fun w => q ((iI_lt hb0 ha).mpr w)))) h1 h2
theorem gw_icmp_le (k : wOk K D cl tys l R nL cc own Ts) {a b off : Int} (tgt : Nat) (hd : decode cc pc = .ok (.if_icmp .le off, 3)) (ht : (pc : Int) + off = (tgt : Int)) (ha : rI a) (hb0 : rI b) (h1 : a ≤ b → GW K D cl cells slots ws tgt lv st) (h2 : ¬ a ≤ b → GW K D cl cells slots ws (pc + 3) lv st) : GW K D cl cells slots ws pc lv (.int (iI b) :: .int (iI a) :: st) :=
  gw_br k (P := a ≤ b) (fun _ _ _ _ _ _ _ _ _ _ _ _ hx hb q1 q2 => lv_icmp_le hx hb hd ht (fun q => q1 ((iI_le ha hb0).mp q)) (fun q => q2 (fun w => q ((iI_le ha hb0).mpr w)))) h1 h2
theorem gw_icmp_eq (k : wOk K D cl tys l R nL cc own Ts) {a b off : Int} (tgt : Nat) (hd : decode cc pc = .ok (.if_icmp .eq off, 3)) (ht : (pc : Int) + off = (tgt : Int)) (ha : rI a) (hb0 : rI b) (h1 : a = b → GW K D cl cells slots ws tgt lv st) (h2 : ¬ a = b → GW K D cl cells slots ws (pc + 3) lv st) : GW K D cl cells slots ws pc lv (.int (iI b) :: .int (iI a) :: st) :=
  gw_br k (P := a = b) (fun _ _ _ _ _ _ _ _ _ _ _ _ hx hb q1 q2 => lv_icmp_eq hx hb hd ht (fun q => q1 ((iI_eq ha hb0).mp q)) (fun q => q2 (fun w => q ((iI_eq ha hb0).mpr w)))) h1 h2
theorem gw_if_ne (k : wOk K D cl tys l R nL cc own Ts) {z off : Int} (tgt : Nat) (hd : decode cc pc = .ok (.ifCond .ne off, 3)) (ht : (pc : Int) + off = (tgt : Int)) (hz : rI z) (h1 : ¬ z = 0 → GW K D cl cells slots ws tgt lv st) (h2 : z = 0 → GW K D cl cells slots ws (pc + 3) lv st) : GW K D cl cells slots ws pc lv (.int (iI z) :: st) :=
  gw_br k (P := ¬ z = 0) (fun _ _ _ _ _ _ _ _ _ _ _ _ hx hb q1 q2 => lv_if_ne hx hb hd ht (fun q => q1 (fun w => q ((iI_eq0 hz).mpr w))) (fun q => q2 (fun w => w ((iI_eq0 hz).mp q)))) h1 (fun q => h2 (Decidable.not_not.mp q))
theorem gw_lcmp_eq (k : wOk K D cl tys l R nL cc own Ts) {a b off : Int} (tgt : Nat) (hd : decode cc pc = .ok (.lcmp, 1)) (hd2 : decode cc (pc + 1) = .ok (.ifCond .eq off, 3)) (ht : ((pc + 1 : Nat) : Int) + off = (tgt : Int)) (ha : rL a) (hb0 : rL b) (h1 : a = b → GW K D cl cells slots ws tgt lv st) (h2 : ¬ a = b → GW K D cl cells slots ws (pc + 4) lv st) : GW K D cl cells slots ws pc lv (.long (iL b) :: .long (iL a) :: st) :=
  gw_go k (fun _ _ _ _ _ _ _ _ _ _ _ _ hx hb _ _ _ _ hw => W.lcmp hx hb hd (by rw [iL_cmp ha hb0]; exact hw)) (gw_br k (pc := pc + 1) (P := a = b) (fun _ _ _ _ _ _ _ _ _ _ _ _ hx hb q1 q2 => lv_if_eq hx hb hd2 ht (fun q => q1 (by
    have h := (iI_eq0 (rI_cmp a b)).mp q
    by_cases w : b < a
    · rw [if_pos w] at h; omega
    · rw [if_neg w] at h; split at h <;> omega)) (fun q => q2 (fun w => q (by rw [iI_eq0 (rI_cmp a b), if_neg (by omega), if_pos w])))) h1 h2)
end GW1
