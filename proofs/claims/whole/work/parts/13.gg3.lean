/-! ===== contracts over one world, calls, entry ===== -/
def gA (B : gB) (sz : Nat) : Nat → Prop := fun q => (∃ k, k < B.2.2.2.2.2 ∧ q = gad B k) ∨ sz ≤ q
def gPre (B : gB) (C : gSt) (sz : Nat) (U : State) : Prop := match B with
  | (D, cl, tys, ad, cg, N) => U.heap.size = sz ∧ va_P D cl (gw ad cg N C) U.heap ∧ va_K D cl tys U ∧ va_D (fun _ => True) (gw ad cg N C)
def gPost (B : gB) (sz : Nat) (C : gSt) (t : State) : Prop := match B with
  | (D, cl, tys, ad, cg, N) => va_P D cl (gw ad cg N C) t.heap ∧ va_K D cl tys t ∧ va_D (gA (D, cl, tys, ad, cg, N) sz) (gw ad cg N C)
def gMi (l : Launch) (B : gB) (y : MethodName) (ws : List Cond) (rm : Room) (As : List Value) (C : gSt) (post : Int → gSt → Prop) : Prop := ∀ sz : Nat, Met l y ws rm (va_Pc As (gPre B C sz)) (va_Qi (fun r C' => ∃ z, r = iI z ∧ rI z ∧ post z C') (gPost B sz) (gA B sz)) 0 0 (gA B sz)
def gMl (l : Launch) (B : gB) (y : MethodName) (ws : List Cond) (rm : Room) (As : List Value) (C : gSt) (post : Int → gSt → Prop) : Prop := ∀ sz : Nat, Met l y ws rm (va_Pc As (gPre B C sz)) (va_Ql (fun r C' => ∃ z, r = iL z ∧ rL z ∧ post z C') (gPost B sz) (gA B sz)) 0 0 (gA B sz)
def gMv (l : Launch) (B : gB) (y : MethodName) (ws : List Cond) (rm : Room) (As : List Value) (C : gSt) (post : gSt → Prop) : Prop := ∀ sz : Nat, Met l y ws rm (va_Pc As (gPre B C sz)) (va_Qv (fun C' => post C') (gPost B sz) (gA B sz)) 0 0 (gA B sz)
theorem gPre_blind {B : gB} {C : gSt} {sz : Nat} {As : List Value} : FrameBlind (va_Pc As (gPre B C sz)) := by
  intro a U g mk q
  obtain ⟨D, cl, tys, ad, cg, N⟩ := B
  obtain ⟨q0, q1, qP, qK, qD⟩ := q
  exact ⟨q0, q1, qP, va_K.moved (u := U) (U := U.calling g mk a) (Vm.Alike.refl U.vm) qK, qD⟩
theorem gA_in {B : gB} {A : Nat → Prop} {C : gSt} {H0 H : Heap} {locs : List Loc} (hD : va_D A (gw B.2.2.2.1 B.2.2.2.2.1 B.2.2.2.2.2 C)) (hS : va_S A H0 H locs) (hA : ∀ q, H0.size ≤ q → A q) : ∀ q, gA B H.size q → A q := by
  intro q h
  rcases h with ⟨k, hk, rfl⟩ | h
  · exact hD.2 k _ (gw_at hk)
  · exact hA q (Nat.le_trans hS.1 h)
theorem gD_in {ad : Nat → Nat} {cg : gCg} {N : Nat} {A A' : Nat → Prop} {C C' : gSt} (hD : va_D A (gw ad cg N C)) (hD' : va_D A' (gw ad cg N C')) : va_D A (gw ad cg N C') := by
  refine ⟨hD'.1, fun k q hk => ?_⟩
  obtain ⟨h1, rfl⟩ := gw_in hk
  exact (hD.2 k (ad k, cg k (C k)) (gw_at h1) : A (ad k))
/-- what a return row gives -/
def gRi (K : gK) (B : gB) (cc : ByteArray) (post : Int → gSt → Prop) : Prop := ∀ (pc : Nat) (lv : gLv) (z : Int) (C' : gSt), decode cc pc = .ok (.ireturn, 1) → rI z → post z C' → GG K B C' pc lv [.int (iI z)]
def gRl (K : gK) (B : gB) (cc : ByteArray) (post : Int → gSt → Prop) : Prop := ∀ (pc : Nat) (lv : gLv) (z : Int) (C' : gSt), decode cc pc = .ok (.lreturn, 1) → rL z → post z C' → GG K B C' pc lv [.long (iL z)]
def gRv (K : gK) (B : gB) (cc : ByteArray) (post : gSt → Prop) : Prop := ∀ (pc : Nat) (lv : gLv) (C' : gSt), decode cc pc = .ok (.return_, 1) → post C' → GG K B C' pc lv []
section GG3
variable {K : gK} {B : gB} {C : gSt} {l : Launch} {R : Room} {nL : Nat} {cc : ByteArray} {own : String} {Ts : List Cond} {pc : Nat} {lv : gLv} {st : List Value}
theorem gA_start {D : va_G} {cl : List vw_C} {tys : List (ClassId × FieldType)} {ad : Nat → Nat} {cg : gCg} {N sz : Nat} {C : gSt} (hD : va_D (fun _ => True) (gw ad cg N C)) : va_D (gA (D, cl, tys, ad, cg, N) sz) (gw ad cg N C) := by
  refine ⟨hD.1, fun k q hk => ?_⟩
  obtain ⟨h1, rfl⟩ := gw_in hk
  exact Or.inl ⟨k, h1, rfl⟩
theorem gMi_of {y : MethodName} {ws ws' : List Cond} {rm : Room} {As : List Value} {post : Int → gSt → Prop} {ty : FieldType} (hty : ty = .int) (hy : plainName y.cls = true) (hw : ws = Cond.code y cc nL (some ty) :: ws') (hn : (lg_sl As).length ≤ nL)
    (body : ∀ K : gK, gOk K B l rm nL cc y.cls ws → gRi K B cc post → GG K B C 0 (lv_args 0 As) []) : gMi l B y ws rm As C post := by
  intro sz
  subst hty
  refine Met.ofW (cc := cc) (maxL := nL) (ret := some .int) hy hw ?_
  intro p e s m args below meth c s₁ Bd hml hv
  obtain ⟨D, cl, tys, ad, cg, N⟩ := B
  obtain ⟨rfl, hsz, hP, hK, hD0⟩ := hv
  have hlocks := Bd.notSynchronized
  have hD := gA_start (D := D) (cl := cl) (tys := tys) (sz := sz) hD0
  have hl := lv_entry As (n := nL) hn
  rw [lg_entry_eq]
  refine body (p, l, e, (headSpec ws rm).room, s, m, As.toArray, below, meth, c, gA (D, cl, tys, ad, cg, N) sz, _, nL) ⟨rfl, rfl, rfl, Bd.exec, Bd.bytes, hml, findClass_of_methodNamed Bd.named, atoms_spec (ws := ws) Bd.pre, hK, fun q h => Or.inr (by rw [← hsz]; exact h)⟩ ?_ s.heap [] _ hP hD va_S.rf hl
  intro pc lv z C' hd hz hp H locs ls hP' hD' hS' hl'
  exact W.iret (v := iI z) Bd.exec Bd.bytes Bd.returns (fun t ht hW => ⟨⟨iI z, C', rfl, ⟨z, rfl, hz, hp⟩, by rw [ht]; exact hP', va_K.moved hW.alike hK, hD'⟩, hS'.F ht⟩) hS'.2.2 hd
theorem gMz_of {y : MethodName} {ws ws' : List Cond} {rm : Room} {As : List Value} {post : Int → gSt → Prop} (hy : plainName y.cls = true) (hw : ws = Cond.code y cc nL (some .boolean) :: ws') (hn : (lg_sl As).length ≤ nL) (h01 : ∀ z C', post z C' → z = 0 ∨ z = 1)
    (body : ∀ K : gK, gOk K B l rm nL cc y.cls ws → gRi K B cc post → GG K B C 0 (lv_args 0 As) []) : gMi l B y ws rm As C post := by
  intro sz
  refine Met.ofW (cc := cc) (maxL := nL) (ret := some .boolean) hy hw ?_
  intro p e s m args below meth c s₁ Bd hml hv
  obtain ⟨D, cl, tys, ad, cg, N⟩ := B
  obtain ⟨rfl, hsz, hP, hK, hD0⟩ := hv
  have hlocks := Bd.notSynchronized
  have hD := gA_start (D := D) (cl := cl) (tys := tys) (sz := sz) hD0
  have hl := lv_entry As (n := nL) hn
  rw [lg_entry_eq]
  refine body (p, l, e, (headSpec ws rm).room, s, m, As.toArray, below, meth, c, gA (D, cl, tys, ad, cg, N) sz, _, nL) ⟨rfl, rfl, rfl, Bd.exec, Bd.bytes, hml, findClass_of_methodNamed Bd.named, atoms_spec (ws := ws) Bd.pre, hK, fun q h => Or.inr (by rw [← hsz]; exact h)⟩ ?_ s.heap [] _ hP hD va_S.rf hl
  intro pc lv z C' hd hz hp H locs ls hP' hD' hS' hl'
  exact W.zret (v := iI z) (ty := .boolean) Bd.exec Bd.bytes Bd.returns (by rcases h01 z C' hp with rfl | rfl <;> decide +kernel) (fun t ht hW => ⟨⟨iI z, C', rfl, ⟨z, rfl, hz, hp⟩, by rw [ht]; exact hP', va_K.moved hW.alike hK, hD'⟩, hS'.F ht⟩) hS'.2.2 hd
theorem gMl_of {y : MethodName} {ws ws' : List Cond} {rm : Room} {As : List Value} {post : Int → gSt → Prop} (hy : plainName y.cls = true) (hw : ws = Cond.code y cc nL (some .long) :: ws') (hn : (lg_sl As).length ≤ nL)
    (body : ∀ K : gK, gOk K B l rm nL cc y.cls ws → gRl K B cc post → GG K B C 0 (lv_args 0 As) []) : gMl l B y ws rm As C post := by
  intro sz
  refine Met.ofW (cc := cc) (maxL := nL) (ret := some .long) hy hw ?_
  intro p e s m args below meth c s₁ Bd hml hv
  obtain ⟨D, cl, tys, ad, cg, N⟩ := B
  obtain ⟨rfl, hsz, hP, hK, hD0⟩ := hv
  have hlocks := Bd.notSynchronized
  have hD := gA_start (D := D) (cl := cl) (tys := tys) (sz := sz) hD0
  have hl := lv_entry As (n := nL) hn
  rw [lg_entry_eq]
  refine body (p, l, e, (headSpec ws rm).room, s, m, As.toArray, below, meth, c, gA (D, cl, tys, ad, cg, N) sz, _, nL) ⟨rfl, rfl, rfl, Bd.exec, Bd.bytes, hml, findClass_of_methodNamed Bd.named, atoms_spec (ws := ws) Bd.pre, hK, fun q h => Or.inr (by rw [← hsz]; exact h)⟩ ?_ s.heap [] _ hP hD va_S.rf hl
  intro pc lv z C' hd hz hp H locs ls hP' hD' hS' hl'
  exact W.lret (v := iL z) Bd.exec Bd.bytes Bd.returns (fun t ht hW => ⟨⟨iL z, C', rfl, ⟨z, rfl, hz, hp⟩, by rw [ht]; exact hP', va_K.moved hW.alike hK, hD'⟩, hS'.F ht⟩) hS'.2.2 hd
theorem gMv_of {y : MethodName} {ws ws' : List Cond} {rm : Room} {As : List Value} {post : gSt → Prop} (hy : plainName y.cls = true) (hw : ws = Cond.code y cc nL none :: ws') (hn : (lg_sl As).length ≤ nL)
    (body : ∀ K : gK, gOk K B l rm nL cc y.cls ws → gRv K B cc post → GG K B C 0 (lv_args 0 As) []) : gMv l B y ws rm As C post := by
  intro sz
  refine Met.ofW (cc := cc) (maxL := nL) (ret := none) hy hw ?_
  intro p e s m args below meth c s₁ Bd hml hv
  obtain ⟨D, cl, tys, ad, cg, N⟩ := B
  obtain ⟨rfl, hsz, hP, hK, hD0⟩ := hv
  have hlocks := Bd.notSynchronized
  have hD := gA_start (D := D) (cl := cl) (tys := tys) (sz := sz) hD0
  have hl := lv_entry As (n := nL) hn
  rw [lg_entry_eq]
  refine body (p, l, e, (headSpec ws rm).room, s, m, As.toArray, below, meth, c, gA (D, cl, tys, ad, cg, N) sz, _, nL) ⟨rfl, rfl, rfl, Bd.exec, Bd.bytes, hml, findClass_of_methodNamed Bd.named, atoms_spec (ws := ws) Bd.pre, hK, fun q h => Or.inr (by rw [← hsz]; exact h)⟩ ?_ s.heap [] _ hP hD va_S.rf hl
  intro pc lv C' hd hp H locs ls hP' hD' hS' hl'
  exact W.vret Bd.exec Bd.bytes Bd.returns (fun t ht hW => ⟨⟨C', rfl, hp, by rw [ht]; exact hP', va_K.moved hW.alike hK, hD'⟩, hS'.F ht⟩) hS'.2.2 hd
/-- what a call asks of the names, of an instance method and of a static one -/
def gCw (R : Room) (own : String) (Ts : List Cond) (Cn : String) (idx : Nat) (y : MethodName) (ws : List Cond) (rm : Room) (n : Nat) (ret : Option FieldType) : Prop := ∃ (bytes : ByteArray) (maxL : Nat) (ws' : List Cond), GoodIn Ts (wsV own idx Cn y ws) ∧ ws = Cond.code y bytes maxL ret :: ws' ∧ rm.cells = 0 ∧ rm.slots = 0 ∧ (y.cls = Cn ∧ y.cls ≠ "java/lang/invoke/MethodHandle" ∧ y.cls ≠ "java/lang/invoke/VarHandle" ∧ (parseMethodDescriptor y.desc).map (fun d => d.parameters.length) = some n) ∧ (rm.frames + 1 ≤ R.frames ∧ 8 + (maxL + 11) + rm.locals ≤ R.locals)
def gCs (R : Room) (own : String) (Ts : List Cond) (idx : Nat) (y : MethodName) (ws : List Cond) (rm : Room) (n : Nat) (ret : Option FieldType) : Prop := ∃ (bytes : ByteArray) (maxL : Nat) (ws' : List Cond), GoodIn Ts (va_wsS own idx y ws) ∧ ws = Cond.code y bytes maxL ret :: ws' ∧ rm.cells = 0 ∧ rm.slots = 0 ∧ (y.cls ≠ "java/lang/invoke/MethodHandle" ∧ y.cls ≠ "java/lang/invoke/VarHandle" ∧ (parseMethodDescriptor y.desc).map (fun d => d.parameters.length) = some n) ∧ (rm.frames + 1 ≤ R.frames ∧ 8 + (maxL + 11) + rm.locals ≤ R.locals)
theorem gg_calli (k : gOk K B l R nL cc own Ts) {y : MethodName} {ws : List Cond} {rm : Room} {q Nf idx n : Nat} {Cn : String} {T : u_T} {fs : (Int → Int) → List Value} {ret : Option FieldType} {As rest : List Value} {post : Int → gSt → Prop} (hM : gMi l B y ws rm (.ref (gad B q) :: As) C post) (hcw : gCw R own Ts Cn idx y ws rm n ret) (hq : gOB B q Cn T Nf fs) (hst : st = As.reverse ++ .ref (gad B q) :: rest) (hn : As.length = n) (hr : (rest.map fun v => v.category).sum ≤ 8) (hd : decode cc pc = .ok (.invokevirtual idx, 3))
    (h : ∀ (z : Int) (C' : gSt), rI z → post z C' → GG K B C' (pc + 3) lv (.int (iI z) :: rest)) : GG K B C pc lv st := by
  obtain ⟨p, l', e', R', s, m, args, below, meth, c, A, Q, nL'⟩ := K
  obtain ⟨D, cl, tys, ad, cg, N⟩ := B
  obtain ⟨rfl, rfl, rfl, hx, hb, hml, hown, hts, hK, hA⟩ := k
  obtain ⟨hqN, ci, hcl, hc⟩ := hq
  obtain ⟨bytes, maxL, ws', hG, hw, hrc, hrs, hd9, hR⟩ := hcw
  intro H locs ls hP hD hS hl0
  have hat : (gw ad cg N C)[q]? = some (ad q, .inr (ci, fs (C q))) := by rw [gw_at hqN]; exact congrArg some (congrArg (Prod.mk (ad q)) (hc (C q)))
  have hF := gA_in (B := (D, cl, tys, ad, cg, N)) hD hS hA
  refine va_calli (va_runV (As := As) (rest := rest) (b := ad q) ⟨hx, hb, hml, hown, hts⟩ (hM H.size) (cwV n hts hG hw hrc hrs hd9 hR) ⟨gPre_blind, va_recv hK hP hcl hat, fun U hU hW => ⟨rfl, by rw [hU], by rw [hU]; exact hP, va_K.moved hW.alike hK, hD.weaken (fun _ _ _ _ => trivial)⟩⟩ rfl hn hl0.1 hst (lv_room hr) hd ⟨Nat.zero_le _, Nat.zero_le _⟩) hS (fun q _ w => hF q w) hF (fun r C' t H1 locs1 ht hvm hw hB hz1 hk1 hS1 => ?_)
  obtain ⟨z, rfl, hz, hp⟩ := hw
  obtain ⟨hP1, hK1, hD1⟩ := hB
  rw [ht] at hP1
  exact h z C' hz hp H1 locs1 ls hP1 (gD_in hD hD1) hS1 hl0
theorem gg_calll (k : gOk K B l R nL cc own Ts) {y : MethodName} {ws : List Cond} {rm : Room} {q Nf idx n : Nat} {Cn : String} {T : u_T} {fs : (Int → Int) → List Value} {ret : Option FieldType} {As rest : List Value} {post : Int → gSt → Prop} (hM : gMl l B y ws rm (.ref (gad B q) :: As) C post) (hcw : gCw R own Ts Cn idx y ws rm n ret) (hq : gOB B q Cn T Nf fs) (hst : st = As.reverse ++ .ref (gad B q) :: rest) (hn : As.length = n) (hr : (rest.map fun v => v.category).sum ≤ 8) (hd : decode cc pc = .ok (.invokevirtual idx, 3))
    (h : ∀ (z : Int) (C' : gSt), rL z → post z C' → GG K B C' (pc + 3) lv (.long (iL z) :: rest)) : GG K B C pc lv st := by
  obtain ⟨p, l', e', R', s, m, args, below, meth, c, A, Q, nL'⟩ := K
  obtain ⟨D, cl, tys, ad, cg, N⟩ := B
  obtain ⟨rfl, rfl, rfl, hx, hb, hml, hown, hts, hK, hA⟩ := k
  obtain ⟨hqN, ci, hcl, hc⟩ := hq
  obtain ⟨bytes, maxL, ws', hG, hw, hrc, hrs, hd9, hR⟩ := hcw
  intro H locs ls hP hD hS hl0
  have hat : (gw ad cg N C)[q]? = some (ad q, .inr (ci, fs (C q))) := by rw [gw_at hqN]; exact congrArg some (congrArg (Prod.mk (ad q)) (hc (C q)))
  have hF := gA_in (B := (D, cl, tys, ad, cg, N)) hD hS hA
  refine va_calll (va_runV (As := As) (rest := rest) (b := ad q) ⟨hx, hb, hml, hown, hts⟩ (hM H.size) (cwV n hts hG hw hrc hrs hd9 hR) ⟨gPre_blind, va_recv hK hP hcl hat, fun U hU hW => ⟨rfl, by rw [hU], by rw [hU]; exact hP, va_K.moved hW.alike hK, hD.weaken (fun _ _ _ _ => trivial)⟩⟩ rfl hn hl0.1 hst (lv_room hr) hd ⟨Nat.zero_le _, Nat.zero_le _⟩) hS (fun q _ w => hF q w) hF (fun r C' t H1 locs1 ht hvm hw hB hz1 hk1 hS1 => ?_)
  obtain ⟨z, rfl, hz, hp⟩ := hw
  obtain ⟨hP1, hK1, hD1⟩ := hB
  rw [ht] at hP1
  exact h z C' hz hp H1 locs1 ls hP1 (gD_in hD hD1) hS1 hl0
theorem gg_callv (k : gOk K B l R nL cc own Ts) {y : MethodName} {ws : List Cond} {rm : Room} {q Nf idx n : Nat} {Cn : String} {T : u_T} {fs : (Int → Int) → List Value} {ret : Option FieldType} {As rest : List Value} {post : gSt → Prop} (hM : gMv l B y ws rm (.ref (gad B q) :: As) C post) (hcw : gCw R own Ts Cn idx y ws rm n ret) (hq : gOB B q Cn T Nf fs) (hst : st = As.reverse ++ .ref (gad B q) :: rest) (hn : As.length = n) (hr : (rest.map fun v => v.category).sum ≤ 8) (hd : decode cc pc = .ok (.invokevirtual idx, 3))
    (h : ∀ (C' : gSt), post C' → GG K B C' (pc + 3) lv rest) : GG K B C pc lv st := by
  obtain ⟨p, l', e', R', s, m, args, below, meth, c, A, Q, nL'⟩ := K
  obtain ⟨D, cl, tys, ad, cg, N⟩ := B
  obtain ⟨rfl, rfl, rfl, hx, hb, hml, hown, hts, hK, hA⟩ := k
  obtain ⟨hqN, ci, hcl, hc⟩ := hq
  obtain ⟨bytes, maxL, ws', hG, hw, hrc, hrs, hd9, hR⟩ := hcw
  intro H locs ls hP hD hS hl0
  have hat : (gw ad cg N C)[q]? = some (ad q, .inr (ci, fs (C q))) := by rw [gw_at hqN]; exact congrArg some (congrArg (Prod.mk (ad q)) (hc (C q)))
  have hF := gA_in (B := (D, cl, tys, ad, cg, N)) hD hS hA
  refine va_callv (va_runV (As := As) (rest := rest) (b := ad q) ⟨hx, hb, hml, hown, hts⟩ (hM H.size) (cwV n hts hG hw hrc hrs hd9 hR) ⟨gPre_blind, va_recv hK hP hcl hat, fun U hU hW => ⟨rfl, by rw [hU], by rw [hU]; exact hP, va_K.moved hW.alike hK, hD.weaken (fun _ _ _ _ => trivial)⟩⟩ rfl hn hl0.1 hst (lv_room hr) hd ⟨Nat.zero_le _, Nat.zero_le _⟩) hS (fun q _ w => hF q w) hF (fun C' t H1 locs1 ht hvm hw hB hz1 hk1 hS1 => ?_)
  obtain ⟨hP1, hK1, hD1⟩ := hB
  rw [ht] at hP1
  exact h C' hw H1 locs1 ls hP1 (gD_in hD hD1) hS1 hl0
theorem gg_callsi (k : gOk K B l R nL cc own Ts) {y : MethodName} {ws : List Cond} {rm : Room} {idx n : Nat} {ret : Option FieldType} {As rest : List Value} {post : Int → gSt → Prop} (hM : gMi l B y ws rm As C post) (hcw : gCs R own Ts idx y ws rm n ret) (hst : st = As.reverse ++ rest) (hn : As.length = n) (hr : (rest.map fun v => v.category).sum ≤ 8) (hd : decode cc pc = .ok (.invokestatic idx, 3))
    (h : ∀ (z : Int) (C' : gSt), rI z → post z C' → GG K B C' (pc + 3) lv (.int (iI z) :: rest)) : GG K B C pc lv st := by
  obtain ⟨p, l', e', R', s, m, args, below, meth, c, A, Q, nL'⟩ := K
  obtain ⟨D, cl, tys, ad, cg, N⟩ := B
  obtain ⟨rfl, rfl, rfl, hx, hb, hml, hown, hts, hK, hA⟩ := k
  obtain ⟨bytes, maxL, ws', hG, hw, hrc, hrs, hd9, hR⟩ := hcw
  intro H locs ls hP hD hS hl0
  have hF := gA_in (B := (D, cl, tys, ad, cg, N)) hD hS hA
  refine va_calli (va_runS (As := As) (rest := rest) ⟨hx, hb, hml, hown, hts⟩ (hM H.size) (va_cwS n hts hG hw hrc hrs hd9 hR) ⟨gPre_blind, fun U hU hW => ⟨rfl, by rw [hU], by rw [hU]; exact hP, va_K.moved hW.alike hK, hD.weaken (fun _ _ _ _ => trivial)⟩⟩ rfl hn hl0.1 hst (lv_room hr) hd ⟨Nat.zero_le _, Nat.zero_le _⟩) hS (fun q _ w => hF q w) hF (fun r C' t H1 locs1 ht hvm hw hB hz1 hk1 hS1 => ?_)
  obtain ⟨z, rfl, hz, hp⟩ := hw
  obtain ⟨hP1, hK1, hD1⟩ := hB
  rw [ht] at hP1
  exact h z C' hz hp H1 locs1 ls hP1 (gD_in hD hD1) hS1 hl0
theorem iI_max {a b : Int} (ha : rI a) (hb : rI b) : (if iI a < iI b then iI b else iI a) = iI (max a b) := by
  by_cases h : a < b
  · rw [if_pos ((iI_lt ha hb).mpr h), Int.max_eq_right (by omega)]
  · rw [if_neg (fun w => h ((iI_lt ha hb).mp w)), Int.max_eq_left (by omega)]
theorem iI_min {a b : Int} (ha : rI a) (hb : rI b) : (if iI b < iI a then iI b else iI a) = iI (min a b) := by
  by_cases h : b < a
  · rw [if_pos ((iI_lt hb ha).mpr h), Int.min_eq_right (by omega)]
  · rw [if_neg (fun w => h ((iI_lt hb ha).mp w)), Int.min_eq_left (by omega)]
theorem iL_max {a b : Int} (ha : rL a) (hb : rL b) : (if iL b < iL a then iL a else iL b) = iL (max a b) := by
  by_cases h : b < a
  · rw [if_pos ((iL_lt hb ha).mpr h), Int.max_eq_left (by omega)]
  · rw [if_neg (fun w => h ((iL_lt hb ha).mp w)), Int.max_eq_right (by omega)]
theorem gg_max (k : gOk K B l R nL cc own Ts) {idx : Nat} {a b : Int} (ha : rI a) (hb0 : rI b) (hd : decode cc pc = .ok (.invokestatic idx, 3)) (h1 : Cond.methodLink own idx Lib.Math.max.name ∈ Ts) (h2 : Cond.static Lib.Math.max.name ∈ Ts) (h3 : Cond.initialized "java/lang/Math" ∈ Ts) (h4 : Cond.code Lib.Math.max.name Lib.Math.max.code 2 (some .int) ∈ Ts) (hR : 1 ≤ R.frames) (hR2 : (st.map fun v => v.category).sum + 13 ≤ R.locals) (h : GG K B C (pc + 3) lv (.int (iI (max a b)) :: st)) : GG K B C pc lv (.int (iI b) :: .int (iI a) :: st) :=
  gg_go k (fun _ _ _ _ _ _ _ _ _ _ _ _ hx hb ho ht hml _ hw => va_mmax hx hb hml ho (ht _ h1) (ht _ h2) (ht _ h3) (ht _ h4) hR hR2 (Nat.zero_le _) (Nat.zero_le _) hd (by rw [iI_max ha hb0]; exact hw)) h
theorem gg_min (k : gOk K B l R nL cc own Ts) {idx : Nat} {a b : Int} (ha : rI a) (hb0 : rI b) (hd : decode cc pc = .ok (.invokestatic idx, 3)) (h1 : Cond.methodLink own idx Lib.Math.min.name ∈ Ts) (h2 : Cond.static Lib.Math.min.name ∈ Ts) (h3 : Cond.initialized "java/lang/Math" ∈ Ts) (h4 : Cond.code Lib.Math.min.name Lib.Math.min.code 2 (some .int) ∈ Ts) (hR : 1 ≤ R.frames) (hR2 : (st.map fun v => v.category).sum + 13 ≤ R.locals) (h : GG K B C (pc + 3) lv (.int (iI (min a b)) :: st)) : GG K B C pc lv (.int (iI b) :: .int (iI a) :: st) :=
  gg_go k (fun _ _ _ _ _ _ _ _ _ _ _ _ hx hb ho ht hml _ hw => va_mmin hx hb hml ho (ht _ h1) (ht _ h2) (ht _ h3) (ht _ h4) hR hR2 (Nat.zero_le _) (Nat.zero_le _) hd (by rw [iI_min ha hb0]; exact hw)) h
theorem gg_maxl (k : gOk K B l R nL cc own Ts) {idx : Nat} {a b : Int} (ha : rL a) (hb0 : rL b) (hd : decode cc pc = .ok (.invokestatic idx, 3)) (h1 : Cond.methodLink own idx Lib.MathLoose.max_long.x ∈ Ts) (h2 : Cond.static Lib.MathLoose.max_long.x ∈ Ts) (h3 : Cond.initialized "java/lang/Math" ∈ Ts) (h4 : Cond.code Lib.MathLoose.max_long.x Lib.MathLoose.max_long.code 4 (some .long) ∈ Ts) (hR : 1 ≤ R.frames) (hR2 : (st.map fun v => v.category).sum + 15 ≤ R.locals) (h : GG K B C (pc + 3) lv (.long (iL (max a b)) :: st)) : GG K B C pc lv (.long (iL b) :: .long (iL a) :: st) :=
  gg_go k (fun _ _ _ _ _ _ _ _ _ _ _ _ hx hb ho ht hml _ hw => va_mmax_long hx hb hml ho (ht _ h1) (ht _ h2) (ht _ h3) (ht _ h4) hR hR2 (Nat.zero_le _) (Nat.zero_le _) hd (by rw [iL_max ha hb0]; exact hw)) h
end GG3
