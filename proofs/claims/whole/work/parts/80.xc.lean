/-- a table of one row that covers the pc and names a class to which the thrown object's class can be assigned: the search finds it -/
theorem xc_find {e : Env} {s : State} {f : JFrame} {a : Addr} {meth : Method} {code : Code} {x : ExceptionTableEntry} {c : ClassId} {cell : Cell} (hm : s.vm.method? f.method = some meth) (hc : meth.code = some code) (ht : code.exceptionTable.toList = [x]) (hx : covers x f.pc = true) (h0 : x.catchType ≠ 0) (hl : s.vm.ClassLinks e.platform f.method.cls x.catchType c) (hcell : s.heap[a]? = some cell) (hobj : ∀ k, cell.vm ≠ .statics k) (hk : ∃ k, s.vm.classes[cell.cls]? = some k) (hc2 : ∃ k, s.vm.classes[c]? = some k) (hfit : s.vm.assignable cell.cls c = true) (Q : Handler → Pre) (E : CtlPost) (d : Bool) (acts : List Action) :
    wp (findHandler f a) Q E e d acts s ↔ Q (.found x.handlerPc) d acts (s.setVm (s.vm.noted f.method.cls x.catchType (.cls c))) := by
  rw [W.findHandler_eq hm hc, ht]
  simp only [covers] at hx
  obtain ⟨ha, ht⟩ := (resolveClass_links e.toSetting hl).op (op := VmOp.resolveClass f.method.cls x.catchType) rfl
  have hal : s.vm.Alike (s.vm.noted f.method.cls x.catchType (.cls c)) := (Vm.Alike.refl s.vm).noted _ _ _
  obtain ⟨k1, hk1⟩ := hk
  obtain ⟨k2, hk2⟩ := hc2
  obtain ⟨k1', hk1', -⟩ := hal.2.2 _ _ hk1
  obtain ⟨k2', hk2', -⟩ := hal.2.2 _ _ hk2
  have hfit' : (s.vm.noted f.method.cls x.catchType (.cls c)).assignable cell.cls c = true := by rw [hal.assignable]; exact hfit
  simp [findHandler.go, hx, h0, ha, ht, hcell, hobj, hk1', hk2', hfit', VmOp.dirties, VmOp.acts]
/-- one step: from the thrown object to the handler -/
theorem xc_step {tb : Tables} {e : Env} {s target : State} {g : JFrame} {c : Code} {below : List Frame} {a : Addr} (h : At s g.method c below) {pc : Nat} {vm' : Vm} (hfind : ∀ (Q : Handler → Pre) (E : CtlPost) (d : Bool) (acts : List Action), wp (findHandler g a) Q E e d acts ((s.setTop g).pushFrame (.throwing a)) ↔ Q (.found pc) d acts (((s.setTop g).pushFrame (.throwing a)).setVm vm')) (hrest : Steps tb e below ((s.setVm vm').setTop { g with pc := pc, stack := [.ref a] }) target) : Steps tb e below ((s.setTop g).pushFrame (.throwing a)) target := by
  obtain ⟨hgo, hw⟩ := h.throwing a
  refine Steps.head hgo hw ?_
  have hst : ∀ (S : State) (r : List Frame), (∀ (Q : Handler → Pre) (E : CtlPost) (d : Bool) (acts : List Action), wp (findHandler g a) Q E e d acts S ↔ Q (.found pc) d acts (S.setVm vm')) → (stepThrowing e S a (.java g :: r)).Is ((S.setVm vm').setFrames (.java { g with pc := pc, stack := [.ref a] } :: r)) [] := by
    intro S r hS
    simp only [stepThrowing, searchFrame, vmDo]
    generalize hr : Sem.go _ e false [] S = res
    obtain ⟨as, rfl, ha⟩ := Sem.eq_ok_of hr (a := Handler.found pc) (s' := S.setVm vm') (acts' := []) (by simp [hS _ _ _ _])
    exact ⟨rfl, ha⟩
  rw [stepThread_throwing (frames_entered h.top _), (hst _ _ hfind).1]
  obtain ⟨g₀, hg⟩ := Option.isSome_iff_exists.mp h.top
  obtain ⟨r, hr⟩ := State.topJava?_eq_some.mp hg
  have hr' : (s.setVm vm').frames = .java g₀ :: r := hr
  have hsf : ∀ (u : State) (F G : List Frame), ((u.setFrames F).setVm vm').setFrames G = (u.setVm vm').setFrames G := fun u F G => by
    rw [show (u.setFrames F).setVm vm' = (u.setVm vm').setFrames F from rfl, State.setFrames_setFrames]
  rw [State.setTop_of_frames _ hr'] at hrest
  rw [hr, List.tail_cons, State.pushFrame, hsf, State.setTop_of_frames _ hr, hsf]
  exact hrest
section XC
variable {p : Program} {l : Launch} {e : Env} {R : Room} {s : State} {m : MethodId} {args : Array Value} {below : List Frame} {meth : Method} {c : Code} {H : Heap} {locs : List Loc} {cells slots : Nat} {Q : State → Prop} {ls : Array Slot} {rest : List Value} {pc : Nat}
theorem xc_catch {own name : String} {E : String} {ce : Cell} {q : Addr} (hown : s.vm.findClass own = some m.cls) (x : ExceptionTableEntry) (ht : c.exceptionTable.toList = [x]) (hx : covers x pc = true) (h0 : x.catchType ≠ 0)
    (hlink : (Cond.classLink own x.catchType name).before args s = true) (hcast : (Cond.castable E name).before args s = true) (hcell : H[q]? = some ce) (hv : ce.vm = .none) (hcl : s.vm.findClass E = some ce.cls)
    (kk : W p l e R s m args below meth c H locs cells slots Q (F0 m x.handlerPc ls [.ref q])) : vx_W p l e R s m args below meth c H locs cells slots Q (F0 m pc ls rest) q := by
  intro T hT X
  have hpl : e.platform.magicAccessors = ({} : Platform).magicAccessors := by rw [X.admits.platform]
  obtain ⟨c3, c4, hc3, hc4, hasg⟩ := Cond.castable_spec hcast
  cases Option.some.inj (hc3.symm.trans hcl)
  obtain ⟨c5, hc5, hcl5⟩ := Cond.classLink_spec hown hlink e.platform hpl
  cases Option.some.inj (hc4.symm.trans hc5)
  have hW := X.warmed
  obtain ⟨dk, _, _, kt, hd, _, _, _, _, hkt, _, hopen⟩ := hcl5.here
  obtain ⟨kt', hkt', -⟩ := hW.alike.2.2 _ _ hkt
  obtain ⟨k0, hk0⟩ := Vm.classAt_of_assignable hasg ⟨kt, hkt⟩
  obtain ⟨k0', hk0', -⟩ := hW.alike.2.2 _ _ hk0
  have hf := xc_find (e := e) (s := (T.setTop (F0 m pc ls rest)).pushFrame (.throwing q)) (f := F0 m pc ls rest) (a := q) (meth := meth) (code := c) (x := x) (c := c4) (cell := ce) X.method' X.code ht hx h0 (hW.classLinks hcl5) (by show T.heap[q]? = some ce; rw [hT]; exact hcell) (VmData.ne_statics_of (by rw [hv]; rfl)) ⟨k0', hk0'⟩ ⟨kt', hkt'⟩ (by show T.vm.assignable ce.cls c4 = true; rw [hW.alike.assignable]; exact hasg)
  obtain ⟨t, a1, b1⟩ := kk (T.setVm (T.vm.noted m.cls x.catchType (.cls c4))) hT (X.noted (hW.noted hd hopen (State.rightAt_cls hcl5)))
  exact ⟨t, xc_step X.here hf a1, b1⟩
end XC
/-! ===== share of the class: a price, or its exception ===== -/
abbrev aeN : String := "java/lang/ArithmeticException"
abbrev aeB : List Cond := [.declares (Bundle.initS "java/lang/RuntimeException"), .declares (Bundle.initS "java/lang/Exception"), .declares (Bundle.initS Bundle.tN), .castable aeN aeN]
/-- what a throw needs of the state, the cells of A apart -/
def xE (A : Nat → Prop) (U : State) : Prop := (∃ sa : Nat, vk_R RX5 162 "a share of a price that is 0" sa U) ∧ vx_Zq Bundle.tN "UNASSIGNED_STACK" Bundle.steD A U U.heap ∧ vx_Zq Bundle.tN "SUPPRESSED_SENTINEL" Bundle.listD A U U.heap ∧ va_Nw (.declares (Bundle.initS "java/lang/RuntimeException")) U ∧ va_Nw (.declares (Bundle.initS "java/lang/Exception")) U ∧ va_Nw (.declares (Bundle.initS Bundle.tN)) U ∧ va_Nw (.castable aeN aeN) U
theorem ae_not : ∀ w ∈ (vx_atS RX5 164 aeN ["java/lang/RuntimeException", "java/lang/Exception"]).filter (fun w => !goodWord w), w ∈ aeB := by decide +kernel
theorem ae_good : ∀ w ∈ Cond.classLink RX5 160 aeN :: Cond.initialized aeN :: vx_atS RX5 164 aeN ["java/lang/RuntimeException", "java/lang/Exception"], vx_ot w = true := by decide +kernel
theorem ae_in : ∀ w ∈ (vx_atS RX5 164 aeN ["java/lang/RuntimeException", "java/lang/Exception"]).filter goodWord, w ∈ wsX5_share := fun _ h => List.mem_cons_of_mem _ (List.mem_append_right _ h)
theorem ae_l : Cond.classLink RX5 160 aeN ∈ wsX5_share ∧ Cond.initialized aeN ∈ wsX5_share := by decide +kernel
theorem xE.go {A A' : Nat → Prop} {s U : State} (h : xE A s) (hW : s.WarmedH U.vm) (hk : ∀ q, q < s.heap.size → ¬ A q → U.heap[q]? = s.heap[q]?) (hA : ∀ q, A' q → A q) : xE A' U := by
  obtain ⟨⟨sa, h1⟩, h2, h3, h4, h5, h6, h7⟩ := h
  exact ⟨⟨sa, vk_R.warm hW h1⟩, vx_Zq.moved hW.alike ((h2.kept hk).narrow hA), vx_Zq.moved hW.alike ((h3.kept hk).narrow hA), va_Nw.warmD hW h4, va_Nw.warmD hW h5, va_Nw.warmD hW h6, va_Nw.warmC hW h7⟩
theorem xE.call {A : Nat → Prop} {U : State} {g : JFrame} {mk : MethodId} {a : Array Value} (h : xE A U) : xE A (U.calling g mk a) := h.go (State.WarmedH.refl U) (fun _ _ _ => rfl) (fun _ h => h)
def gxMl (l : Launch) (B : gB) (y : MethodName) (ws : List Cond) (rm : Room) (As : List Value) (C : gSt) (post : Int → gSt → Prop) (px : gSt → Prop) : Prop := ∀ sz : Nat, vx_Met l y ws rm (va_Pc As (fun U => gPre B C sz U ∧ xE (gA B sz) U)) (va_Ql (fun r C' => ∃ z, r = iL z ∧ rL z ∧ post z C') (gPost B sz) (gA B sz)) (vx_X px (fun E C' t => E = aeN ∧ gPost B sz C' t) (gA B sz)) 1 6 (gA B sz)
abbrev rX5_share : Room := { frames := 6, cells := 1, slots := 6, locals := 141 }
theorem gxMl_of {l : Launch} {B : gB} {C : gSt} (htr : l.stackTraces = false) {As : List Value} {post : Int → gSt → Prop} {px : gSt → Prop} (hn : (lg_sl As).length ≤ 5)
    (body : ∀ K : gK, gOk K B l rX5_share 5 cX5_share RX5 wsX5_share → gRl K B cX5_share post → (∀ (lv : gLv) (C' : gSt), px C' → GG K B C' 30 lv []) → GG K B C 0 (lv_args 0 As) []) : gxMl l B yX5_share wsX5_share rX5_share As C post px := by
  intro sz
  refine vx_ofW (cc := cX5_share) (maxL := 5) (ret := some .long) (by decide) rfl ?_
  intro p e s m args below meth c s₁ Bd hml htab hv
  obtain ⟨D, cl, tys, ad, cg, N⟩ := B
  obtain ⟨rfl, ⟨hsz, hP, hK, hD0⟩, hX⟩ := hv
  have hlocks := Bd.notSynchronized
  have hD := gA_start (D := D) (cl := cl) (tys := tys) (sz := sz) hD0
  have hl := lv_entry As (n := 5) hn
  have hts := atoms_spec (ws := wsX5_share) Bd.pre
  have hown : s.vm.findClass RX5 = some m.cls := findClass_of_methodNamed Bd.named
  rw [lg_entry_eq]
  refine body (p, l, e, (headSpec wsX5_share rX5_share).room, s, m, As.toArray, below, meth, c, gA (D, cl, tys, ad, cg, N) sz, _, 5) ⟨rfl, rfl, rfl, Bd.exec, Bd.bytes, hml, hown, hts, hK, fun q h => Or.inr (by rw [← hsz]; exact h)⟩ ?_ ?_ s.heap [] _ hP hD va_S.rf hl
  · intro pc lv z C' hd hz hp H locs ls hP' hD' hS' hl'
    refine vx_ret (W.widen (Nat.zero_le 1) (Nat.zero_le 6) ?_)
    exact W.lret (v := iL z) Bd.exec Bd.bytes Bd.returns (fun t ht hW => ⟨⟨iL z, C', rfl, ⟨z, rfl, hz, hp⟩, by rw [ht]; exact hP', va_K.moved hW.alike hK, hD'⟩, hS'.F ht⟩) hS'.2.2 hd
  · intro lv C' hp H locs ls hP' hD' hS' hl'
    obtain ⟨⟨sa, h1⟩, h2, h3, h4, h5, h6, h7⟩ := hX
    refine vx_throwS (A := gA (D, cl, tys, ad, cg, N) sz) (own := RX5) (cls := aeN) (names := ["java/lang/RuntimeException", "java/lang/Exception"]) (text := "a share of a price that is 0") (sa := sa) (ik := 160) (is := 162) (ic := 164) Bd.exec Bd.bytes htr hown (by decide +kernel) (by decide +kernel) (hts _ ae_l.1) (hts _ ae_l.2) h1 (vx_hat (B := aeB) (fun w hw => hts w (ae_in w hw)) ae_not (vx_c (va_Nw.use rfl h4) (vx_c (va_Nw.use rfl h5) (vx_c (va_Nw.use rfl h6) (vx_c (va_Nw.use rfl h7) vx_n))))) ae_good h2 h3 hS' (hl'.1.trans hml.symm) dX5_share_30 dX5_share_33 dX5_share_34 dX5_share_36 dX5_share_39 (fun x hx => (htab x hx).elim) (Nat.le_of_ble_eq_true rfl) (Nat.le_of_ble_eq_true rfl) (Nat.le_of_ble_eq_true rfl) (Nat.le_of_ble_eq_true rfl) hlocks ?_ hS'.2.2 (Nat.le_refl _) (Nat.le_refl _)
    intro t hal hsz1 hk1
    refine ⟨C', hp, ⟨rfl, hP'.kept (fun k q hk => hk1 q.1 (hP' k q hk).lt), va_K.moved hal hK, hD'⟩, Nat.le_trans hS'.1 hsz1, fun q hq ha => ?_⟩
    rw [hk1 q (Nat.lt_of_lt_of_le hq hS'.1)]
    exact hS'.2.1 q hq ha
