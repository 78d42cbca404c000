/-! ===== the law's two helpers: cell, share ===== -/
abbrev rL_cell : Room := { frames := 0, cells := 0, slots := 0, locals := 0 }
def xC (L : Nat) (xs : Nat → Int32) : Int := if 0 < L then xz xs 0 else 0
theorem xC_r (L : Nat) (xs : Nat → Int32) : rI (xC L xs) := by
  unfold xC
  split
  · exact xz_r xs 0
  · exact rI_0
theorem va_X.lt {b L : Nat} {xs : Nat → Int32} {U : State} {H : Heap} (h : va_X b L xs U H) : b < H.size := by
  obtain ⟨scr, h1, _⟩ := h
  exact (Array.getElem?_eq_some_iff.mp h1).1
theorem nL_cell {l : Launch} (D : va_G) {b L : Nat} {xs : Nat → Int32} (hL : L < 2147483648) : ∀ sz : Nat, Met l yL_cell wsL_cell rL_cell (va_Pc [.ref b, .int (iI 0)] (fun U => U.heap.size = sz ∧ va_X b L xs U U.heap)) (va_Qi (fun r (_ : Unit) => r = iI (xC L xs)) (fun _ _ => True) (fun q => sz ≤ q)) 0 0 (fun q => sz ≤ q) := by
  intro sz
  refine Met.ofW (cc := cL_cell) (maxL := 2) (ret := some .int) (by decide) rfl ?_
  intro p e s m args below meth c s₁ Bd hml hv
  obtain ⟨rfl, hsz, hX⟩ := hv
  have hlocks := Bd.notSynchronized
  have hl := lv_entry [.ref b, .int (iI 0)] (n := 2) (Nat.le_of_ble_eq_true rfl)
  rw [lg_entry_eq]
  have key : GW (p, l, e, (headSpec wsL_cell rL_cell).room, s, m, [Value.ref b, .int (iI 0)].toArray, below, meth, c, (fun q => sz ≤ q), MQ below (va_Qi (fun r (_ : Unit) => r = iI (xC L xs)) (fun _ _ => True) (fun q => sz ≤ q)) [Value.ref b, .int (iI 0)].toArray s 0 0 (fun q => sz ≤ q), 2) D [] 0 0 [] 0 [(0, .ref b), (1, .int (iI 0))] [] := by
    have k : wOk (p, l, e, (headSpec wsL_cell rL_cell).room, s, m, [Value.ref b, .int (iI 0)].toArray, below, meth, c, (fun q => sz ≤ q), MQ below (va_Qi (fun r (_ : Unit) => r = iI (xC L xs)) (fun _ _ => True) (fun q => sz ≤ q)) [Value.ref b, .int (iI 0)].toArray s 0 0 (fun q => sz ≤ q), 2) D [] [] l rL_cell 2 cL_cell RL wsL_cell := ⟨rfl, rfl, rfl, Bd.exec, Bd.bytes, hml, findClass_of_methodNamed Bd.named, atoms_spec (ws := wsL_cell) Bd.pre, ⟨fun c q h => by simp at h, fun c q h => by simp at h⟩, fun q h => by rw [← hsz]; exact h⟩
    have hS : wX (p, l, e, (headSpec wsL_cell rL_cell).room, s, m, [Value.ref b, .int (iI 0)].toArray, below, meth, c, (fun q => sz ≤ q), MQ below (va_Qi (fun r (_ : Unit) => r = iI (xC L xs)) (fun _ _ => True) (fun q => sz ≤ q)) [Value.ref b, .int (iI 0)].toArray s 0 0 (fun q => sz ≤ q), 2) (wS b L xs) := ⟨hX, hX.lt, fun h => by have := hX.lt; omega⟩
    have hret : ∀ (lv : gLv) (z : Int), z = xC L xs → GW (p, l, e, (headSpec wsL_cell rL_cell).room, s, m, [Value.ref b, .int (iI 0)].toArray, below, meth, c, (fun q => sz ≤ q), MQ below (va_Qi (fun r (_ : Unit) => r = iI (xC L xs)) (fun _ _ => True) (fun q => sz ≤ q)) [Value.ref b, .int (iI 0)].toArray s 0 0 (fun q => sz ≤ q), 2) D [] 0 0 [] 13 lv [.int (iI z)] := by
      intro lv z hz H locs ls hP hD hS hl'
      exact W.iret (v := iI z) Bd.exec Bd.bytes Bd.returns (fun t ht hW => ⟨⟨iI z, (), rfl, by rw [hz], trivial⟩, hS.F ht⟩) hS.2.2 dL_cell_13
    refine gw_iload_n k dL_cell_0 rfl ?_
    refine gw_aload_n k dL_cell_1 rfl ?_
    refine gw_slen k hS dL_cell_2 ?_
    refine gw_icmp_ge k 12 dL_cell_3 (by decide) ⟨by omega, by omega⟩ ⟨by omega, by omega⟩ (fun h => ?_) (fun h => ?_)
    · refine gw_iconst k dL_cell_12 ?_
      exact hret _ _ (by unfold xC; rw [if_neg (by omega)])
    · refine gw_aload_n k dL_cell_6 rfl ?_
      refine gw_iload_n k dL_cell_7 rfl ?_
      refine gw_sld k hS hL (by omega) (by omega) dL_cell_8 ?_
      refine gw_goto k 13 dL_cell_9 (by decide) ?_
      exact hret _ _ (by unfold xC; rw [if_pos (by omega)])
  exact key s.heap [] _ (fun k q h => by simp at h) ⟨fun i j a b h => by simp at h, fun k q h => by simp at h⟩ va_S.rf hl
/-- an int, or a world, from a static method with a table of handlers -/
def nMi (l : Launch) (D : va_G) (cl : List vw_C) (tys : List (ClassId × FieldType)) (y : MethodName) (ws : List Cond) (rm : Room) (As : List Value) (w0 : va_W) (mc ms : Nat) (X : Nat → State → Prop) (post : Int → va_W → Prop) : Prop := ∀ sz : Nat, Met l y ws rm (va_Pc As (fun U => (U.heap.size = sz ∧ va_P D cl w0 U.heap ∧ va_K D cl tys U ∧ va_D (fun _ => True) w0) ∧ X sz U)) (va_Qi (fun r w1 => ∃ z, r = iI z ∧ rI z ∧ post z w1) (fun w1 t => va_P D cl w1 t.heap ∧ va_K D cl tys t ∧ va_D (va_A w0 sz) w1) (va_A w0 sz)) mc ms (va_A w0 sz)
theorem xc_ofWH {l : Launch} {y : MethodName} {ws ws' : List Cond} {rm : Room} {Pc : Array Value → State → Prop} {Qc : Array Value → State → Outcome → State → Prop} {mc ms : Nat} {free : Addr → Prop} {cc : ByteArray} {maxL : Nat} {ret : Option FieldType} {hh : List (Nat × Nat × Nat × Nat)}
    (hy : plainName y.cls = true) (hw : ws = Cond.codeWith y cc maxL ret hh :: ws')
    (body : ∀ p e s m args below meth c s₁, BodyLoose p l y (headSpec ws rm) cc maxL ret e s m args below meth c s₁ → c.maxLocals = maxL → c.exceptionTable.toList = tableOf hh → Pc args s →
      W p l e (headSpec ws rm).room s m args below meth c s.heap [] 0 0 (MQ below Qc args s mc ms free) (entryFrame m args maxL)) : Met l y ws rm Pc Qc mc ms free := by
  refine MetFree.of_bodyS (code := cc) (maxLocals := maxL) (ret := ret) hy ?_ ?_
  · intro args s m h hn
    obtain ⟨m9, meth, c, hn9, h1, h2, h3, h4, -, h5, h6, -⟩ := Cond.codeWith_spec (atoms_spec (ws := ws) h _ (by rw [hw]; exact List.mem_cons_self))
    cases hn.symm.trans hn9
    exact ⟨meth, c, h1, h2, h3, h4, h5, h6⟩
  · intro p e s m args below meth c s₁ B hml hP _
    have hh0 : s₁.heap = s.heap := by rw [B.state]; rfl
    have htab : c.exceptionTable.toList = tableOf hh := vx_table (x := y) B (atoms_spec (ws := ws) B.pre _ (by rw [hw]; exact List.mem_cons_self))
    obtain ⟨t, a1, o, b1, b2, b3⟩ := body p e s m args below meth c s₁ B hml htab hP s₁ hh0 (Stand.of_body B)
    exact ⟨t, o, a1, b1, b2, ⟨b3.1, b3.2⟩⟩
/-- the one row of the method's table -/
def wTab (K : gK) (x : ExceptionTableEntry) : Prop := match K with
  | (_, _, _, _, _, _, _, _, _, c, _, _, _) => c.exceptionTable.toList = [x]
section GW4
variable {K : gK} {D : va_G} {cl : List vw_C} {tys : List (ClassId × FieldType)} {l : Launch} {R : Room} {nL cells slots : Nat} {cc : ByteArray} {own : String} {Ts : List Cond} {ws : va_W} {pc : Nat} {lv : gLv} {st : List Value}
theorem gw_callT (k : wOk K D cl tys l R nL cc own Ts) {ad : Nat → Nat} {cg : gCg} {N : Nat} {C : gSt} (pre suf : va_W) {y : MethodName} {wds wds' : List Cond} {rm : Room} {q Nf idx n maxL : Nat} {bytes : ByteArray} {Cn : String} {T : u_T} {fs : (Int → Int) → List Value} {ret : Option FieldType} {As rest : List Value} {post : Int → gSt → Prop} {px : gSt → Prop} (hM : gxMl l (D, cl, tys, ad, cg, N) y wds rm (.ref (ad q) :: As) C post px) (hG : GoodIn Ts (wsV own idx Cn y wds)) (hw : wds = Cond.code y bytes maxL ret :: wds') (hrc : rm.cells = 1) (hrs : rm.slots = 6) (hd9 : y.cls = Cn ∧ y.cls ≠ "java/lang/invoke/MethodHandle" ∧ y.cls ≠ "java/lang/invoke/VarHandle" ∧ (parseMethodDescriptor y.desc).map (fun d => d.parameters.length) = some n) (hR : rm.frames + 1 ≤ R.frames ∧ 8 + (maxL + 11) + rm.locals ≤ R.locals) (hq : gOB (D, cl, tys, ad, cg, N) q Cn T Nf fs) (hX : wX K xE) (x : ExceptionTableEntry) (htab : wTab K x) (hcov : covers x pc = true) (h0 : x.catchType ≠ 0) (hlink : Cond.classLink own x.catchType aeN ∈ Ts) (hws : ws = pre ++ gw ad cg N C ++ suf) (hst : st = As.reverse ++ .ref (ad q) :: rest) (hn : As.length = n) (hr : (rest.map fun v => v.category).sum ≤ 8) (hc : cells + 1 ≤ R.cells) (hs : slots + 6 ≤ R.slots) (hd : decode cc pc = .ok (.invokevirtual idx, 3))
    (h1 : ∀ (z : Int) (C' : gSt), rL z → post z C' → GW K D cl (cells + 1) (slots + 6) (pre ++ gw ad cg N C' ++ suf) (pc + 3) lv (.long (iL z) :: rest)) (h2 : ∀ (a : Nat) (C' : gSt), px C' → GW K D cl (cells + 1) (slots + 6) (pre ++ gw ad cg N C' ++ suf) x.handlerPc lv [.ref a]) : GW K D cl cells slots ws pc lv st := by
  obtain ⟨p, l', e', R', s, m, args, below, meth, c, A, Q, nL'⟩ := K
  obtain ⟨rfl, rfl, rfl, hx, hb, hml, hown, hts, hK, hA⟩ := k
  obtain ⟨hqN, ci, hcl, hcc⟩ := hq
  subst hws
  intro H locs ls hP hD hS hl0
  have hat : (gw ad cg N C)[q]? = some (ad q, .inr (ci, fs (C q))) := by rw [gw_at hqN]; exact congrArg some (congrArg (Prod.mk (ad q)) (hcc (C q)))
  have hF := gA_in (B := (D, cl, tys, ad, cg, N)) hD.mid hS hA
  have hX : xE A s := hX
  have htab : c.exceptionTable.toList = [x] := htab
  refine vx_calll (vx_runV (As := As) (rest := rest) (b := ad q) ⟨hx, hb, hml, hown, hts⟩ (hM H.size) (cwV n hts hG hw hrc hrs hd9 hR) ⟨fun a U g mk q => by obtain ⟨q0, ⟨q1, qP, qK, qD⟩, qX⟩ := q; exact ⟨q0, ⟨q1, qP, va_K.moved (u := U) (U := U.calling g mk a) (Vm.Alike.refl U.vm) qK, qD⟩, qX.call⟩, va_recv hK hP.mid hcl hat, fun U hU hW => ⟨rfl, ⟨by rw [hU], by rw [hU]; exact hP.mid, va_K.moved hW.alike hK, hD.mid.weaken (fun _ _ _ _ => trivial)⟩, hX.go hW (fun q hq ha => by rw [hU]; exact hS.2.1 q hq ha) hF⟩⟩ rfl hn hl0.1 hst (lv_room hr) hd ⟨hc, hs⟩) hS (fun q _ w => hF q w) hF (fun q _ w => hF q w) (fun E ce q9 C' t H1 locs1 ht hvm hpx hB hz1 hk1 hS1 hce hcv hcl9 => ?_) (fun r C' t H1 locs1 ht hvm hw hB hz1 hk1 hS1 => ?_)
  · obtain ⟨rfl, hP1, hK1, hD1⟩ := hB
    rw [ht] at hP1
    obtain ⟨hP2, hD2⟩ := vj hP hD (gA_w (B := (D, cl, tys, ad, cg, N))) hF hk1 hP1 hD1
    exact xc_catch hown x htab hcov h0 (hts _ hlink) (va_Nw.use rfl hX.2.2.2.2.2.2) hce hcv hcl9 (h2 q9 C' hpx H1 locs1 ls hP2 hD2 hS1 hl0)
  · obtain ⟨z, rfl, hz, hp⟩ := hw
    obtain ⟨hP1, hK1, hD1⟩ := hB
    rw [ht] at hP1
    obtain ⟨hP2, hD2⟩ := vj hP hD (gA_w (B := (D, cl, tys, ad, cg, N))) hF hk1 hP1 hD1
    exact h1 z C' hz hp H1 locs1 ls hP2 hD2 hS1 hl0
theorem gw_callC (k : wOk K D cl tys l R nL cc own Ts) {b L idx maxL : Nat} {xs : Nat → Int32} {bytes : ByteArray} {wds' : List Cond} (hL : L < 2147483648) (hX : wX K (wS b L xs)) (hG : GoodIn Ts (va_wsS own idx yL_cell wsL_cell)) (hw : wsL_cell = Cond.code yL_cell bytes maxL (some .int) :: wds') (hR : 1 ≤ R.frames ∧ 8 + (maxL + 11) + 0 ≤ R.locals) {rest : List Value} (hst : st = .int (iI 0) :: .ref b :: rest) (hr : (rest.map fun v => v.category).sum ≤ 8) (hc : cells ≤ R.cells) (hs : slots ≤ R.slots) (hd : decode cc pc = .ok (.invokestatic idx, 3))
    (h : GW K D cl cells slots ws (pc + 3) lv (.int (iI (xC L xs)) :: rest)) : GW K D cl cells slots ws pc lv st := by
  obtain ⟨p, l', e', R', s, m, args, below, meth, c, A, Q, nL'⟩ := K
  obtain ⟨rfl, rfl, rfl, hx, hb, hml, hown, hts, hK, hA⟩ := k
  have hX : wS b L xs A s := hX
  intro H locs ls hP hD hS hl0
  have hF : ∀ q, H.size ≤ q → A q := fun q hq => hA q (Nat.le_trans hS.1 hq)
  have hXH : va_X b L xs s H := hX.1.kept (hS.2.1 b hX.2.1 hX.2.2)
  refine va_calli (va_runS (As := [.ref b, .int (iI 0)]) (rest := rest) ⟨hx, hb, hml, hown, hts⟩ (nL_cell D hL H.size) (va_cwS 2 hts hG hw rfl rfl (by decide +kernel) hR) ⟨fun a U g mk q => ⟨q.1, q.2.1, va_X.moved (u := U) (U := U.calling g mk a) (Vm.Alike.refl U.vm) q.2.2⟩, fun U hU hW => ⟨rfl, by rw [hU], by rw [hU]; exact hXH.moved hW.alike⟩⟩ rfl rfl hl0.1 hst (lv_room hr) hd ⟨hc, hs⟩) hS (fun q _ w => hF q w) hF (fun r C' t H1 locs1 ht hvm hw hB hz1 hk1 hS1 => ?_)
  subst hw
  have hlt : ∀ (j : Nat) (x : Nat × va_E), ws[j]? = some x → H1[x.1]? = H[x.1]? := fun j x hj => hk1 x.1 (hP j x hj).lt (fun z => by have := (hP j x hj).lt; omega)
  exact h H1 locs1 ls (hP.kept hlt) hD hS1 hl0
theorem gw_callH (k : wOk K D cl tys l R nL cc own Ts) {y : MethodName} {wds wds' : List Cond} {rm : Room} {idx n mc ms maxL : Nat} {bytes : ByteArray} {ret : Option FieldType} {hh : List (Nat × Nat × Nat × Nat)} {As rest : List Value} {w0 : va_W} {X : Nat → State → Prop} {post : Int → va_W → Prop} (pre suf : va_W) (hM : nMi l D cl tys y wds rm As w0 mc ms X post) (hG : GoodIn Ts (va_wsS own idx y wds)) (hw : wds = Cond.codeWith y bytes maxL ret hh :: wds') (hrc : rm.cells = mc) (hrs : rm.slots = ms) (hd9 : y.cls ≠ "java/lang/invoke/MethodHandle" ∧ y.cls ≠ "java/lang/invoke/VarHandle" ∧ (parseMethodDescriptor y.desc).map (fun d => d.parameters.length) = some n) (hR : rm.frames + 1 ≤ R.frames ∧ 8 + (maxL + 11) + rm.locals ≤ R.locals) (hX : wX K (fun A U => ∀ (H : Heap) (V : State), V.heap = H → U.WarmedH V.vm → (∀ q, q < U.heap.size → ¬ A q → H[q]? = U.heap[q]?) → (∀ q, va_A w0 H.size q → A q) → X H.size V)) (hXb : ∀ (sz : Nat) (a : Array Value) (U : State) (g : JFrame) (mk : MethodId), X sz U → X sz (U.calling g mk a)) (hws : ws = pre ++ w0 ++ suf) (hst : st = As.reverse ++ rest) (hn : As.length = n) (hr : (rest.map fun v => v.category).sum ≤ 8) (hc : cells + mc ≤ R.cells) (hs : slots + ms ≤ R.slots) (hd : decode cc pc = .ok (.invokestatic idx, 3))
    (h : ∀ (z : Int) (w1 : va_W), rI z → post z w1 → GW K D cl (cells + mc) (slots + ms) (pre ++ w1 ++ suf) (pc + 3) lv (.int (iI z) :: rest)) : GW K D cl cells slots ws pc lv st := by
  obtain ⟨p, l', e, R', s, m, args, below, meth, c, A, Q, nL'⟩ := K
  obtain ⟨rfl, rfl, rfl, hx, hb, hml, hown, hts, hK, hA⟩ := k
  subst hws
  intro H locs ls hP hD hS hl0
  have hF : ∀ q, va_A w0 H.size q → A q := by
    intro q hq
    rcases hq with ⟨j, e1, hj⟩ | hq
    · exact hD.mid.2 j (q, e1) hj
    · exact hA q (Nat.le_trans hS.1 hq)
  refine va_calli (vx_runSW (As := As) (rest := rest) ⟨hx, hb, hml, hown, hts⟩ (hM H.size) (vx_cwSW n hts hG hw hrc hrs hd9 hR) ⟨fun a U g mk q => by obtain ⟨q0, ⟨q1, qP, qK, qD⟩, qX⟩ := q; exact ⟨q0, ⟨q1, qP, va_K.moved (u := U) (U := U.calling g mk a) (Vm.Alike.refl U.vm) qK, qD⟩, hXb _ a U g mk qX⟩, fun U hU hW => ⟨rfl, ⟨by rw [hU], by rw [hU]; exact hP.mid, va_K.moved hW.alike hK, hD.mid.weaken (fun _ _ _ _ => trivial)⟩, hX H U hU hW (fun q hq ha => hS.2.1 q hq ha) hF⟩⟩ rfl hn hl0.1 hst (lv_room hr) hd ⟨hc, hs⟩) hS (fun q _ w => hF q w) hF (fun r w1 t H1 locs1 ht hvm hw hB hz1 hk1 hS1 => ?_)
  obtain ⟨z, rfl, hz, hp⟩ := hw
  obtain ⟨hP1, hK1, hD1⟩ := hB
  rw [ht] at hP1
  obtain ⟨hP2, hD2⟩ := vj hP hD (fun q hq => hq) hF hk1 hP1 hD1
  exact h z w1 hz hp H1 locs1 ls hP2 hD2 hS1 hl0
end GW4
/-- what the law's share answers -/
def lSh (S : sS) (T w b : Int) (z : Int) (g : Nat → Int64) : Prop := (z = 1 ∧ ((0 ≤ w ∧ w ≤ 3) ∧ 0 ≤ b ∧ b ≤ 3) ∧ sPrice S T b = 0) ∨ (z = 0 ∧ ∃ v : Int, rL v ∧ g 0 = iL v ∧ ((¬ ((0 ≤ w ∧ w ≤ 3) ∧ 0 ≤ b ∧ b ≤ 3) ∧ v = -9223372036854775808) ∨ (((0 ≤ w ∧ w ≤ 3) ∧ 0 ≤ b ∧ b ≤ 3) ∧ sPrice S T b ≠ 0 ∧ v = sShare S T w b)))
abbrev rL_share : Room := { frames := 7, cells := 1, slots := 6, locals := 165 }
theorem linkL : Cond.classLink RL 13 aeN ∈ wsL_share := by decide +kernel
theorem nL_share {l : Launch} {D : va_G} {cI cJ cZ cQ : ClassId} {ad : Nat → Nat} {cg : gCg} {T : Int} {S : sS} {C : gSt} (htr : l.stackTraces = false) (hB : clsB (D, vwD, wT cI cJ cZ cQ, ad, cg, 68) T) (hO : sOk S T) (hR : cRel S T C) (w b : Int) (hw : rI w) (hb : rI b) (o : Nat) (g : Nat → Int64) : nMi l D vwD (wT cI cJ cZ cQ) yL_share wsL_share rL_share [.ref (ad 0), .int (iI w), .int (iI b), .ref o] (gw ad cg 68 C ++ [(o, .inl (cJ, 1, .inr (.inl g)))]) 1 6 (fun sz U => xE (va_A (gw ad cg 68 C ++ [(o, .inl (cJ, 1, .inr (.inl g)))]) sz) U) (fun z w1 => ∃ (C' : gSt) (g' : Nat → Int64), w1 = gw ad cg 68 C' ++ [(o, .inl (cJ, 1, .inr (.inl g')))] ∧ cRel S T C' ∧ lSh S T w b z g') := by
  intro sz
  refine xc_ofWH (cc := cL_share) (maxL := 5) (ret := some .int) (hh := [(0, 9, 12, 13)]) (by decide) rfl ?_
  intro p e s m args below meth c s₁ Bd hml htab hv
  obtain ⟨rfl, ⟨hsz, hP, hK, hD0⟩, hX⟩ := hv
  have hlocks := Bd.notSynchronized
  have hD := hD0.self (sz := sz)
  have hl := lv_entry [.ref (ad 0), .int (iI w), .int (iI b), .ref o] (n := 5) (Nat.le_of_ble_eq_true rfl)
  rw [lg_entry_eq]
  generalize hKe : ((p, l, e, (headSpec wsL_share rL_share).room, s, m, [Value.ref (ad 0), .int (iI w), .int (iI b), .ref o].toArray, below, meth, c, va_A (gw ad cg 68 C ++ [(o, .inl (cJ, 1, .inr (.inl g)))]) sz, MQ below (va_Qi (fun r w1 => ∃ z, r = iI z ∧ rI z ∧ ∃ (C' : gSt) (g' : Nat → Int64), w1 = gw ad cg 68 C' ++ [(o, .inl (cJ, 1, .inr (.inl g')))] ∧ cRel S T C' ∧ lSh S T w b z g') (fun w1 t => va_P D vwD w1 t.heap ∧ va_K D vwD (wT cI cJ cZ cQ) t ∧ va_D (va_A (gw ad cg 68 C ++ [(o, .inl (cJ, 1, .inr (.inl g)))]) sz) w1) (va_A (gw ad cg 68 C ++ [(o, .inl (cJ, 1, .inr (.inl g)))]) sz)) [Value.ref (ad 0), .int (iI w), .int (iI b), .ref o].toArray s 1 6 (va_A (gw ad cg 68 C ++ [(o, .inl (cJ, 1, .inr (.inl g)))]) sz), 5) : gK) = K
  have k : wOk K D vwD (wT cI cJ cZ cQ) l rL_share 5 cL_share RL wsL_share := by
    subst hKe
    exact ⟨rfl, rfl, rfl, Bd.exec, Bd.bytes, hml, findClass_of_methodNamed Bd.named, atoms_spec (ws := wsL_share) Bd.pre, hK, fun q h => Or.inr (by rw [← hsz]; exact h)⟩
  have hret : ∀ (pc : Nat) (lv : gLv) (z : Int) (C' : gSt) (g' : Nat → Int64), decode cL_share pc = .ok (.ireturn, 1) → rI z → cRel S T C' → lSh S T w b z g' → GW K D vwD 1 6 (gw ad cg 68 C' ++ [(o, .inl (cJ, 1, .inr (.inl g')))]) pc lv [.int (iI z)] := by
    subst hKe
    intro pc lv z C' g' hd hz h1 h2 H locs ls hP' hD' hS' hl'
    exact W.iret (v := iI z) Bd.exec Bd.bytes Bd.returns (fun t ht hW => ⟨⟨iI z, _, rfl, ⟨z, rfl, hz, C', g', rfl, h1, h2⟩, by rw [ht]; exact hP', va_K.moved hW.alike hK, hD'⟩, hS'.F ht⟩) hS'.2.2 hd
  have hXK : wX K xE := by subst hKe; exact hX
  have htK : wTab K { startPc := 0, endPc := 9, handlerPc := 12, catchType := 13 } := by subst hKe; exact htab
  have key : GW K D vwD 0 0 (gw ad cg 68 C ++ [(o, .inl (cJ, 1, .inr (.inl g)))]) 0 [(0, .ref (ad 0)), (1, .int (iI w)), (2, .int (iI b)), (3, .ref o)] [] := by
    refine gw_aload_n k dL_share_0 rfl ?_
    refine gw_iconst k dL_share_1 ?_
    refine gw_aload_n k dL_share_2 rfl ?_
    refine gw_iload_n k dL_share_3 rfl ?_
    refine gw_iload_n k dL_share_4 rfl ?_
    refine gw_callT (n := 2) (As := [.int (iI w), .int (iI b)]) (rest := [.int (iI 0), .ref o]) k [] [(o, .inl (cJ, 1, .inr (.inl g)))] (kX5_share hB hO hR htr w b hw hb) gL_share_X5_share rfl rfl rfl (by decide +kernel) ⟨by decide, by decide⟩ (cb0 hB) hXK _ htK (by decide) (by decide) linkL rfl rfl rfl (Nat.le_of_ble_eq_true rfl) (Nat.le_of_ble_eq_true rfl) (Nat.le_of_ble_eq_true rfl) dL_share_5 (fun z C' hz hp => ?_) (fun a C' hp => ?_)
    · have hat : ([] ++ gw ad cg 68 C' ++ [(o, (Sum.inl (cJ, 1, .inr (.inl g)) : va_E))])[68]? = some (o, .inl (cJ, 1, .inr (.inl g))) := by
        rw [List.nil_append, List.getElem?_append_right (by rw [gw_len]; omega), gw_len]
        rfl
      refine gw_last0 k 68 1 hat rfl dL_share_8 (fun g' hg' => ?_)
      refine gw_ws (ws' := gw ad cg 68 C' ++ [(o, .inl (cJ, 1, .inr (.inl g')))]) ?_ ?_
      · rw [List.nil_append, List.set_append_right _ _ (by rw [gw_len]; omega), gw_len]
        rfl
      refine gw_goto k 16 dL_share_9 (by decide) ?_
      refine gw_iconst k dL_share_16 ?_
      exact hret 17 _ 0 C' g' dL_share_17 rI_0 hp.1 (Or.inr ⟨rfl, z, hz, hg', hp.2⟩)
    · refine gw_astore k [(4, .ref a), (0, .ref (ad 0)), (1, .int (iI w)), (2, .int (iI b)), (3, .ref o)] dL_share_12 (by decide) rfl ?_
      refine gw_iconst k dL_share_14 ?_
      exact hret 15 _ 1 C' g dL_share_15 ⟨by omega, by omega⟩ hp.1 (Or.inl ⟨rfl, hp.2.1, hp.2.2⟩)
  subst hKe
  exact key s.heap [] _ hP hD va_S.rf hl
