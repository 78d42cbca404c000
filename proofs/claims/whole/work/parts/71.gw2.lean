/-! ===== rows that make cells, by the places of a listed world ===== -/
theorem va_RA_i {U : State} {c c' : ClassId} (h : va_RA U c .int) (h' : va_RA U c' .int) : c' = c := Option.some.inj (h'.symm.trans h)
theorem va_RA_l {U : State} {c c' : ClassId} (h : va_RA U c .long) (h' : va_RA U c' .long) : c' = c := Option.some.inj (h'.symm.trans h)
theorem va_RA_z {U : State} {c c' : ClassId} (h : va_RA U c .boolean) (h' : va_RA U c' .boolean) : c' = c := Option.some.inj (h'.symm.trans h)
theorem va_RA_q {U : State} {C : String} {c c' : ClassId} (h : va_RA U c (.object C)) (h' : va_RA U c' (.object C)) : c' = c := by
  obtain ⟨_, _, _, _, _, h4⟩ := h
  obtain ⟨_, _, _, _, _, h4'⟩ := h'
  exact Option.some.inj (h4'.symm.trans h4)
def wInit (K : gK) : Prop := match K with
  | (_, _, _, _, _, _, _, _, meth, _, _, _, _) => meth.name = "<init>"
def wX (K : gK) (X : (Nat → Prop) → State → Prop) : Prop := match K with
  | (_, _, _, _, s, _, _, _, _, _, A, _, _) => X A s
section GW2
variable {K : gK} {D : va_G} {cl : List vw_C} {tys : List (ClassId × FieldType)} {l : Launch} {R : Room} {nL cells slots : Nat} {cc : ByteArray} {own : String} {Ts : List Cond} {ws : va_W} {pc : Nat} {lv : gLv} {st : List Value}
theorem gw_newI (k : wOk K D cl tys l R nL cc own Ts) {cI : ClassId} (t0 : Nat) (ht : tys[t0]? = some (cI, .int)) (harr : Cond.arrayClass .int ∈ Ts) {z : Int} {N n' : Nat} (hz : 0 ≤ z) (hN : z.toNat = N) (hN1 : N ≤ 100000) (hn : N ≤ n') (hc : cells + 1 ≤ R.cells) (hs : slots + n' ≤ R.slots) (hd : decode cc pc = .ok (.newarray .int, 2))
    (h : ∀ q : Nat, GW K D cl (cells + 1) (slots + n') (ws ++ [(q, .inl (cI, N, .inl (fun _ : Nat => iI 0)))]) (pc + 2) lv (.ref q :: st)) : GW K D cl cells slots ws pc lv (.int (iI z) :: st) := by
  obtain ⟨p, l', e, R', s, m, args, below, meth, c, A, Q, nL'⟩ := K
  obtain ⟨rfl, rfl, rfl, hx, hb, hml, hown, hts, hK, hA⟩ := k
  intro H locs ls hP hD hS hl
  refine va_newa (atype := .int) (ty := .int) (a0 := (N, .inl (fun _ : Nat => iI 0))) hx hb (hts _ harr) rfl hK hP hD hS hA (fun cA => by rw [iI_0]; rfl) (fun w => by have := (iI_lt0 ⟨by omega, by omega⟩).mp w; omega) (by rw [iI_cl (by omega) hz]; exact hN) (Nat.le_trans (Nat.mul_le_mul hN1 (show componentBytes .int ≤ 8 by decide)) (by decide)) hc (by omega) hd (fun q cA H1 hK1 hP1 hD1 hS1 => ?_)
  have e1 : cA = cI := va_RA_i (hK.2 t0 _ ht).2 (hK1.2 tys.length (cA, .int) (by rw [List.getElem?_append_right (Nat.le_refl _), Nat.sub_self]; rfl)).2
  subst e1
  exact W.widen (Nat.le_refl _) (by omega) (h q H1 locs ls hP1 hD1 hS1 hl)
theorem gw_newL (k : wOk K D cl tys l R nL cc own Ts) {cI : ClassId} (t0 : Nat) (ht : tys[t0]? = some (cI, .long)) (harr : Cond.arrayClass .long ∈ Ts) {z : Int} {N n' : Nat} (hz : 0 ≤ z) (hN : z.toNat = N) (hN1 : N ≤ 100000) (hn : N ≤ n') (hc : cells + 1 ≤ R.cells) (hs : slots + n' ≤ R.slots) (hd : decode cc pc = .ok (.newarray .long, 2))
    (h : ∀ q : Nat, GW K D cl (cells + 1) (slots + n') (ws ++ [(q, .inl (cI, N, .inr (.inl (fun _ : Nat => iL 0))))]) (pc + 2) lv (.ref q :: st)) : GW K D cl cells slots ws pc lv (.int (iI z) :: st) := by
  obtain ⟨p, l', e, R', s, m, args, below, meth, c, A, Q, nL'⟩ := K
  obtain ⟨rfl, rfl, rfl, hx, hb, hml, hown, hts, hK, hA⟩ := k
  intro H locs ls hP hD hS hl
  refine va_newa (atype := .long) (ty := .long) (a0 := (N, .inr (.inl (fun _ : Nat => iL 0)))) hx hb (hts _ harr) rfl hK hP hD hS hA (fun cA => by rw [show iL 0 = 0 by decide +kernel]; rfl) (fun w => by have := (iI_lt0 ⟨by omega, by omega⟩).mp w; omega) (by rw [iI_cl (by omega) hz]; exact hN) (Nat.le_trans (Nat.mul_le_mul hN1 (show componentBytes .long ≤ 8 by decide)) (by decide)) hc (by omega) hd (fun q cA H1 hK1 hP1 hD1 hS1 => ?_)
  have e1 : cA = cI := va_RA_l (hK.2 t0 _ ht).2 (hK1.2 tys.length (cA, .long) (by rw [List.getElem?_append_right (Nat.le_refl _), Nat.sub_self]; rfl)).2
  subst e1
  exact W.widen (Nat.le_refl _) (by omega) (h q H1 locs ls hP1 hD1 hS1 hl)
theorem gw_newZ (k : wOk K D cl tys l R nL cc own Ts) {cI : ClassId} (t0 : Nat) (ht : tys[t0]? = some (cI, .boolean)) (harr : Cond.arrayClass .boolean ∈ Ts) {z : Int} {N n' : Nat} (hz : 0 ≤ z) (hN : z.toNat = N) (hN1 : N ≤ 100000) (hn : N ≤ n') (hc : cells + 1 ≤ R.cells) (hs : slots + n' ≤ R.slots) (hd : decode cc pc = .ok (.newarray .boolean, 2))
    (h : ∀ q : Nat, GW K D cl (cells + 1) (slots + n') (ws ++ [(q, .inl (cI, N, .inl (fun _ : Nat => iI 0)))]) (pc + 2) lv (.ref q :: st)) : GW K D cl cells slots ws pc lv (.int (iI z) :: st) := by
  obtain ⟨p, l', e, R', s, m, args, below, meth, c, A, Q, nL'⟩ := K
  obtain ⟨rfl, rfl, rfl, hx, hb, hml, hown, hts, hK, hA⟩ := k
  intro H locs ls hP hD hS hl
  refine va_newa (atype := .boolean) (ty := .boolean) (a0 := (N, .inl (fun _ : Nat => iI 0))) hx hb (hts _ harr) rfl hK hP hD hS hA (fun cA => by rw [iI_0]; rfl) (fun w => by have := (iI_lt0 ⟨by omega, by omega⟩).mp w; omega) (by rw [iI_cl (by omega) hz]; exact hN) (Nat.le_trans (Nat.mul_le_mul hN1 (show componentBytes .boolean ≤ 8 by decide)) (by decide)) hc (by omega) hd (fun q cA H1 hK1 hP1 hD1 hS1 => ?_)
  have e1 : cA = cI := va_RA_z (hK.2 t0 _ ht).2 (hK1.2 tys.length (cA, .boolean) (by rw [List.getElem?_append_right (Nat.le_refl _), Nat.sub_self]; rfl)).2
  subst e1
  exact W.widen (Nat.le_refl _) (by omega) (h q H1 locs ls hP1 hD1 hS1 hl)
theorem gw_newQ (k : wOk K D cl tys l R nL cc own Ts) {cQ : ClassId} {Cn : String} {idx : Nat} (t0 : Nat) (ht : tys[t0]? = some (cQ, .object Cn)) (hcl : Cond.classLink own idx Cn ∈ Ts) (hao : wX K (fun _ U => va_AO Cn U)) {z : Int} {N : Nat} (hz : 0 ≤ z) (hN : z.toNat = N) (hN1 : N ≤ 100000) (hc : cells + 1 ≤ R.cells) (hs : slots + N ≤ R.slots) (hd : decode cc pc = .ok (.anewarray idx, 3))
    (h : ∀ q : Nat, GW K D cl (cells + 1) (slots + N) (ws ++ [(q, .inl (cQ, N, .inr (.inr (.inr (.inr (fun _ : Nat => none))))))]) (pc + 3) lv (.ref q :: st)) : GW K D cl cells slots ws pc lv (.int (iI z) :: st) := by
  obtain ⟨p, l', e, R', s, m, args, below, meth, c, A, Q, nL'⟩ := K
  obtain ⟨rfl, rfl, rfl, hx, hb, hml, hown, hts, hK, hA⟩ := k
  intro H locs ls hP hD hS hl
  refine va_newq hx hb hown (hts _ hcl) hao hK hP hD hS hA (fun w => by have := (iI_lt0 ⟨by omega, by omega⟩).mp w; omega) (by rw [iI_cl (by omega) hz]; exact hN) (by omega) hc hs hd (fun q cA H1 hK1 hP1 hD1 hS1 => ?_)
  have e1 : cA = cQ := va_RA_q (hK.2 t0 _ ht).2 (hK1.2 tys.length (cA, .object Cn) (by rw [List.getElem?_append_right (Nat.le_refl _), Nat.sub_self]; rfl)).2
  subst e1
  exact h q H1 locs ls hP1 hD1 hS1 hl
theorem gw_new (k : wOk K D cl tys l R nL cc own Ts) {Cn : String} {T : u_T} {Nf ci idx : Nat} (hin : ∀ w ∈ u_ws Cn T Nf, w ∈ Ts) (ty : Nat → FieldType) (hty : ∀ k, k < Nf → parseFieldDescriptor (T k).2.2.1 = some (ty k)) (hcl : Cond.classLink own idx Cn ∈ Ts) (hinst : Cond.instantiable Cn Nf ∈ Ts) (hini : Cond.initialized Cn ∈ Ts) (hci : cl[ci]? = some (Cn, T, Nf)) {fs : List Value} (hfs : ∀ j, j < Nf → defaultValue (ty j) = vp_V fs j) (hc : cells + 1 ≤ R.cells) (hs : slots + Nf ≤ R.slots) (hd : decode cc pc = .ok (.new idx, 3))
    (h : ∀ q : Nat, GW K D cl (cells + 1) (slots + Nf) (ws ++ [(q, .inr (ci, fs))]) (pc + 3) lv (.ref q :: st)) : GW K D cl cells slots ws pc lv st := by
  obtain ⟨p, l', e, R', s, m, args, below, meth, c, A, Q, nL'⟩ := K
  obtain ⟨rfl, rfl, rfl, hx, hb, hml, hown, hts, hK, hA⟩ := k
  intro H locs ls hP hD hS hl
  exact va_new hx hb hts hin ty hty hown (hts _ hcl) (hts _ hinst) (hts _ hini) hK hP hD hS hA hci hfs hc hs hd (fun q H1 hP1 hD1 hS1 => h q H1 locs ls hP1 hD1 hS1 hl)
theorem gw_putF (k : wOk K D cl tys l R nL cc own Ts) (hi : wInit K) {Cn ref : String} {T : u_T} {Nf ci idx a : Nat} (hin : ∀ w ∈ u_ws Cn T Nf, w ∈ Ts) (ty0 : Nat → FieldType) (hty : ∀ k, k < Nf → parseFieldDescriptor (T k).2.2.1 = some (ty0 k)) (hnm : ∀ a, a < Nf → ∀ b, b < Nf → a ≠ b → (T a).2.1 ≠ (T b).2.1) (q0 : Nat) {fs : List Value} (he : ws[q0]? = some (a, .inr (ci, fs))) (hci : cl[ci]? = some (Cn, T, Nf)) (f : Nat) (hf : f < Nf) (hm : Cond.fieldLink own idx ref (T f).2.1 (T f).2.2.1 ∈ Ts) (hsame : ref = (T f).1) (hfin : (T f).2.2.2 = true) (hdecl : (T f).1 = own) {v : Value} (hn : narrow (ty0 f) v = v) (hfit : fits (ty0 f) v = true) (hl : f < fs.length) (ws' : va_W) (hw : ws.set q0 (a, .inr (ci, fs.set f v)) = ws') (hd : decode cc pc = .ok (.putfield idx, 3))
    (h : GW K D cl cells slots ws' (pc + 3) lv st) : GW K D cl cells slots ws pc lv (v :: .ref a :: st) := by
  obtain ⟨p, l', e, R', s, m, args, below, meth, c, A, Q, nL'⟩ := K
  obtain ⟨rfl, rfl, rfl, hx, hb, hml, hown, hts, hK, hA⟩ := k
  intro H locs ls hP hD hS hl0
  exact va_putF (ty := ty0 f) hx hb hts hin ty0 hty hnm hown hK hP hD hS q0 he hci f hf (hts _ hm) (fun x h9 => by rw [hsame]; exact h9) hfin hi hdecl (hty f hf) hn hfit hl hd (fun H1 locs1 hP1 hD1 hS1 => h H1 locs1 ls (hw ▸ hP1) (hw ▸ hD1) hS1 hl0)
theorem gw_put (k : wOk K D cl tys l R nL cc own Ts) {Cn ref : String} {T : u_T} {Nf ci idx a : Nat} (hin : ∀ w ∈ u_ws Cn T Nf, w ∈ Ts) (ty0 : Nat → FieldType) (hty : ∀ k, k < Nf → parseFieldDescriptor (T k).2.2.1 = some (ty0 k)) (hnm : ∀ a, a < Nf → ∀ b, b < Nf → a ≠ b → (T a).2.1 ≠ (T b).2.1) (q0 : Nat) {fs : List Value} (he : ws[q0]? = some (a, .inr (ci, fs))) (hci : cl[ci]? = some (Cn, T, Nf)) (f : Nat) (hf : f < Nf) (hm : Cond.fieldLink own idx ref (T f).2.1 (T f).2.2.1 ∈ Ts) (hsame : ref = (T f).1) (hfin : (T f).2.2.2 = false) {v : Value} (hn : narrow (ty0 f) v = v) (hfit : fits (ty0 f) v = true) (hl : f < fs.length) (ws' : va_W) (hw : ws.set q0 (a, .inr (ci, fs.set f v)) = ws') (hd : decode cc pc = .ok (.putfield idx, 3))
    (h : GW K D cl cells slots ws' (pc + 3) lv st) : GW K D cl cells slots ws pc lv (v :: .ref a :: st) := by
  obtain ⟨p, l', e, R', s, m, args, below, meth, c, A, Q, nL'⟩ := K
  obtain ⟨rfl, rfl, rfl, hx, hb, hml, hown, hts, hK, hA⟩ := k
  intro H locs ls hP hD hS hl0
  exact va_put (ty := ty0 f) hx hb hts hin ty0 hty hnm hown hK hP hD hS q0 he hci f hf (hts _ hm) (fun x h9 => by rw [hsame]; exact h9) hfin (hty f hf) hn hfit hl hd (fun H1 locs1 hP1 hD1 hS1 => h H1 locs1 ls (hw ▸ hP1) (hw ▸ hD1) hS1 hl0)
theorem gw_get (k : wOk K D cl tys l R nL cc own Ts) {Cn ref : String} {T : u_T} {Nf ci idx a : Nat} (hin : ∀ w ∈ u_ws Cn T Nf, w ∈ Ts) (q0 : Nat) {fs : List Value} (he : ws[q0]? = some (a, .inr (ci, fs))) (hci : cl[ci]? = some (Cn, T, Nf)) (f : Nat) (hf : f < Nf) (hm : Cond.fieldLink own idx ref (T f).2.1 (T f).2.2.1 ∈ Ts) (hsame : ref = (T f).1) {v : Value} (hv : fs[f]? = some v) (hd : decode cc pc = .ok (.getfield idx, 3))
    (h : GW K D cl cells slots ws (pc + 3) lv (v :: st)) : GW K D cl cells slots ws pc lv (.ref a :: st) := by
  obtain ⟨p, l', e, R', s, m, args, below, meth, c, A, Q, nL'⟩ := K
  obtain ⟨rfl, rfl, rfl, hx, hb, hml, hown, hts, hK, hA⟩ := k
  intro H locs ls hP hD hS hl0
  exact va_get hx hb hts hin hown hK hP q0 he hci f hf (hts _ hm) (fun x h9 => by rw [hsame]; exact h9) hv hd (h H locs ls hP hD hS hl0)
theorem gw_iast (k : wOk K D cl tys l R nL cc own Ts) {cI : ClassId} {a n : Nat} {g : Nat → Int32} (q0 t0 : Nat) (he : ws[q0]? = some (a, .inl (cI, n, .inl g))) (ht : tys[t0]? = some (cI, .int)) (hn : n < 2147483648) {e0 v : Int} (h0 : 0 ≤ e0) (h1 : e0 < (n : Int)) (ws' : va_W) (hw : ws.set q0 (a, .inl (cI, n, .inl (upd g e0.toNat (iI v)))) = ws') (hd : decode cc pc = .ok (.iastore, 1))
    (h : GW K D cl cells slots ws' (pc + 1) lv st) : GW K D cl cells slots ws pc lv (.int (iI v) :: .int (iI e0) :: .ref a :: st) := by
  obtain ⟨p, l', e, R', s, m, args, below, meth, c, A, Q, nL'⟩ := K
  obtain ⟨rfl, rfl, rfl, hx, hb, hml, hown, hts, hK, hA⟩ := k
  intro H locs ls hP hD hS hl0
  have e1 : (iI e0).toNatClampNeg = e0.toNat := iI_cl (by omega) h0
  exact va_iast hx hb hK hP hD hS q0 t0 he ht (iI_in h0 h1 hn) hd (fun H1 locs1 hP1 hD1 hS1 => h H1 locs1 ls (hw ▸ e1 ▸ hP1) (hw ▸ e1 ▸ hD1) hS1 hl0)
theorem gw_aast (k : wOk K D cl tys l R nL cc own Ts) {cQ : ClassId} {a n v : Nat} {g : Nat → Option Nat} (q0 t0 qk ci : Nat) {r : vw_C} {vs : List Value} (he : ws[q0]? = some (a, .inl (cQ, n, .inr (.inr (.inr (.inr g)))))) (ht : tys[t0]? = some (cQ, .object r.1)) (hv : ws[qk]? = some (v, .inr (ci, vs))) (hci : cl[ci]? = some r) (hn : n < 2147483648) {e0 : Int} (h0 : 0 ≤ e0) (h1 : e0 < (n : Int)) (ws' : va_W) (hw : ws.set q0 (a, .inl (cQ, n, .inr (.inr (.inr (.inr (va_up g e0.toNat (some v))))))) = ws') (hd : decode cc pc = .ok (.aastore, 1))
    (h : GW K D cl cells slots ws' (pc + 1) lv st) : GW K D cl cells slots ws pc lv (.ref v :: .int (iI e0) :: .ref a :: st) := by
  obtain ⟨p, l', e, R', s, m, args, below, meth, c, A, Q, nL'⟩ := K
  obtain ⟨rfl, rfl, rfl, hx, hb, hml, hown, hts, hK, hA⟩ := k
  intro H locs ls hP hD hS hl0
  have e1 : (iI e0).toNatClampNeg = e0.toNat := iI_cl (by omega) h0
  exact va_astq hx hb hK hP hD hS q0 t0 qk ci he ht hv hci (iI_in h0 h1 hn) hd (fun H1 locs1 hP1 hD1 hS1 => h H1 locs1 ls (hw ▸ e1 ▸ hP1) (hw ▸ e1 ▸ hD1) hS1 hl0)
theorem gw_objInit (k : wOk K D cl tys l R nL cc own Ts) {idx a : Nat} (h1 : Cond.methodLink own idx objectInit ∈ Ts) (h2 : Cond.instanceMethod objectInit ∈ Ts) (h3 : Cond.code objectInit ⟨#[0xb1]⟩ 1 none ∈ Ts) (hd : decode cc pc = .ok (.invokespecial idx, 3)) (hR : 1 ≤ R.frames) (hR2 : (st.map fun v => v.category).sum + 12 ≤ R.locals) (h : GW K D cl cells slots ws (pc + 3) lv st) : GW K D cl cells slots ws pc lv (.ref a :: st) :=
  gw_go k (fun _ _ _ _ _ _ _ _ _ _ _ _ hx hb ho ht hml _ hw => W.objInit hx hb ho (ht _ h1) (ht _ h2) (ht _ h3) rfl hml.symm rfl hd hR (by show 2 * 0 + _ + 12 ≤ _; omega) hw) h
theorem gw_gets (k : wOk K D cl tys l R nL cc own Ts) {n : String} {N idx : Nat} {f : Int → Int} {t : Nat} (hz : wX K (fun A U => zTab A n N f t U)) (hm : Cond.fieldLink own idx "LotRules" n "[I" ∈ Ts) (hd : decode cc pc = .ok (.getstatic idx, 3)) (h : GW K D cl cells slots ws (pc + 3) lv (.ref t :: st)) : GW K D cl cells slots ws pc lv st := by
  obtain ⟨p, l', e, R', s, m, args, below, meth, c, A, Q, nL'⟩ := K
  obtain ⟨rfl, rfl, rfl, hx, hb, hml, hown, hts, hK, hA⟩ := k
  intro H locs ls hP hD hS hl0
  exact va_gets hx hb hz.1 hS hown (hts _ hm) (fun _ h9 => h9) hd (h H locs ls hP hD hS hl0)
theorem gw_tlen (k : wOk K D cl tys l R nL cc own Ts) {n : String} {N : Nat} {f : Int → Int} {t : Nat} (hz : wX K (fun A U => zTab A n N f t U)) (hd : decode cc pc = .ok (.arraylength, 1)) (h : GW K D cl cells slots ws (pc + 1) lv (.int (iI (N : Int)) :: st)) : GW K D cl cells slots ws pc lv (.ref t :: st) := by
  obtain ⟨p, l', e, R', s, m, args, below, meth, c, A, Q, nL'⟩ := K
  obtain ⟨rfl, rfl, rfl, hx, hb, hml, hown, hts, hK, hA⟩ := k
  intro H locs ls hP hD hS hl0
  exact va_tlen hx hb hz.2 hS (iI_nat N) hd (h H locs ls hP hD hS hl0)
/-- a constructor's entry -/
def nRv (K : gK) (D : va_G) (cl : List vw_C) (cc : ByteArray) (mc ms : Nat) (post : va_W → Prop) : Prop := ∀ (pc : Nat) (lv : gLv) (w1 : va_W) (cells slots : Nat), decode cc pc = .ok (.return_, 1) → cells ≤ mc → slots ≤ ms → post w1 → GW K D cl cells slots w1 pc lv []
theorem nMv_of {y : MethodName} {wds wds' : List Cond} {rm : Room} {As : List Value} {w0 : va_W} {mc ms : Nat} {X : Nat → State → Prop} {post : va_W → Prop} (hyn : y.name = "<init>") (hy : plainName y.cls = true) (hw : wds = Cond.code y cc nL none :: wds') (hn : (lg_sl As).length ≤ nL)
    (body : ∀ (K : gK) (sz : Nat), wOk K D cl tys l rm nL cc y.cls wds → wInit K → wX K (fun A U => A = va_A w0 sz ∧ X sz U) → nRv K D cl cc mc ms post → GW K D cl 0 0 w0 0 (lv_args 0 As) []) : nMv l D cl tys y wds rm As w0 mc ms X post := by
  intro sz
  refine Met.ofW (cc := cc) (maxL := nL) (ret := none) hy hw ?_
  intro p e s m args below meth c s₁ Bd hml hv
  obtain ⟨rfl, ⟨hsz, hP, hK, hD0⟩, hX⟩ := hv
  have hlocks := Bd.notSynchronized
  have hD := hD0.self (sz := sz)
  have hl := lv_entry As (n := nL) hn
  have hin : meth.name = "<init>" := (name_of_methodNamed Bd.named Bd.method).1.trans hyn
  rw [lg_entry_eq]
  refine body (p, l, e, (headSpec wds rm).room, s, m, As.toArray, below, meth, c, va_A w0 sz, _, nL) sz ⟨rfl, rfl, rfl, Bd.exec, Bd.bytes, hml, findClass_of_methodNamed Bd.named, atoms_spec (ws := wds) Bd.pre, hK, fun q h => Or.inr (by rw [← hsz]; exact h)⟩ hin ⟨rfl, hX⟩ ?_ s.heap [] _ hP hD va_S.rf hl
  intro pc lv w1 cells slots hd hc hs hp H locs ls hP' hD' hS' hl'
  refine W.widen hc hs ?_
  exact W.vret Bd.exec Bd.bytes Bd.returns (fun t ht hW => ⟨⟨w1, rfl, hp, by rw [ht]; exact hP', va_K.moved hW.alike hK, hD'⟩, hS'.F ht⟩) hS'.2.2 hd
theorem gw_callI (k : wOk K D cl tys l R nL cc own Ts) {y : MethodName} {wds wds' : List Cond} {rm : Room} {idx n mc ms b maxL : Nat} {bytes : ByteArray} {e0 : va_E} {As rest : List Value} {X : Nat → State → Prop} {post : va_W → Prop} {pre : va_W} (hM : nMv l D cl tys y wds rm (.ref b :: As) [(b, e0)] mc ms X post) (hG : GoodIn Ts wds) (hwd : wds = Cond.code y bytes maxL none :: wds') (hrc : rm.cells = mc) (hrs : rm.slots = ms) (h1 : Cond.initialized y.cls ∈ Ts) (h2 : Cond.methodLink own idx y ∈ Ts) (h3 : Cond.instanceMethod y ∈ Ts) (hy : y.name = "<init>") (hd9 : y.cls ≠ "java/lang/invoke/MethodHandle" ∧ y.cls ≠ "java/lang/invoke/VarHandle" ∧ (parseMethodDescriptor y.desc).map (fun d => d.parameters.length) = some n) (hR : rm.frames + 1 ≤ R.frames ∧ 8 + (maxL + 11) + rm.locals ≤ R.locals) (hX : wX K (fun A U => ∀ (H : Heap) (V : State), V.heap = H → U.WarmedH V.vm → (∀ q, q < U.heap.size → ¬ A q → H[q]? = U.heap[q]?) → U.heap.size ≤ H.size → (∀ q, va_A [(b, e0)] H.size q → A q) → X H.size V)) (hXb : ∀ (sz : Nat) (a : Array Value) (U : State) (g : JFrame) (mk : MethodId), X sz U → X sz (U.calling g mk a)) (hst : st = As.reverse ++ .ref b :: rest) (hn : As.length = n) (hr : (rest.map fun v => v.category).sum ≤ 8) (hc : cells + mc ≤ R.cells) (hs : slots + ms ≤ R.slots) (hws : ws = pre ++ [(b, e0)]) (hd : decode cc pc = .ok (.invokespecial idx, 3))
    (h : ∀ w1 : va_W, post w1 → GW K D cl (cells + mc) (slots + ms) (pre ++ w1) (pc + 3) lv rest) : GW K D cl cells slots ws pc lv st := by
  obtain ⟨p, l', e, R', s, m, args, below, meth, c, A, Q, nL'⟩ := K
  obtain ⟨rfl, rfl, rfl, hx, hb, hml, hown, hts, hK, hA⟩ := k
  subst hws
  intro H locs ls hP hD hS hl0
  have hPm : va_P D cl (pre ++ [(b, e0)] ++ []) H := by rw [List.append_nil]; exact hP
  have hDm : va_D A (pre ++ [(b, e0)] ++ []) := by rw [List.append_nil]; exact hD
  have hF : ∀ q, va_A [(b, e0)] H.size q → A q := by
    intro q hq
    rcases hq with ⟨j, e1, hj⟩ | hq
    · exact hDm.mid.2 j (q, e1) hj
    · exact hA q (Nat.le_trans hS.1 hq)
  refine va_callv (va_runI (As := As) (rest := rest) (b := b) ⟨hx, hb, hml, hown, hts⟩ (hM H.size) (cwI n hts hG hwd hrc hrs (hts _ h1) (hts _ h2) (hts _ h3) hy hd9 hR) ⟨fun a U g mk q => by obtain ⟨q0, ⟨q1, qP, qK, qD⟩, qX⟩ := q; exact ⟨q0, ⟨q1, qP, va_K.moved (u := U) (U := U.calling g mk a) (Vm.Alike.refl U.vm) qK, qD⟩, hXb _ a U g mk qX⟩, fun U hU hW => ⟨rfl, ⟨by rw [hU], by rw [hU]; exact hPm.mid, va_K.moved hW.alike hK, hDm.mid.weaken (fun _ _ _ _ => trivial)⟩, hX H U hU hW (fun q hq ha => hS.2.1 q hq ha) hS.1 hF⟩⟩ rfl hn hl0.1 hst (lv_room hr) hd ⟨hc, hs⟩) hS (fun q _ w => hF q w) hF (fun w1 t H1 locs1 ht hvm hw hB hz1 hk1 hS1 => ?_)
  obtain ⟨hP1, hK1, hD1⟩ := hB
  rw [ht] at hP1
  obtain ⟨hP2, hD2⟩ := vj (post := []) hPm hDm (fun q hq => hq) hF hk1 hP1 hD1
  rw [List.append_nil] at hP2 hD2
  exact h w1 hw H1 locs1 ls hP2 hD2 hS1 hl0
end GW2
