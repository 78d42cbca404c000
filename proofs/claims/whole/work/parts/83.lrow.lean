/-! ===== the law's rows: calls of contracts over a part of the world, the script, the switch ===== -/
theorem zTab.go {A A' : Nat → Prop} {n : String} {N : Nat} {f : Int → Int} {t : Nat} {s U : State} (h : zTab A n N f t s) (hW : s.WarmedH U.vm) (hk : ∀ q, q < s.heap.size → ¬ A q → U.heap[q]? = s.heap[q]?) (hA : ∀ q, A' q → A q) : zTab A' n N f t U :=
  ⟨va_Z.moved hW.alike ((h.1.kept hk).narrow hA), va_T.moved hW.alike ((h.2.kept hk).narrow hA)⟩
theorem zTab.call {A : Nat → Prop} {n : String} {N : Nat} {f : Int → Int} {t : Nat} {U : State} {g : JFrame} {mk : MethodId} {a : Array Value} (h : zTab A n N f t U) : zTab A n N f t (U.calling g mk a) := h.go (State.WarmedH.refl U) (fun _ _ _ => rfl) (fun _ h => h)
theorem gA_w {B : gB} {C : gSt} {sz : Nat} : ∀ q, gA B sz q → (∃ (k : Nat) (e : va_E), (gw (gad B) B.2.2.2.2.1 B.2.2.2.2.2 C)[k]? = some (q, e)) ∨ sz ≤ q := by
  intro q hq
  rcases hq with ⟨k, hk, rfl⟩ | hq
  · exact Or.inl ⟨k, _, gw_at hk⟩
  · exact Or.inr hq
theorem and31 (x : Int32) : 0 ≤ (x &&& 31).toInt ∧ (x &&& 31).toInt ≤ 31 := by
  have h : (x &&& 31).toBitVec.toNat ≤ 31 := by
    have e : (x &&& 31).toBitVec = x.toBitVec &&& (31 : Int32).toBitVec := rfl
    rw [e, BitVec.toNat_and]
    exact Nat.and_le_right
  have h2 : (x &&& 31).toInt = ((x &&& 31).toBitVec.toNat : Int) := by
    show (x &&& 31).toBitVec.toInt = _
    rw [BitVec.toInt_eq_toNat_cond, if_pos (by omega)]
  omega
theorem iI_self (x : Int32) : iI x.toInt = x := Int32.ofInt_toInt x
theorem rI_self (x : Int32) : rI x.toInt := ⟨Int32.le_toInt x, by have := Int32.toInt_lt x; omega⟩
def xz (xs : Nat → Int32) (j : Int) : Int := (xs j.toNat).toInt
theorem xz_r (xs : Nat → Int32) (j : Int) : rI (xz xs j) := rI_self _
theorem xz_i (xs : Nat → Int32) (j : Int) : iI (xz xs j) = xs j.toNat := iI_self _
/-- the script, which nobody writes -/
def wS (b L : Nat) (xs : Nat → Int32) (A : Nat → Prop) (U : State) : Prop := va_X b L xs U U.heap ∧ b < U.heap.size ∧ ¬ A b
section GW3
variable {K : gK} {D : va_G} {cl : List vw_C} {tys : List (ClassId × FieldType)} {l : Launch} {R : Room} {nL cells slots : Nat} {cc : ByteArray} {own : String} {Ts : List Cond} {ws : va_W} {pc : Nat} {lv : gLv} {st : List Value}
theorem gw_calli (k : wOk K D cl tys l R nL cc own Ts) {ad : Nat → Nat} {cg : gCg} {N : Nat} {C : gSt} (pre suf : va_W) {y : MethodName} {wds : List Cond} {rm : Room} {q Nf idx n : Nat} {Cn : String} {T : u_T} {fs : (Int → Int) → List Value} {ret : Option FieldType} {As rest : List Value} {post : Int → gSt → Prop} (hM : gMi l (D, cl, tys, ad, cg, N) y wds rm (.ref (ad q) :: As) C post) (hcw : gCw R own Ts Cn idx y wds rm n ret) (hq : gOB (D, cl, tys, ad, cg, N) q Cn T Nf fs) (hws : ws = pre ++ gw ad cg N C ++ suf) (hst : st = As.reverse ++ .ref (ad q) :: rest) (hn : As.length = n) (hr : (rest.map fun v => v.category).sum ≤ 8) (hc : cells ≤ R.cells) (hs : slots ≤ R.slots) (hd : decode cc pc = .ok (.invokevirtual idx, 3))
    (h : ∀ (z : Int) (C' : gSt), rI z → post z C' → GW K D cl cells slots (pre ++ gw ad cg N C' ++ suf) (pc + 3) lv (.int (iI z) :: rest)) : GW K D cl cells slots ws pc lv st := by
  obtain ⟨p, l', e', R', s, m, args, below, meth, c, A, Q, nL'⟩ := K
  obtain ⟨rfl, rfl, rfl, hx, hb, hml, hown, hts, hK, hA⟩ := k
  obtain ⟨hqN, ci, hcl, hcc⟩ := hq
  obtain ⟨bytes, maxL, ws', hG, hw, hrc, hrs, hd9, hR⟩ := hcw
  subst hws
  intro H locs ls hP hD hS hl0
  have hat : (gw ad cg N C)[q]? = some (ad q, .inr (ci, fs (C q))) := by rw [gw_at hqN]; exact congrArg some (congrArg (Prod.mk (ad q)) (hcc (C q)))
  have hF := gA_in (B := (D, cl, tys, ad, cg, N)) hD.mid hS hA
  refine va_calli (va_runV (As := As) (rest := rest) (b := ad q) ⟨hx, hb, hml, hown, hts⟩ (hM H.size) (cwV n hts hG hw hrc hrs hd9 hR) ⟨gPre_blind, va_recv hK hP.mid hcl hat, fun U hU hW => ⟨rfl, by rw [hU], by rw [hU]; exact hP.mid, va_K.moved hW.alike hK, hD.mid.weaken (fun _ _ _ _ => trivial)⟩⟩ rfl hn hl0.1 hst (lv_room hr) hd ⟨hc, hs⟩) hS (fun q _ w => hF q w) hF (fun r C' t H1 locs1 ht hvm hw hB hz1 hk1 hS1 => ?_)
  obtain ⟨z, rfl, hz, hp⟩ := hw
  obtain ⟨hP1, hK1, hD1⟩ := hB
  rw [ht] at hP1
  obtain ⟨hP2, hD2⟩ := vj hP hD (gA_w (B := (D, cl, tys, ad, cg, N))) hF hk1 hP1 hD1
  exact h z C' hz hp H1 locs1 ls hP2 hD2 hS1 hl0
theorem gw_calll (k : wOk K D cl tys l R nL cc own Ts) {ad : Nat → Nat} {cg : gCg} {N : Nat} {C : gSt} (pre suf : va_W) {y : MethodName} {wds : List Cond} {rm : Room} {q Nf idx n : Nat} {Cn : String} {T : u_T} {fs : (Int → Int) → List Value} {ret : Option FieldType} {As rest : List Value} {post : Int → gSt → Prop} (hM : gMl l (D, cl, tys, ad, cg, N) y wds rm (.ref (ad q) :: As) C post) (hcw : gCw R own Ts Cn idx y wds rm n ret) (hq : gOB (D, cl, tys, ad, cg, N) q Cn T Nf fs) (hws : ws = pre ++ gw ad cg N C ++ suf) (hst : st = As.reverse ++ .ref (ad q) :: rest) (hn : As.length = n) (hr : (rest.map fun v => v.category).sum ≤ 8) (hc : cells ≤ R.cells) (hs : slots ≤ R.slots) (hd : decode cc pc = .ok (.invokevirtual idx, 3))
    (h : ∀ (z : Int) (C' : gSt), rL z → post z C' → GW K D cl cells slots (pre ++ gw ad cg N C' ++ suf) (pc + 3) lv (.long (iL z) :: rest)) : GW K D cl cells slots ws pc lv st := by
  obtain ⟨p, l', e', R', s, m, args, below, meth, c, A, Q, nL'⟩ := K
  obtain ⟨rfl, rfl, rfl, hx, hb, hml, hown, hts, hK, hA⟩ := k
  obtain ⟨hqN, ci, hcl, hcc⟩ := hq
  obtain ⟨bytes, maxL, ws', hG, hw, hrc, hrs, hd9, hR⟩ := hcw
  subst hws
  intro H locs ls hP hD hS hl0
  have hat : (gw ad cg N C)[q]? = some (ad q, .inr (ci, fs (C q))) := by rw [gw_at hqN]; exact congrArg some (congrArg (Prod.mk (ad q)) (hcc (C q)))
  have hF := gA_in (B := (D, cl, tys, ad, cg, N)) hD.mid hS hA
  refine va_calll (va_runV (As := As) (rest := rest) (b := ad q) ⟨hx, hb, hml, hown, hts⟩ (hM H.size) (cwV n hts hG hw hrc hrs hd9 hR) ⟨gPre_blind, va_recv hK hP.mid hcl hat, fun U hU hW => ⟨rfl, by rw [hU], by rw [hU]; exact hP.mid, va_K.moved hW.alike hK, hD.mid.weaken (fun _ _ _ _ => trivial)⟩⟩ rfl hn hl0.1 hst (lv_room hr) hd ⟨hc, hs⟩) hS (fun q _ w => hF q w) hF (fun r C' t H1 locs1 ht hvm hw hB hz1 hk1 hS1 => ?_)
  obtain ⟨z, rfl, hz, hp⟩ := hw
  obtain ⟨hP1, hK1, hD1⟩ := hB
  rw [ht] at hP1
  obtain ⟨hP2, hD2⟩ := vj hP hD (gA_w (B := (D, cl, tys, ad, cg, N))) hF hk1 hP1 hD1
  exact h z C' hz hp H1 locs1 ls hP2 hD2 hS1 hl0
theorem gw_callx (k : wOk K D cl tys l R nL cc own Ts) {ad : Nat → Nat} {cg : gCg} {N : Nat} {C : gSt} (pre suf : va_W) {y : MethodName} {wds : List Cond} {rm : Room} {q Nf idx n : Nat} {Cn : String} {T : u_T} {fs : (Int → Int) → List Value} {ret : Option FieldType} {As rest : List Value} {post : Int → gSt → Prop} {nm : String} {Nt : Nat} {f : Int → Int} {t : Nat} (hM : gMiX l (D, cl, tys, ad, cg, N) y wds rm (.ref (ad q) :: As) C nm Nt f t post) (hcw : gCw R own Ts Cn idx y wds rm n ret) (hq : gOB (D, cl, tys, ad, cg, N) q Cn T Nf fs) (hz : wX K (fun A U => zTab A nm Nt f t U)) (hws : ws = pre ++ gw ad cg N C ++ suf) (hst : st = As.reverse ++ .ref (ad q) :: rest) (hn : As.length = n) (hr : (rest.map fun v => v.category).sum ≤ 8) (hc : cells ≤ R.cells) (hs : slots ≤ R.slots) (hd : decode cc pc = .ok (.invokevirtual idx, 3))
    (h : ∀ (z : Int) (C' : gSt), rI z → post z C' → GW K D cl cells slots (pre ++ gw ad cg N C' ++ suf) (pc + 3) lv (.int (iI z) :: rest)) : GW K D cl cells slots ws pc lv st := by
  obtain ⟨p, l', e', R', s, m, args, below, meth, c, A, Q, nL'⟩ := K
  obtain ⟨rfl, rfl, rfl, hx, hb, hml, hown, hts, hK, hA⟩ := k
  obtain ⟨hqN, ci, hcl, hcc⟩ := hq
  obtain ⟨bytes, maxL, ws', hG, hw, hrc, hrs, hd9, hR⟩ := hcw
  subst hws
  intro H locs ls hP hD hS hl0
  have hat : (gw ad cg N C)[q]? = some (ad q, .inr (ci, fs (C q))) := by rw [gw_at hqN]; exact congrArg some (congrArg (Prod.mk (ad q)) (hcc (C q)))
  have hF := gA_in (B := (D, cl, tys, ad, cg, N)) hD.mid hS hA
  have hz : zTab A nm Nt f t s := hz
  refine va_calli (va_runV (As := As) (rest := rest) (b := ad q) ⟨hx, hb, hml, hown, hts⟩ (hM H.size) (cwV n hts hG hw hrc hrs hd9 hR) ⟨fun a U g mk q => by obtain ⟨q0, ⟨q1, qP, qK, qD⟩, qX⟩ := q; exact ⟨q0, ⟨q1, qP, va_K.moved (u := U) (U := U.calling g mk a) (Vm.Alike.refl U.vm) qK, qD⟩, qX.call⟩, va_recv hK hP.mid hcl hat, fun U hU hW => ⟨rfl, ⟨by rw [hU], by rw [hU]; exact hP.mid, va_K.moved hW.alike hK, hD.mid.weaken (fun _ _ _ _ => trivial)⟩, hz.go hW (fun q hq ha => by rw [hU]; exact hS.2.1 q hq ha) hF⟩⟩ rfl hn hl0.1 hst (lv_room hr) hd ⟨hc, hs⟩) hS (fun q _ w => hF q w) hF (fun r C' t H1 locs1 ht hvm hw hB hz1 hk1 hS1 => ?_)
  obtain ⟨z, rfl, hz, hp⟩ := hw
  obtain ⟨hP1, hK1, hD1⟩ := hB
  rw [ht] at hP1
  obtain ⟨hP2, hD2⟩ := vj hP hD (gA_w (B := (D, cl, tys, ad, cg, N))) hF hk1 hP1 hD1
  exact h z C' hz hp H1 locs1 ls hP2 hD2 hS1 hl0
theorem gw_slen (k : wOk K D cl tys l R nL cc own Ts) {b L : Nat} {xs : Nat → Int32} (hX : wX K (wS b L xs)) (hd : decode cc pc = .ok (.arraylength, 1)) (h : GW K D cl cells slots ws (pc + 1) lv (.int (iI (L : Int)) :: st)) : GW K D cl cells slots ws pc lv (.ref b :: st) := by
  obtain ⟨p, l', e', R', s, m, args, below, meth, c, A, Q, nL'⟩ := K
  obtain ⟨rfl, rfl, rfl, hx, hb, hml, hown, hts, hK, hA⟩ := k
  intro H locs ls hP hD hS hl0
  exact va_slen hx hb hX.1 hX.2.1 hX.2.2 hS hd (by rw [iI_nat]; exact h H locs ls hP hD hS hl0)
theorem gw_sld (k : wOk K D cl tys l R nL cc own Ts) {b L : Nat} {xs : Nat → Int32} (hX : wX K (wS b L xs)) (hL : L < 2147483648) {e : Int} (h0 : 0 ≤ e) (h1 : e < (L : Int)) (hd : decode cc pc = .ok (.iaload, 1)) (h : GW K D cl cells slots ws (pc + 1) lv (.int (iI (xz xs e)) :: st)) : GW K D cl cells slots ws pc lv (.int (iI e) :: .ref b :: st) := by
  obtain ⟨p, l', e', R', s, m, args, below, meth, c, A, Q, nL'⟩ := K
  obtain ⟨rfl, rfl, rfl, hx, hb, hml, hown, hts, hK, hA⟩ := k
  intro H locs ls hP hD hS hl0
  refine va_sld hx hb hX.1 hX.2.1 hX.2.2 hS (iI_in h0 h1 hL) hd ?_
  rw [iI_cl (by omega) h0, ← xz_i xs e]
  exact h H locs ls hP hD hS hl0
theorem gw_and31 (k : wOk K D cl tys l R nL cc own Ts) {a : Int} (hd : decode cc pc = .ok (.iand, 1)) (h : ∀ c : Int, 0 ≤ c → c ≤ 31 → GW K D cl cells slots ws (pc + 1) lv (.int (iI c) :: st)) : GW K D cl cells slots ws pc lv (.int (iI 31) :: .int (iI a) :: st) := by
  have h2 := and31 (iI a)
  exact gw_go k (fun _ _ _ _ _ _ _ _ _ _ _ _ hx hb _ _ _ _ hw => lv_iand hx hb hd (by rw [show (iI 31) = 31 by decide +kernel, ← iI_self (iI a &&& 31)]; exact hw)) (h _ h2.1 h2.2)
theorem gw_tsO (k : wOk K D cl tys l R nL cc own Ts) {z dflt lo hi : Int} {offs : Array Int} {len : Nat} (tgt : Nat) (hd : decode cc pc = .ok (.tableswitch dflt lo hi offs, len)) (ht : (pc : Int) + dflt = (tgt : Int)) (hz : rI z) (hs : z < lo ∨ hi < z) (h : GW K D cl cells slots ws tgt lv st) : GW K D cl cells slots ws pc lv (.int (iI z) :: st) :=
  gw_go k (fun _ _ _ _ _ _ _ _ _ _ _ _ hx hb _ _ _ _ hw => lv_tableOut hx hb hd (by rw [iI_t hz]; exact hs) ht hw) h
theorem gw_tsI (k : wOk K D cl tys l R nL cc own Ts) {z c dflt lo hi off : Int} {offs : Array Int} {len : Nat} (tgt : Nat) (hd : decode cc pc = .ok (.tableswitch dflt lo hi offs, len)) (hz : z = c) (hc : rI c) (h1 : lo ≤ c) (h2 : c ≤ hi) (ho : offs[(c - lo).toNat]? = some off) (ht : (pc : Int) + off = (tgt : Int)) (h : GW K D cl cells slots ws tgt lv st) : GW K D cl cells slots ws pc lv (.int (iI z) :: st) := by
  subst hz
  exact gw_go k (fun _ _ _ _ _ _ _ _ _ _ _ _ hx hb _ _ _ _ hw => lv_tableIn hx hb hd (by rw [iI_t hc]; omega) (by rw [iI_t hc]; omega) (by rw [iI_t hc]; exact ho) ht hw) h
theorem gw_lald0 (k : wOk K D cl tys l R nL cc own Ts) {cJ : ClassId} {a : Nat} {g : Nat → Int64} (q0 t0 : Nat) (he : ws[q0]? = some (a, .inl (cJ, 1, .inr (.inl g)))) (ht : tys[t0]? = some (cJ, .long)) (hd : decode cc pc = .ok (.laload, 1)) (h : GW K D cl cells slots ws (pc + 1) lv (.long (g 0) :: st)) : GW K D cl cells slots ws pc lv (.int (iI 0) :: .ref a :: st) := by
  obtain ⟨p, l', e', R', s, m, args, below, meth, c, A, Q, nL'⟩ := K
  obtain ⟨rfl, rfl, rfl, hx, hb, hml, hown, hts, hK, hA⟩ := k
  intro H locs ls hP hD hS hl0
  refine va_lald hx hb hK hP q0 t0 he ht (iI_in (n := 1) (by omega) (by omega) (by omega)) hd ?_
  rw [iI_cl (by omega) (by omega)]
  exact h H locs ls hP hD hS hl0
theorem gw_last0 (k : wOk K D cl tys l R nL cc own Ts) {cJ : ClassId} {a : Nat} {g : Nat → Int64} {v : Int} (q0 t0 : Nat) (he : ws[q0]? = some (a, .inl (cJ, 1, .inr (.inl g)))) (ht : tys[t0]? = some (cJ, .long)) (hd : decode cc pc = .ok (.lastore, 1)) (h : ∀ g' : Nat → Int64, g' 0 = iL v → GW K D cl cells slots (ws.set q0 (a, .inl (cJ, 1, .inr (.inl g')))) (pc + 1) lv st) : GW K D cl cells slots ws pc lv (.long (iL v) :: .int (iI 0) :: .ref a :: st) := by
  obtain ⟨p, l', e', R', s, m, args, below, meth, c, A, Q, nL'⟩ := K
  obtain ⟨rfl, rfl, rfl, hx, hb, hml, hown, hts, hK, hA⟩ := k
  intro H locs ls hP hD hS hl0
  refine va_last hx hb hK hP hD hS q0 t0 he ht (iI_in (n := 1) (by omega) (by omega) (by omega)) hd fun H1 locs1 hP1 hD1 hS1 => ?_
  exact h (vp_updL g (iI 0).toNatClampNeg (iL v)) (by unfold vp_updL; rw [iI_cl (by omega) (by omega)]; exact if_pos rfl) H1 locs1 ls hP1 hD1 hS1 hl0
theorem gw_astore (k : wOk K D cl tys l R nL cc own Ts) {i a : Nat} (lv' : gLv) (hd : decode cc pc = .ok (.astore i, 2)) (hn : i < nL) (hl : (i, Value.ref a) :: lv.filter (fun q => !(q.1 == i) && !(q.1 + 1 == i && q.2.category == 2)) = lv') (h : GW K D cl cells slots ws (pc + 2) lv' st) : GW K D cl cells slots ws pc lv (.ref a :: st) := by
  obtain ⟨p, l', e, R', s, m, args, below, meth, c, A, Q, nL'⟩ := K
  obtain ⟨rfl, rfl, rfl, hx, hb, hml, hown, hts, hK, hA⟩ := k
  intro H locs ls hP hD hS hl0
  exact lv_astore hx hb hd hl0 hn hl (fun ls' hl' => h H locs ls' hP hD hS hl')
end GW3
