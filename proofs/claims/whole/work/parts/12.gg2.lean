/-! ===== rows that store, branch, read and write the world ===== -/
theorem iI_eq0 {z : Int} (h : rI z) : iI z = 0 ↔ z = 0 := by rw [← iI_0]; exact iI_eq h rI_0
theorem iI_lt0 {z : Int} (h : rI z) : iI z < 0 ↔ z < 0 := by rw [← iI_0]; exact iI_lt h rI_0
theorem iI_le0 {z : Int} (h : rI z) : iI z ≤ 0 ↔ z ≤ 0 := by rw [← iI_0]; exact iI_le h rI_0
theorem iI_gt0 {z : Int} (h : rI z) : 0 < iI z ↔ 0 < z := by rw [← iI_0]; exact iI_lt rI_0 h
theorem iI_ge0 {z : Int} (h : rI z) : 0 ≤ iI z ↔ 0 ≤ z := by rw [← iI_0]; exact iI_le rI_0 h
theorem iL_cmp {a b : Int} (ha : rL a) (hb : rL b) : lg_cmp (iL a) (iL b) = iI (if b < a then 1 else if a = b then 0 else -1) := by
  unfold lg_cmp
  simp only [gt_iff_lt, iL_lt hb ha, iL_eq ha hb]
  split
  · rfl
  · split <;> rfl
section GG2
variable {K : gK} {B : gB} {C : gSt} {l : Launch} {R : Room} {nL : Nat} {cc : ByteArray} {own : String} {Ts : List Cond} {pc : Nat} {lv : gLv} {st : List Value}
theorem gg_istore (k : gOk K B l R nL cc own Ts) {i : Nat} {z : Int} (lv' : gLv) (hd : decode cc pc = .ok (.istore i, 2)) (hn : i < nL) (hl : (i, Value.int (iI z)) :: lv.filter (fun q => !(q.1 == i) && !(q.1 + 1 == i && q.2.category == 2)) = lv') (h : GG K B C (pc + 2) lv' st) : GG K B C pc lv (.int (iI z) :: st) := by
  obtain ⟨p, l', e, R', s, m, args, below, meth, c, A, Q, nL'⟩ := K
  obtain ⟨D, cl, tys, ad, cg, N⟩ := B
  obtain ⟨rfl, rfl, rfl, hx, hb, hml, hown, hts, hK, hA⟩ := k
  intro H locs ls hP hD hS hl0
  exact lv_istore hx hb hd hl0 hn hl (fun ls' hl' => h H locs ls' hP hD hS hl')
theorem gg_istore_n (k : gOk K B l R nL cc own Ts) {i : Fin 4} {z : Int} (lv' : gLv) (hd : decode cc pc = .ok (.istore_n i, 1)) (hn : (i : Nat) < nL) (hl : ((i : Nat), Value.int (iI z)) :: lv.filter (fun q => !(q.1 == (i : Nat)) && !(q.1 + 1 == (i : Nat) && q.2.category == 2)) = lv') (h : GG K B C (pc + 1) lv' st) : GG K B C pc lv (.int (iI z) :: st) := by
  obtain ⟨p, l', e, R', s, m, args, below, meth, c, A, Q, nL'⟩ := K
  obtain ⟨D, cl, tys, ad, cg, N⟩ := B
  obtain ⟨rfl, rfl, rfl, hx, hb, hml, hown, hts, hK, hA⟩ := k
  intro H locs ls hP hD hS hl0
  exact lv_istore_n hx hb hd rfl hl0 hn hl (fun ls' hl' => h H locs ls' hP hD hS hl')
theorem gg_lstore (k : gOk K B l R nL cc own Ts) {i : Nat} {z : Int} (lv' : gLv) (hd : decode cc pc = .ok (.lstore i, 2)) (hn : i + 1 < nL) (hl : (i, Value.long (iL z)) :: lv.filter (fun q => !(q.1 == i) && (!(q.1 == i + 1) && !(q.1 + 1 == i && q.2.category == 2))) = lv') (h : GG K B C (pc + 2) lv' st) : GG K B C pc lv (.long (iL z) :: st) := by
  obtain ⟨p, l', e, R', s, m, args, below, meth, c, A, Q, nL'⟩ := K
  obtain ⟨D, cl, tys, ad, cg, N⟩ := B
  obtain ⟨rfl, rfl, rfl, hx, hb, hml, hown, hts, hK, hA⟩ := k
  intro H locs ls hP hD hS hl0
  exact lv_lstore hx hb hd hl0 hn hl (fun ls' hl' => h H locs ls' hP hD hS hl')
theorem gg_lstore_n (k : gOk K B l R nL cc own Ts) {i : Fin 4} {z : Int} (lv' : gLv) (hd : decode cc pc = .ok (.lstore_n i, 1)) (hn : (i : Nat) + 1 < nL) (hl : ((i : Nat), Value.long (iL z)) :: lv.filter (fun q => !(q.1 == (i : Nat)) && (!(q.1 == (i : Nat) + 1) && !(q.1 + 1 == (i : Nat) && q.2.category == 2))) = lv') (h : GG K B C (pc + 1) lv' st) : GG K B C pc lv (.long (iL z) :: st) := by
  obtain ⟨p, l', e, R', s, m, args, below, meth, c, A, Q, nL'⟩ := K
  obtain ⟨D, cl, tys, ad, cg, N⟩ := B
  obtain ⟨rfl, rfl, rfl, hx, hb, hml, hown, hts, hK, hA⟩ := k
  intro H locs ls hP hD hS hl0
  exact lv_lstore_n hx hb hd rfl hl0 hn hl (fun ls' hl' => h H locs ls' hP hD hS hl')
theorem gg_astore_n (k : gOk K B l R nL cc own Ts) {i : Fin 4} {a : Nat} (lv' : gLv) (hd : decode cc pc = .ok (.astore_n i, 1)) (hn : (i : Nat) < nL) (hl : ((i : Nat), Value.ref a) :: lv.filter (fun q => !(q.1 == (i : Nat)) && !(q.1 + 1 == (i : Nat) && q.2.category == 2)) = lv') (h : GG K B C (pc + 1) lv' st) : GG K B C pc lv (.ref a :: st) := by
  obtain ⟨p, l', e, R', s, m, args, below, meth, c, A, Q, nL'⟩ := K
  obtain ⟨D, cl, tys, ad, cg, N⟩ := B
  obtain ⟨rfl, rfl, rfl, hx, hb, hml, hown, hts, hK, hA⟩ := k
  intro H locs ls hP hD hS hl0
  exact lv_astore_n hx hb hd rfl hl0 hn hl (fun ls' hl' => h H locs ls' hP hD hS hl')
theorem gg_iinc (k : gOk K B l R nL cc own Ts) {i : Nat} {n z : Int} (j : Nat) (lv' : gLv) (hd : decode cc pc = .ok (.iinc i n, 3)) (hj : lv[j]? = some (i, Value.int (iI z))) (hn : i < nL) (hl : (i, Value.int (iI (z + n))) :: lv.filter (fun q => !(q.1 == i) && !(q.1 + 1 == i && q.2.category == 2)) = lv') (h : GG K B C (pc + 3) lv' st) : GG K B C pc lv st := by
  obtain ⟨p, l', e, R', s, m, args, below, meth, c, A, Q, nL'⟩ := K
  obtain ⟨D, cl, tys, ad, cg, N⟩ := B
  obtain ⟨rfl, rfl, rfl, hx, hb, hml, hown, hts, hK, hA⟩ := k
  intro H locs ls hP hD hS hl0
  exact lv_iinc hx hb hd hl0 hj (iI_add z n) hn hl (fun ls' hl' => h H locs ls' hP hD hS hl')
theorem gg_if_eq (k : gOk K B l R nL cc own Ts) {z off : Int} (tgt : Nat) (hd : decode cc pc = .ok (.ifCond .eq off, 3)) (ht : (pc : Int) + off = (tgt : Int)) (hz : rI z) (h1 : z = 0 → GG K B C tgt lv st) (h2 : ¬ z = 0 → GG K B C (pc + 3) lv st) : GG K B C pc lv (.int (iI z) :: st) :=
  gg_br k (P := z = 0) (fun _ _ _ _ _ _ _ _ _ _ _ _ hx hb q1 q2 => lv_if_eq hx hb hd ht (fun q => q1 ((iI_eq0 hz).mp q)) (fun q => q2 (fun w => q ((iI_eq0 hz).mpr w)))) h1 h2
theorem gg_if_ne (k : gOk K B l R nL cc own Ts) {z off : Int} (tgt : Nat) (hd : decode cc pc = .ok (.ifCond .ne off, 3)) (ht : (pc : Int) + off = (tgt : Int)) (hz : rI z) (h1 : ¬ z = 0 → GG K B C tgt lv st) (h2 : z = 0 → GG K B C (pc + 3) lv st) : GG K B C pc lv (.int (iI z) :: st) :=
  gg_br k (P := ¬ z = 0) (fun _ _ _ _ _ _ _ _ _ _ _ _ hx hb q1 q2 => lv_if_ne hx hb hd ht (fun q => q1 (fun w => q ((iI_eq0 hz).mpr w))) (fun q => q2 (fun w => w ((iI_eq0 hz).mp q)))) h1 (fun q => h2 (Decidable.not_not.mp q))
theorem gg_if_lt (k : gOk K B l R nL cc own Ts) {z off : Int} (tgt : Nat) (hd : decode cc pc = .ok (.ifCond .lt off, 3)) (ht : (pc : Int) + off = (tgt : Int)) (hz : rI z) (h1 : z < 0 → GG K B C tgt lv st) (h2 : ¬ z < 0 → GG K B C (pc + 3) lv st) : GG K B C pc lv (.int (iI z) :: st) :=
  gg_br k (P := z < 0) (fun _ _ _ _ _ _ _ _ _ _ _ _ hx hb q1 q2 => lv_if_lt hx hb hd ht (fun q => q1 ((iI_lt0 hz).mp q)) (fun q => q2 (fun w => q ((iI_lt0 hz).mpr w)))) h1 h2
theorem gg_if_ge (k : gOk K B l R nL cc own Ts) {z off : Int} (tgt : Nat) (hd : decode cc pc = .ok (.ifCond .ge off, 3)) (ht : (pc : Int) + off = (tgt : Int)) (hz : rI z) (h1 : 0 ≤ z → GG K B C tgt lv st) (h2 : ¬ 0 ≤ z → GG K B C (pc + 3) lv st) : GG K B C pc lv (.int (iI z) :: st) :=
  gg_br k (P := 0 ≤ z) (fun _ _ _ _ _ _ _ _ _ _ _ _ hx hb q1 q2 => lv_if_ge hx hb hd ht (fun q => q1 ((iI_ge0 hz).mp q)) (fun q => q2 (fun w => q ((iI_ge0 hz).mpr w)))) h1 h2
theorem gg_if_gt (k : gOk K B l R nL cc own Ts) {z off : Int} (tgt : Nat) (hd : decode cc pc = .ok (.ifCond .gt off, 3)) (ht : (pc : Int) + off = (tgt : Int)) (hz : rI z) (h1 : 0 < z → GG K B C tgt lv st) (h2 : ¬ 0 < z → GG K B C (pc + 3) lv st) : GG K B C pc lv (.int (iI z) :: st) :=
  gg_br k (P := 0 < z) (fun _ _ _ _ _ _ _ _ _ _ _ _ hx hb q1 q2 => lv_if_gt hx hb hd ht (fun q => q1 ((iI_gt0 hz).mp q)) (fun q => q2 (fun w => q ((iI_gt0 hz).mpr w)))) h1 h2
theorem gg_if_le (k : gOk K B l R nL cc own Ts) {z off : Int} (tgt : Nat) (hd : decode cc pc = .ok (.ifCond .le off, 3)) (ht : (pc : Int) + off = (tgt : Int)) (hz : rI z) (h1 : z ≤ 0 → GG K B C tgt lv st) (h2 : ¬ z ≤ 0 → GG K B C (pc + 3) lv st) : GG K B C pc lv (.int (iI z) :: st) :=
  gg_br k (P := z ≤ 0) (fun _ _ _ _ _ _ _ _ _ _ _ _ hx hb q1 q2 => lv_if_le hx hb hd ht (fun q => q1 ((iI_le0 hz).mp q)) (fun q => q2 (fun w => q ((iI_le0 hz).mpr w)))) h1 h2
theorem gg_icmp_eq (k : gOk K B l R nL cc own Ts) {a b off : Int} (tgt : Nat) (hd : decode cc pc = .ok (.if_icmp .eq off, 3)) (ht : (pc : Int) + off = (tgt : Int)) (ha : rI a) (hb0 : rI b) (h1 : a = b → GG K B C tgt lv st) (h2 : ¬ a = b → GG K B C (pc + 3) lv st) : GG K B C pc lv (.int (iI b) :: .int (iI a) :: st) :=
  gg_br k (P := a = b) (fun _ _ _ _ _ _ _ _ _ _ _ _ hx hb q1 q2 => lv_icmp_eq hx hb hd ht (fun q => q1 ((iI_eq ha hb0).mp q)) (fun q => q2 (fun w => q ((iI_eq ha hb0).mpr w)))) h1 h2
theorem gg_icmp_ne (k : gOk K B l R nL cc own Ts) {a b off : Int} (tgt : Nat) (hd : decode cc pc = .ok (.if_icmp .ne off, 3)) (ht : (pc : Int) + off = (tgt : Int)) (ha : rI a) (hb0 : rI b) (h1 : ¬ a = b → GG K B C tgt lv st) (h2 : a = b → GG K B C (pc + 3) lv st) : GG K B C pc lv (.int (iI b) :: .int (iI a) :: st) :=
  gg_br k (P := ¬ a = b) (fun _ _ _ _ _ _ _ _ _ _ _ _ hx hb q1 q2 => lv_icmp_ne hx hb hd ht (fun q => q1 (fun w => q ((iI_eq ha hb0).mpr w))) (fun q => q2 (fun w => w ((iI_eq ha hb0).mp q)))) h1 (fun q => h2 (Decidable.not_not.mp q))
theorem gg_icmp_lt (k : gOk K B l R nL cc own Ts) {a b off : Int} (tgt : Nat) (hd : decode cc pc = .ok (.if_icmp .lt off, 3)) (ht : (pc : Int) + off = (tgt : Int)) (ha : rI a) (hb0 : rI b) (h1 : a < b → GG K B C tgt lv st) (h2 : ¬ a < b → GG K B C (pc + 3) lv st) : GG K B C pc lv (.int (iI b) :: .int (iI a) :: st) :=
  gg_br k (P := a < b) (fun _ _ _ _ _ _ _ _ _ _ _ _ hx hb q1 q2 => lv_icmp_lt hx hb hd ht (fun q => q1 ((iI_lt ha hb0).mp q)) (fun q => q2 (fun w => q ((iI_lt ha hb0).mpr w)))) h1 h2
theorem gg_icmp_ge (k : gOk K B l R nL cc own Ts) {a b off : Int} (tgt : Nat) (hd : decode cc pc = .ok (.if_icmp .ge off, 3)) (ht : (pc : Int) + off = (tgt : Int)) (ha : rI a) (hb0 : rI b) (h1 : b ≤ a → GG K B C tgt lv st) (h2 : ¬ b ≤ a → GG K B C (pc + 3) lv st) : GG K B C pc lv (.int (iI b) :: .int (iI a) :: st) :=
  gg_br k (P := b ≤ a) (fun _ _ _ _ _ _ _ _ _ _ _ _ hx hb q1 q2 => lv_icmp_ge hx hb hd ht (fun q => q1 ((iI_le hb0 ha).mp q)) (fun q => q2 (fun w => q ((iI_le hb0 ha).mpr w)))) h1 h2
theorem gg_icmp_gt (k : gOk K B l R nL cc own Ts) {a b off : Int} (tgt : Nat) (hd : decode cc pc = .ok (.if_icmp .gt off, 3)) (ht : (pc : Int) + off = (tgt : Int)) (ha : rI a) (hb0 : rI b) (h1 : b < a → GG K B C tgt lv st) (h2 : ¬ b < a → GG K B C (pc + 3) lv st) : GG K B C pc lv (.int (iI b) :: .int (iI a) :: st) :=
  gg_br k (P := b < a) (fun _ _ _ _ _ _ _ _ _ _ _ _ hx hb q1 q2 => lv_icmp_gt hx hb hd ht (fun q => q1 ((iI_lt hb0 ha).mp q)) (fun q => q2 (fun w => q ((iI_lt hb0 ha).mpr w)))) h1 h2
theorem gg_icmp_le (k : gOk K B l R nL cc own Ts) {a b off : Int} (tgt : Nat) (hd : decode cc pc = .ok (.if_icmp .le off, 3)) (ht : (pc : Int) + off = (tgt : Int)) (ha : rI a) (hb0 : rI b) (h1 : a ≤ b → GG K B C tgt lv st) (h2 : ¬ a ≤ b → GG K B C (pc + 3) lv st) : GG K B C pc lv (.int (iI b) :: .int (iI a) :: st) :=
  gg_br k (P := a ≤ b) (fun _ _ _ _ _ _ _ _ _ _ _ _ hx hb q1 q2 => lv_icmp_le hx hb hd ht (fun q => q1 ((iI_le ha hb0).mp q)) (fun q => q2 (fun w => q ((iI_le ha hb0).mpr w)))) h1 h2
theorem gg_lcmp (k : gOk K B l R nL cc own Ts) {a b : Int} (hd : decode cc pc = .ok (.lcmp, 1)) (ha : rL a) (hb0 : rL b) (h : GG K B C (pc + 1) lv (.int (iI (if b < a then 1 else if a = b then 0 else -1)) :: st)) : GG K B C pc lv (.long (iL b) :: .long (iL a) :: st) :=
  gg_go k (fun _ _ _ _ _ _ _ _ _ _ _ _ hx hb _ _ _ _ hw => W.lcmp hx hb hd (by rw [iL_cmp ha hb0]; exact hw)) h
theorem rI_cmp (a b : Int) : rI (if b < a then 1 else if a = b then 0 else -1) := by
  unfold rI
  split
  · omega
  · split <;> omega
theorem gg_lt_le (k : gOk K B l R nL cc own Ts) {a b off : Int} (tgt : Nat) (hd : decode cc pc = .ok (.lcmp, 1)) (hd2 : decode cc (pc + 1) = .ok (.ifCond .le off, 3)) (ht : ((pc + 1 : Nat) : Int) + off = (tgt : Int)) (ha : rL a) (hb0 : rL b) (h1 : a ≤ b → GG K B C tgt lv st) (h2 : ¬ a ≤ b → GG K B C (pc + 4) lv st) : GG K B C pc lv (.long (iL b) :: .long (iL a) :: st) :=
  gg_lcmp k hd ha hb0 (gg_if_le k tgt hd2 ht (rI_cmp a b) (fun q => h1 (by by_cases w : b < a; (· rw [if_pos w] at q; omega); (· omega))) (fun q => h2 (by by_cases w : b < a; (· omega); (· rw [if_neg w] at q; split at q <;> omega))))
theorem gg_lt_ge (k : gOk K B l R nL cc own Ts) {a b off : Int} (tgt : Nat) (hd : decode cc pc = .ok (.lcmp, 1)) (hd2 : decode cc (pc + 1) = .ok (.ifCond .ge off, 3)) (ht : ((pc + 1 : Nat) : Int) + off = (tgt : Int)) (ha : rL a) (hb0 : rL b) (h1 : b ≤ a → GG K B C tgt lv st) (h2 : ¬ b ≤ a → GG K B C (pc + 4) lv st) : GG K B C pc lv (.long (iL b) :: .long (iL a) :: st) :=
  gg_lcmp k hd ha hb0 (gg_if_ge k tgt hd2 ht (rI_cmp a b) (fun q => h1 (by by_cases w : b < a; (· omega); (· rw [if_neg w] at q; split at q <;> omega))) (fun q => h2 (by by_cases w : b < a; (· rw [if_pos w] at q; omega); (· rw [if_neg w] at q; split at q <;> omega))))
theorem gg_lt_lt (k : gOk K B l R nL cc own Ts) {a b off : Int} (tgt : Nat) (hd : decode cc pc = .ok (.lcmp, 1)) (hd2 : decode cc (pc + 1) = .ok (.ifCond .lt off, 3)) (ht : ((pc + 1 : Nat) : Int) + off = (tgt : Int)) (ha : rL a) (hb0 : rL b) (h1 : a < b → GG K B C tgt lv st) (h2 : ¬ a < b → GG K B C (pc + 4) lv st) : GG K B C pc lv (.long (iL b) :: .long (iL a) :: st) :=
  gg_lcmp k hd ha hb0 (gg_if_lt k tgt hd2 ht (rI_cmp a b) (fun q => h1 (by by_cases w : b < a; (· rw [if_pos w] at q; omega); (· rw [if_neg w] at q; split at q <;> omega))) (fun q => h2 (by by_cases w : b < a; (· omega); (· rw [if_neg w] at q; split at q <;> omega))))
theorem gg_lt_ne (k : gOk K B l R nL cc own Ts) {a b off : Int} (tgt : Nat) (hd : decode cc pc = .ok (.lcmp, 1)) (hd2 : decode cc (pc + 1) = .ok (.ifCond .ne off, 3)) (ht : ((pc + 1 : Nat) : Int) + off = (tgt : Int)) (ha : rL a) (hb0 : rL b) (h1 : ¬ a = b → GG K B C tgt lv st) (h2 : a = b → GG K B C (pc + 4) lv st) : GG K B C pc lv (.long (iL b) :: .long (iL a) :: st) :=
  gg_lcmp k hd ha hb0 (gg_if_ne k tgt hd2 ht (rI_cmp a b) (fun q => h1 (fun w => q (by rw [if_neg (by omega), if_pos w]))) (fun q => h2 (by by_cases w : b < a; (· rw [if_pos w] at q; omega); (· rw [if_neg w] at q; split at q <;> omega))))
theorem gg_lt_eq (k : gOk K B l R nL cc own Ts) {a b off : Int} (tgt : Nat) (hd : decode cc pc = .ok (.lcmp, 1)) (hd2 : decode cc (pc + 1) = .ok (.ifCond .eq off, 3)) (ht : ((pc + 1 : Nat) : Int) + off = (tgt : Int)) (ha : rL a) (hb0 : rL b) (h1 : a = b → GG K B C tgt lv st) (h2 : ¬ a = b → GG K B C (pc + 4) lv st) : GG K B C pc lv (.long (iL b) :: .long (iL a) :: st) :=
  gg_lcmp k hd ha hb0 (gg_if_eq k tgt hd2 ht (rI_cmp a b) (fun q => h1 (by by_cases w : b < a; (· rw [if_pos w] at q; omega); (· rw [if_neg w] at q; split at q <;> omega))) (fun q => h2 (fun w => q (by rw [if_neg (by omega), if_pos w]))))
/-- what a write into cell q's contents makes of the world -/
theorem gw_wr {ad : Nat → Nat} {cg : gCg} {N q : Nat} {C : gSt} {e v : Int} (hq : q < N) {x : va_E} (hx : cg q (fun j => if j = e then v else C q j) = x) : (gw ad cg N C).set q (ad q, x) = gw ad cg N (wr C q e v) := by
  refine gw_set hq ?_ (fun j hj => wr_k hj)
  rw [← hx]
  congr 1
  funext j
  exact wr_w
theorem gg_iald (k : gOk K B l R nL cc own Ts) {q n : Nat} (hq : gIA B q n) {e : Int} (h0 : 0 ≤ e) (h1 : e < (n : Int)) (hd : decode cc pc = .ok (.iaload, 1)) (h : GG K B C (pc + 1) lv (.int (iI (C q e)) :: st)) : GG K B C pc lv (.int (iI e) :: .ref (gad B q) :: st) := by
  obtain ⟨p, l', e', R', s, m, args, below, meth, c, A, Q, nL'⟩ := K
  obtain ⟨D, cl, tys, ad, cg, N⟩ := B
  obtain ⟨rfl, rfl, rfl, hx, hb, hml, hown, hts, hK, hA⟩ := k
  obtain ⟨hqN, hn, cA, t0, ht, hc⟩ := hq
  intro H locs ls hP hD hS hl0
  have hat : (gw ad cg N C)[q]? = some (ad q, .inl (cA, n, .inl (fun j : Nat => iI (C q j)))) := by rw [gw_at hqN]; exact congrArg some (congrArg (Prod.mk (ad q)) (hc (C q)))
  refine va_iald hx hb hK hP q t0 hat ht (iI_in h0 h1 hn) hd ?_
  rw [iI_cl (by omega) h0, Int.toNat_of_nonneg h0]
  exact h H locs ls hP hD hS hl0
theorem gg_zald (k : gOk K B l R nL cc own Ts) {q n : Nat} (hq : gZA B q n) {e : Int} (h0 : 0 ≤ e) (h1 : e < (n : Int)) (hd : decode cc pc = .ok (.baload, 1)) (h : GG K B C (pc + 1) lv (.int (iI (C q e)) :: st)) : GG K B C pc lv (.int (iI e) :: .ref (gad B q) :: st) := by
  obtain ⟨p, l', e', R', s, m, args, below, meth, c, A, Q, nL'⟩ := K
  obtain ⟨D, cl, tys, ad, cg, N⟩ := B
  obtain ⟨rfl, rfl, rfl, hx, hb, hml, hown, hts, hK, hA⟩ := k
  obtain ⟨hqN, hn, cA, t0, ht, hc⟩ := hq
  intro H locs ls hP hD hS hl0
  have hat : (gw ad cg N C)[q]? = some (ad q, .inl (cA, n, .inl (fun j : Nat => iI (C q j)))) := by rw [gw_at hqN]; exact congrArg some (congrArg (Prod.mk (ad q)) (hc (C q)))
  refine va_zald hx hb hK hP q t0 hat ht (iI_in h0 h1 hn) hd ?_
  rw [iI_cl (by omega) h0, Int.toNat_of_nonneg h0]
  exact h H locs ls hP hD hS hl0
theorem gg_lald (k : gOk K B l R nL cc own Ts) {q n : Nat} (hq : gLA B q n) {e : Int} (h0 : 0 ≤ e) (h1 : e < (n : Int)) (hd : decode cc pc = .ok (.laload, 1)) (h : GG K B C (pc + 1) lv (.long (iL (C q e)) :: st)) : GG K B C pc lv (.int (iI e) :: .ref (gad B q) :: st) := by
  obtain ⟨p, l', e', R', s, m, args, below, meth, c, A, Q, nL'⟩ := K
  obtain ⟨D, cl, tys, ad, cg, N⟩ := B
  obtain ⟨rfl, rfl, rfl, hx, hb, hml, hown, hts, hK, hA⟩ := k
  obtain ⟨hqN, hn, cA, t0, ht, hc⟩ := hq
  intro H locs ls hP hD hS hl0
  have hat : (gw ad cg N C)[q]? = some (ad q, .inl (cA, n, .inr (.inl (fun j : Nat => iL (C q j))))) := by rw [gw_at hqN]; exact congrArg some (congrArg (Prod.mk (ad q)) (hc (C q)))
  refine va_lald hx hb hK hP q t0 hat ht (iI_in h0 h1 hn) hd ?_
  rw [iI_cl (by omega) h0, Int.toNat_of_nonneg h0]
  exact h H locs ls hP hD hS hl0
theorem gg_aald (k : gOk K B l R nL cc own Ts) {q n : Nat} {g : Nat → Nat} (hq : gQA B q n g) {e : Int} (h0 : 0 ≤ e) (h1 : e < (n : Int)) (hd : decode cc pc = .ok (.aaload, 1)) (h : GG K B C (pc + 1) lv (.ref (gad B (g e.toNat)) :: st)) : GG K B C pc lv (.int (iI e) :: .ref (gad B q) :: st) := by
  obtain ⟨p, l', e', R', s, m, args, below, meth, c, A, Q, nL'⟩ := K
  obtain ⟨D, cl, tys, ad, cg, N⟩ := B
  obtain ⟨rfl, rfl, rfl, hx, hb, hml, hown, hts, hK, hA⟩ := k
  obtain ⟨hqN, hn, cA, t0, Cn, φ, ht, hφ, hc⟩ := hq
  intro H locs ls hP hD hS hl0
  have hat : (gw ad cg N C)[q]? = some (ad q, .inl (cA, n, .inr (.inr (.inr (.inr φ))))) := by rw [gw_at hqN]; exact congrArg some (congrArg (Prod.mk (ad q)) (hc (C q)))
  refine va_aldq hx hb hK hP q t0 hat ht (iI_in h0 h1 hn) hd ?_
  rw [iI_cl (by omega) h0, hφ e.toNat (by omega)]
  exact h H locs ls hP hD hS hl0
theorem gg_upd {f : Int → Int} {e v : Int} (h0 : 0 ≤ e) : (fun j : Nat => iI (if (j : Int) = e then v else f j)) = upd (fun j : Nat => iI (f j)) e.toNat (iI v) := by
  funext j
  unfold upd
  by_cases h : j = e.toNat
  · rw [if_pos h, if_pos (by omega)]
  · rw [if_neg h, if_neg (by omega)]
theorem gg_updL {f : Int → Int} {e v : Int} (h0 : 0 ≤ e) : (fun j : Nat => iL (if (j : Int) = e then v else f j)) = vp_updL (fun j : Nat => iL (f j)) e.toNat (iL v) := by
  funext j
  unfold vp_updL
  by_cases h : j = e.toNat
  · rw [if_pos h, if_pos (by omega)]
  · rw [if_neg h, if_neg (by omega)]
theorem gg_iast (k : gOk K B l R nL cc own Ts) {q n : Nat} (hq : gIA B q n) {e v : Int} (h0 : 0 ≤ e) (h1 : e < (n : Int)) (hd : decode cc pc = .ok (.iastore, 1)) (h : GG K B (wr C q e v) (pc + 1) lv st) : GG K B C pc lv (.int (iI v) :: .int (iI e) :: .ref (gad B q) :: st) := by
  obtain ⟨p, l', e', R', s, m, args, below, meth, c, A, Q, nL'⟩ := K
  obtain ⟨D, cl, tys, ad, cg, N⟩ := B
  obtain ⟨rfl, rfl, rfl, hx, hb, hml, hown, hts, hK, hA⟩ := k
  obtain ⟨hqN, hn, cA, t0, ht, hc⟩ := hq
  intro H locs ls hP hD hS hl0
  have hat : (gw ad cg N C)[q]? = some (ad q, .inl (cA, n, .inl (fun j : Nat => iI (C q j)))) := by rw [gw_at hqN]; exact congrArg some (congrArg (Prod.mk (ad q)) (hc (C q)))
  refine va_iast hx hb hK hP hD hS q t0 hat ht (iI_in h0 h1 hn) hd fun H1 locs1 hP1 hD1 hS1 => ?_
  have hw : (gw ad cg N C).set q (ad q, .inl (cA, n, .inl (upd (fun j : Nat => iI (C q j)) (iI e).toNatClampNeg (iI v)))) = gw ad cg N (wr C q e v) := by
    refine gw_wr hqN ?_
    rw [iI_cl (by omega) h0, ← gg_upd h0]
    exact hc _
  change va_P D cl ((gw ad cg N C).set q (ad q, _)) H1 at hP1
  rw [hw] at hP1 hD1
  exact h H1 locs1 ls hP1 hD1 hS1 hl0
theorem gg_last (k : gOk K B l R nL cc own Ts) {q n : Nat} (hq : gLA B q n) {e v : Int} (h0 : 0 ≤ e) (h1 : e < (n : Int)) (hd : decode cc pc = .ok (.lastore, 1)) (h : GG K B (wr C q e v) (pc + 1) lv st) : GG K B C pc lv (.long (iL v) :: .int (iI e) :: .ref (gad B q) :: st) := by
  obtain ⟨p, l', e', R', s, m, args, below, meth, c, A, Q, nL'⟩ := K
  obtain ⟨D, cl, tys, ad, cg, N⟩ := B
  obtain ⟨rfl, rfl, rfl, hx, hb, hml, hown, hts, hK, hA⟩ := k
  obtain ⟨hqN, hn, cA, t0, ht, hc⟩ := hq
  intro H locs ls hP hD hS hl0
  have hat : (gw ad cg N C)[q]? = some (ad q, .inl (cA, n, .inr (.inl (fun j : Nat => iL (C q j))))) := by rw [gw_at hqN]; exact congrArg some (congrArg (Prod.mk (ad q)) (hc (C q)))
  refine va_last hx hb hK hP hD hS q t0 hat ht (iI_in h0 h1 hn) hd fun H1 locs1 hP1 hD1 hS1 => ?_
  have hw : (gw ad cg N C).set q (ad q, .inl (cA, n, .inr (.inl (vp_updL (fun j : Nat => iL (C q j)) (iI e).toNatClampNeg (iL v))))) = gw ad cg N (wr C q e v) := by
    refine gw_wr hqN ?_
    rw [iI_cl (by omega) h0, ← gg_updL h0]
    exact hc _
  change va_P D cl ((gw ad cg N C).set q (ad q, _)) H1 at hP1
  rw [hw] at hP1 hD1
  exact h H1 locs1 ls hP1 hD1 hS1 hl0
theorem gg_zast (k : gOk K B l R nL cc own Ts) {q n : Nat} (hq : gZA B q n) {e v : Int} (h0 : 0 ≤ e) (h1 : e < (n : Int)) (hv : v = 0 ∨ v = 1) (hd : decode cc pc = .ok (.bastore, 1)) (h : GG K B (wr C q e v) (pc + 1) lv st) : GG K B C pc lv (.int (iI v) :: .int (iI e) :: .ref (gad B q) :: st) := by
  obtain ⟨p, l', e', R', s, m, args, below, meth, c, A, Q, nL'⟩ := K
  obtain ⟨D, cl, tys, ad, cg, N⟩ := B
  obtain ⟨rfl, rfl, rfl, hx, hb, hml, hown, hts, hK, hA⟩ := k
  obtain ⟨hqN, hn, cA, t0, ht, hc⟩ := hq
  intro H locs ls hP hD hS hl0
  have hat : (gw ad cg N C)[q]? = some (ad q, .inl (cA, n, .inl (fun j : Nat => iI (C q j)))) := by rw [gw_at hqN]; exact congrArg some (congrArg (Prod.mk (ad q)) (hc (C q)))
  refine va_zast hx hb hK hP hD hS q t0 hat ht (iI_in h0 h1 hn) hd fun H1 locs1 hP1 hD1 hS1 => ?_
  have hnar : vp_nar .boolean (iI v) = iI v := by
    rcases hv with rfl | rfl <;> decide +kernel
  have hw : (gw ad cg N C).set q (ad q, .inl (cA, n, .inl (upd (fun j : Nat => iI (C q j)) (iI e).toNatClampNeg (vp_nar .boolean (iI v))))) = gw ad cg N (wr C q e v) := by
    refine gw_wr hqN ?_
    rw [hnar, iI_cl (by omega) h0, ← gg_upd h0]
    exact hc _
  change va_P D cl ((gw ad cg N C).set q (ad q, _)) H1 at hP1
  rw [hw] at hP1 hD1
  exact h H1 locs1 ls hP1 hD1 hS1 hl0
theorem gg_ilen (k : gOk K B l R nL cc own Ts) {q n : Nat} (hq : gIA B q n) (hd : decode cc pc = .ok (.arraylength, 1)) (h : GG K B C (pc + 1) lv (.int (iI (n : Int)) :: st)) : GG K B C pc lv (.ref (gad B q) :: st) := by
  obtain ⟨p, l', e', R', s, m, args, below, meth, c, A, Q, nL'⟩ := K
  obtain ⟨D, cl, tys, ad, cg, N⟩ := B
  obtain ⟨rfl, rfl, rfl, hx, hb, hml, hown, hts, hK, hA⟩ := k
  obtain ⟨hqN, hn, cA, t0, ht, hc⟩ := hq
  intro H locs ls hP hD hS hl0
  have hat : (gw ad cg N C)[q]? = some (ad q, .inl (cA, n, .inl (fun j : Nat => iI (C q j)))) := by rw [gw_at hqN]; exact congrArg some (congrArg (Prod.mk (ad q)) (hc (C q)))
  exact va_alen hx hb hK hP q t0 hat ht (iI_nat n) hd (h H locs ls hP hD hS hl0)
theorem gg_get (k : gOk K B l R nL cc own Ts) {q Nf idx : Nat} {Cn ref : String} {T : u_T} {fs : (Int → Int) → List Value} (hq : gOB B q Cn T Nf fs) (hin : ∀ w ∈ u_ws Cn T Nf, w ∈ Ts) (f : Nat) (hf : f < Nf) (hm : Cond.fieldLink own idx ref (T f).2.1 (T f).2.2.1 ∈ Ts) (hsame : ref = (T f).1) {v : Value} (hv : (fs (C q))[f]? = some v) (hd : decode cc pc = .ok (.getfield idx, 3)) (h : GG K B C (pc + 3) lv (v :: st)) : GG K B C pc lv (.ref (gad B q) :: st) := by
  obtain ⟨p, l', e', R', s, m, args, below, meth, c, A, Q, nL'⟩ := K
  obtain ⟨D, cl, tys, ad, cg, N⟩ := B
  obtain ⟨rfl, rfl, rfl, hx, hb, hml, hown, hts, hK, hA⟩ := k
  obtain ⟨hqN, ci, hcl, hc⟩ := hq
  intro H locs ls hP hD hS hl0
  have hat : (gw ad cg N C)[q]? = some (ad q, .inr (ci, fs (C q))) := by rw [gw_at hqN]; exact congrArg some (congrArg (Prod.mk (ad q)) (hc (C q)))
  exact va_get hx hb hts hin hown hK hP q hat hcl f hf (hts _ hm) (fun x h9 => by rw [hsame]; exact h9) hv hd (h H locs ls hP hD hS hl0)
theorem gg_put (k : gOk K B l R nL cc own Ts) {q Nf idx : Nat} {Cn ref : String} {T : u_T} {fs : (Int → Int) → List Value} (hq : gOB B q Cn T Nf fs) (hin : ∀ w ∈ u_ws Cn T Nf, w ∈ Ts) (ty0 : Nat → FieldType) (hty : ∀ k, k < Nf → parseFieldDescriptor (T k).2.2.1 = some (ty0 k)) (hnm : ∀ a, a < Nf → ∀ b, b < Nf → a ≠ b → (T a).2.1 ≠ (T b).2.1) (f : Nat) (hf : f < Nf) (hm : Cond.fieldLink own idx ref (T f).2.1 (T f).2.2.1 ∈ Ts) (hsame : ref = (T f).1) (hfin : (T f).2.2.2 = false) (hdI : (T f).2.2.1 = "I") {e v : Int} (hl : f < (fs (C q)).length) (hset : fs (fun j => if j = e then v else C q j) = (fs (C q)).set f (.int (iI v))) (hd : decode cc pc = .ok (.putfield idx, 3)) (h : GG K B (wr C q e v) (pc + 3) lv st) : GG K B C pc lv (.int (iI v) :: .ref (gad B q) :: st) := by
  obtain ⟨p, l', e', R', s, m, args, below, meth, c, A, Q, nL'⟩ := K
  obtain ⟨D, cl, tys, ad, cg, N⟩ := B
  obtain ⟨rfl, rfl, rfl, hx, hb, hml, hown, hts, hK, hA⟩ := k
  obtain ⟨hqN, ci, hcl, hc⟩ := hq
  intro H locs ls hP hD hS hl0
  have hat : (gw ad cg N C)[q]? = some (ad q, .inr (ci, fs (C q))) := by rw [gw_at hqN]; exact congrArg some (congrArg (Prod.mk (ad q)) (hc (C q)))
  refine va_put (ty := .int) hx hb hts hin ty0 hty hnm hown hK hP hD hS q hat hcl f hf (hts _ hm) (fun x h9 => by rw [hsame]; exact h9) hfin (by rw [hdI]; decide +kernel) rfl rfl hl hd fun H1 locs1 hP1 hD1 hS1 => ?_
  have hw : (gw ad cg N C).set q (ad q, .inr (ci, (fs (C q)).set f (.int (iI v)))) = gw ad cg N (wr C q e v) := by
    refine gw_wr hqN ?_
    rw [← hset]
    exact hc _
  change va_P D cl ((gw ad cg N C).set q (ad q, _)) H1 at hP1
  rw [hw] at hP1 hD1
  exact h H1 locs1 ls hP1 hD1 hS1 hl0
end GG2
