/-! ===== what the law's entry gives ===== -/
theorem va_D.swp {A : Nat → Prop} {a b c : va_W} (h : va_D A (a ++ b ++ c)) : va_D A (b ++ a ++ c) := by
  have sh : ∀ (i : Nat) (x : Nat × va_E), (b ++ a ++ c)[i]? = some x → (a ++ b ++ c)[if i < b.length then a.length + i else if i < b.length + a.length then i - b.length else i]? = some x := by
    intro i x hx
    by_cases h1 : i < b.length
    · rw [if_pos h1, List.append_assoc, List.getElem?_append_right (by omega), show a.length + i - a.length = i by omega, List.getElem?_append_left h1]
      rw [List.append_assoc, List.getElem?_append_left h1] at hx
      exact hx
    · rw [if_neg h1]
      by_cases h2 : i < b.length + a.length
      · rw [if_pos h2, List.append_assoc, List.getElem?_append_left (by omega)]
        rw [List.append_assoc, List.getElem?_append_right (by omega), List.getElem?_append_left (by omega)] at hx
        exact hx
      · rw [if_neg h2, List.getElem?_append_right (by rw [List.length_append]; omega), List.length_append]
        rw [List.getElem?_append_right (by rw [List.length_append]; omega), List.length_append] at hx
        rw [show a.length + b.length = b.length + a.length by omega]
        exact hx
  refine ⟨fun i j x y hx hy hxy => ?_, fun k x hx => h.2 _ x (sh k x hx)⟩
  have := h.1 _ _ x y (sh i x hx) (sh j y hy) hxy
  split at this <;> split at this <;> (try split at this) <;> (try split at this) <;> omega
theorem gw_swap {K : gK} {D : va_G} {cl : List vw_C} {cells slots : Nat} {a b c : va_W} {pc : Nat} {lv : gLv} {st : List Value} (h : GW K D cl cells slots (b ++ a ++ c) pc lv st) : GW K D cl cells slots (a ++ b ++ c) pc lv st := by
  obtain ⟨p, l', e, R', s, m, args, below, meth, cd, A, Q, nL'⟩ := K
  intro H locs ls hP hD hS hl
  refine h H locs ls (fun k q hk => ?_) hD.swp hS hl
  obtain ⟨j, hj⟩ := List.getElem?_of_mem (show q ∈ a ++ b ++ c by
    have := List.mem_of_getElem? hk
    simp only [List.mem_append] at this ⊢
    rcases this with (h | h) | h
    · exact Or.inl (Or.inr h)
    · exact Or.inl (Or.inl h)
    · exact Or.inr h)
  exact hP j q hj
theorem arr_of {s : State} {b : Nat} {ty : FieldType} (h : (Cond.arrayClass ty).before #[Value.ref b] s = true) : ∃ c : ClassId, ArrOfT s c ty ∧ s.vm.findClass ("[" ++ ty.toString) = some c := by
  obtain ⟨cI, kI, pI, a1, a2, a3⟩ := Cond.arrayClass_spec (args := #[Value.ref b]) (first := s) (o := none) (s := s) (idx := []) h
  exact ⟨cI, fun n z => ⟨fun k h => (by cases h), kI, a2, pI, a3⟩, a1⟩
theorem lw_K {s : State} {b : Nat} (hts : ∀ w ∈ lw_tbl, w.before #[Value.ref b] s = true) : ∃ (D : va_G) (cI cJ cZ cQ : ClassId), va_K D vwD (wT cI cJ cZ cQ) s := by
  obtain ⟨c0, i0, k0⟩ := u_known (C := RX0) (T := TX0) (N := 5) (n := 5) hts inX0 (hts (Cond.instantiable RX0 5) (by decide +kernel))
  obtain ⟨c1, i1, k1⟩ := u_known (C := RX1) (T := TX1) (N := 2) (n := 2) hts inX1 (hts (Cond.instantiable RX1 2) (by decide +kernel))
  obtain ⟨c2, i2, k2⟩ := u_known (C := RX2) (T := TX2) (N := 5) (n := 5) hts inX2 (hts (Cond.instantiable RX2 5) (by decide +kernel))
  obtain ⟨c3, i3, k3⟩ := u_known (C := RX3) (T := TX3) (N := 2) (n := 2) hts inX3 (hts (Cond.instantiable RX3 2) (by decide +kernel))
  obtain ⟨c4, i4, k4⟩ := u_known (C := RX4) (T := TX4) (N := 3) (n := 3) hts inX4 (hts (Cond.instantiable RX4 3) (by decide +kernel))
  obtain ⟨c5, i5, k5⟩ := u_known (C := RX5) (T := TX5) (N := 8) (n := 8) hts inX5 (hts (Cond.instantiable RX5 8) (by decide +kernel))
  obtain ⟨c6, i6, k6⟩ := u_known (C := RX6) (T := TX6) (N := 25) (n := 25) hts inX6 (hts (Cond.instantiable RX6 25) (by decide +kernel))
  obtain ⟨cI, aI1, aI2⟩ := arr_of (hts (Cond.arrayClass .int) (by decide +kernel))
  obtain ⟨cJ, aJ1, aJ2⟩ := arr_of (hts (Cond.arrayClass .long) (by decide +kernel))
  obtain ⟨cZ, aZ1, aZ2⟩ := arr_of (hts (Cond.arrayClass .boolean) (by decide +kernel))
  obtain ⟨comp, cQ, kQ, q1, -, q3, q4, q5⟩ := Cond.arrayOver_spec (args := #[Value.ref b]) (first := s) (o := none) (s := s) (idx := []) (hts (Cond.arrayOver (.object "LotRules$Item")) (by decide +kernel))
  refine ⟨(fun c => [c0, c1, c2, c3, c4, c5, c6].getD c 0, fun c => [i0, i1, i2, i3, i4, i5, i6].getD c (fun _ => 0)), cI, cJ, cZ, cQ, fun c q hq => ?_, fun c q hq => ?_⟩
  · have hc : c < 7 := (List.getElem?_eq_some_iff.mp hq).1
    rcases (show c = 0 ∨ c = 1 ∨ c = 2 ∨ c = 3 ∨ c = 4 ∨ c = 5 ∨ c = 6 by omega) with rfl | rfl | rfl | rfl | rfl | rfl | rfl
    · cases (show some (RX0, TX0, 5) = some q from hq); exact k0
    · cases (show some (RX1, TX1, 2) = some q from hq); exact k1
    · cases (show some (RX2, TX2, 5) = some q from hq); exact k2
    · cases (show some (RX3, TX3, 2) = some q from hq); exact k3
    · cases (show some (RX4, TX4, 3) = some q from hq); exact k4
    · cases (show some (RX5, TX5, 8) = some q from hq); exact k5
    · cases (show some (RX6, TX6, 25) = some q from hq); exact k6
  · have hc : c < 4 := (List.getElem?_eq_some_iff.mp hq).1
    rcases (show c = 0 ∨ c = 1 ∨ c = 2 ∨ c = 3 by omega) with rfl | rfl | rfl | rfl
    · cases (show some (cI, FieldType.int) = some q from hq); exact ⟨aI1, aI2⟩
    · cases (show some (cJ, FieldType.long) = some q from hq); exact ⟨aJ1, aJ2⟩
    · cases (show some (cZ, FieldType.boolean) = some q from hq); exact ⟨aZ1, aZ2⟩
    · cases (show some (cQ, FieldType.object "LotRules$Item") = some q from hq); exact ⟨fun N z => ⟨(fun k h => by cases h), kQ, q3, comp, q4⟩, kQ, comp, q3, q4, q1, q5⟩
theorem lw_stat {s : State} {b : Nat} (hts : ∀ w ∈ lw_tbl, w.before #[Value.ref b] s = true) (hgv : (Jvm.Cond.and given_1 narrow_1).before #[Value.ref b] s = true) {A : Nat → Prop} (hA : ∀ a : Nat, a < s.heap.size → ¬ A a) : ∃ tN tO : Nat, zTab A "MOST_OF_NUMBER" 8 sBnd tN s ∧ zTab A "MOST_OF_OVER" 2 sBndO tO s := by
  have hs := flat_of_before _ hgv
  have n1 : (Cond.arrayOf (.static "LotRules" "MOST_OF_NUMBER" "[I") .int).before #[Value.ref b] s = true := hs _ (by decide +kernel)
  have n2 : (Cond.eq (.length (.static "LotRules" "MOST_OF_NUMBER" "[I")) (.int 8)).before #[Value.ref b] s = true := hs _ (by decide +kernel)
  have e0 : (Cond.eq (.elem (.static "LotRules" "MOST_OF_NUMBER" "[I") (.int 0)) (.int 10000)).before #[Value.ref b] s = true := hs _ (by decide +kernel)
  have e1 : (Cond.eq (.elem (.static "LotRules" "MOST_OF_NUMBER" "[I") (.int 1)) (.int 100)).before #[Value.ref b] s = true := hs _ (by decide +kernel)
  have e2 : (Cond.eq (.elem (.static "LotRules" "MOST_OF_NUMBER" "[I") (.int 2)) (.int 1000)).before #[Value.ref b] s = true := hs _ (by decide +kernel)
  have e3 : (Cond.eq (.elem (.static "LotRules" "MOST_OF_NUMBER" "[I") (.int 3)) (.int 12)).before #[Value.ref b] s = true := hs _ (by decide +kernel)
  have e4 : (Cond.eq (.elem (.static "LotRules" "MOST_OF_NUMBER" "[I") (.int 4)) (.int 1000)).before #[Value.ref b] s = true := hs _ (by decide +kernel)
  have e5 : (Cond.eq (.elem (.static "LotRules" "MOST_OF_NUMBER" "[I") (.int 5)) (.int 20)).before #[Value.ref b] s = true := hs _ (by decide +kernel)
  have e6 : (Cond.eq (.elem (.static "LotRules" "MOST_OF_NUMBER" "[I") (.int 6)) (.int 200)).before #[Value.ref b] s = true := hs _ (by decide +kernel)
  have e7 : (Cond.eq (.elem (.static "LotRules" "MOST_OF_NUMBER" "[I") (.int 7)) (.int 3)).before #[Value.ref b] s = true := hs _ (by decide +kernel)
  have o1 : (Cond.arrayOf (.static "LotRules" "MOST_OF_OVER" "[I") .int).before #[Value.ref b] s = true := hs _ (by decide +kernel)
  have o2 : (Cond.eq (.length (.static "LotRules" "MOST_OF_OVER" "[I")) (.int 2)).before #[Value.ref b] s = true := hs _ (by decide +kernel)
  have p0 : (Cond.eq (.elem (.static "LotRules" "MOST_OF_OVER" "[I") (.int 0)) (.int 100)).before #[Value.ref b] s = true := hs _ (by decide +kernel)
  have p1 : (Cond.eq (.elem (.static "LotRules" "MOST_OF_OVER" "[I") (.int 1)) (.int 10000)).before #[Value.ref b] s = true := hs _ (by decide +kernel)
  obtain ⟨tN, x1, x2⟩ := va_Tof (N := 8) (f := fun j : Nat => .int (iI (sBnd j))) (A := A) (by decide) n1 (va_eqt n2) (fun j hj => by
    rcases (show j = 0 ∨ j = 1 ∨ j = 2 ∨ j = 3 ∨ j = 4 ∨ j = 5 ∨ j = 6 ∨ j = 7 by omega) with rfl | rfl | rfl | rfl | rfl | rfl | rfl | rfl
    · rw [show iI (sBnd ((0 : Nat) : Int)) = 10000 by decide +kernel]; exact va_eqt e0
    · rw [show iI (sBnd ((1 : Nat) : Int)) = 100 by decide +kernel]; exact va_eqt e1
    · rw [show iI (sBnd ((2 : Nat) : Int)) = 1000 by decide +kernel]; exact va_eqt e2
    · rw [show iI (sBnd ((3 : Nat) : Int)) = 12 by decide +kernel]; exact va_eqt e3
    · rw [show iI (sBnd ((4 : Nat) : Int)) = 1000 by decide +kernel]; exact va_eqt e4
    · rw [show iI (sBnd ((5 : Nat) : Int)) = 20 by decide +kernel]; exact va_eqt e5
    · rw [show iI (sBnd ((6 : Nat) : Int)) = 200 by decide +kernel]; exact va_eqt e6
    · rw [show iI (sBnd ((7 : Nat) : Int)) = 3 by decide +kernel]; exact va_eqt e7) hA
  obtain ⟨tO, y1, y2⟩ := va_Tof (N := 2) (f := fun j : Nat => .int (iI (sBndO j))) (A := A) (by decide) o1 (va_eqt o2) (fun j hj => by
    rcases (show j = 0 ∨ j = 1 by omega) with rfl | rfl
    · rw [show iI (sBndO ((0 : Nat) : Int)) = 100 by decide +kernel]; exact va_eqt p0
    · rw [show iI (sBndO ((1 : Nat) : Int)) = 10000 by decide +kernel]; exact va_eqt p1) hA
  exact ⟨tN, tO, ⟨va_Zref (hts _ (by decide +kernel)) (hts _ (by decide +kernel)) x1 hA, x2⟩, ⟨va_Zref (hts _ (by decide +kernel)) (hts _ (by decide +kernel)) y1 hA, y2⟩⟩
theorem lw_xE {s : State} {b : Nat} (hts : ∀ w ∈ lw_tbl, w.before #[Value.ref b] s = true) (hgv : (Jvm.Cond.and given_1 narrow_1).before #[Value.ref b] s = true) {A : Nat → Prop} (hA : ∀ a : Nat, a < s.heap.size → ¬ A a) : xE A s := by
  have hs := flat_of_before _ hgv
  have u1 : (Cond.isRef (.static Bundle.tN "UNASSIGNED_STACK" Bundle.steD)).before #[Value.ref b] s = true := hs _ (by decide +kernel)
  have u2 : (Cond.isRef (.static Bundle.tN "SUPPRESSED_SENTINEL" Bundle.listD)).before #[Value.ref b] s = true := hs _ (by decide +kernel)
  have u3 : (Cond.exactly (.string "LotRules" 162) "java/lang/String").before #[Value.ref b] s = true := hs _ (by decide +kernel)
  obtain ⟨a, c, cA, kA, q1, q2, q3, q4, q5, q6, -⟩ := Cond.exactly_spec (args := #[Value.ref b]) (first := s) (o := none) (s := s) (idx := []) u3
  exact ⟨⟨a, vk_R.of (A := #[Value.ref b]) (hts _ (by decide +kernel)) q1⟩, vx_Zqof (args := #[Value.ref b]) (hts _ (by decide +kernel)) (hts _ (by decide +kernel)) u1 hA, vx_Zqof (args := #[Value.ref b]) (hts _ (by decide +kernel)) (hts _ (by decide +kernel)) u2 hA, va_Nw.of rfl (hts _ (by decide +kernel)), va_Nw.of rfl (hts _ (by decide +kernel)), va_Nw.of rfl (hts _ (by decide +kernel)), va_Nw.of rfl (hts _ (by decide +kernel))⟩
