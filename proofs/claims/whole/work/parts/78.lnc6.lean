def mC0 : gSt := fun q j => if q = 5 then (if j < 13 then 10000 else 0) else 0
def mCg (cI cJ cZ : ClassId) (T : Int) (a : Nat → Nat) : gCg := fun q f =>
  if q = 0 then .inr (6, [.int (iI (f 0)), .int (iI T), .int (iI (f 2)), .ref (a 1), .ref (a 2), .ref (a 3), .ref (a 4), .ref (a 5), .int (iI (f 8)), .int (iI (f 9)), .ref (a 6), .ref (a 7), .ref (a 8), .ref (a 9), .ref (a 10), .ref (a 11), .ref (a 12), .int (iI (f 17)), .ref (a 13), .ref (a 14), .ref (a 15), .ref (a 16), .ref (a 17), .ref (a 18), .ref (a 19)])
  else if q = 1 then .inl (cI, 48, .inl (fun j : Nat => iI (f j)))
  else if q = 2 then .inl (cI, 78, .inl (fun j : Nat => iI (f j)))
  else if q = 3 then .inl (cI, 78, .inl (fun j : Nat => iI (f j)))
  else if q = 4 then .inl (cI, 36, .inl (fun j : Nat => iI (f j)))
  else if q = 5 then .inl (cI, 13, .inl (fun j : Nat => iI (f j)))
  else if q = 6 then .inl (cZ, 6, .inl (fun j : Nat => iI (f j)))
  else if q = 7 then .inl (cJ, 13, .inr (.inl (fun j : Nat => iL (f j))))
  else if q = 8 then .inl (cJ, 13, .inr (.inl (fun j : Nat => iL (f j))))
  else if q = 9 then .inl (cJ, 13, .inr (.inl (fun j : Nat => iL (f j))))
  else if q = 10 then .inl (cJ, 13, .inr (.inl (fun j : Nat => iL (f j))))
  else if q = 11 then .inl (cI, 13, .inl (fun j : Nat => iI (f j)))
  else if q = 12 then .inl (cZ, 78, .inl (fun j : Nat => iI (f j)))
  else if q = 13 then .inl (cI, 160, .inl (fun j : Nat => iI (f j)))
  else if q = 14 then .inl (cI, 160, .inl (fun j : Nat => iI (f j)))
  else if q = 15 then .inl (cI, 160, .inl (fun j : Nat => iI (f j)))
  else if q = 16 then .inl (cJ, 160, .inr (.inl (fun j : Nat => iL (f j))))
  else if q = 17 then .inl (cJ, 78, .inr (.inl (fun j : Nat => iL (f j))))
  else if q = 18 then .inl (cI, 13, .inl (fun j : Nat => iI (f j)))
  else .inl (cJ, 14, .inr (.inl (fun j : Nat => iL (f j))))
theorem mCg_ok {D : va_G} {cI cJ cZ cQ : ClassId} {T : Int} {a : Nat → Nat} : mdlB (D, vwD, wT cI cJ cZ cQ, a, mCg cI cJ cZ T a, 20) T := by
  exact ⟨⟨by show _ < 20; omega, 6, rfl, fun _ => rfl⟩, ⟨by show _ < 20; omega, by omega, cI, 0, rfl, fun _ => rfl⟩, ⟨by show _ < 20; omega, by omega, cI, 0, rfl, fun _ => rfl⟩, ⟨by show _ < 20; omega, by omega, cI, 0, rfl, fun _ => rfl⟩, ⟨by show _ < 20; omega, by omega, cI, 0, rfl, fun _ => rfl⟩, ⟨by show _ < 20; omega, by omega, cI, 0, rfl, fun _ => rfl⟩, ⟨by show _ < 20; omega, by omega, cZ, 2, rfl, fun _ => rfl⟩, ⟨by show _ < 20; omega, by omega, cJ, 1, rfl, fun _ => rfl⟩, ⟨by show _ < 20; omega, by omega, cJ, 1, rfl, fun _ => rfl⟩, ⟨by show _ < 20; omega, by omega, cJ, 1, rfl, fun _ => rfl⟩, ⟨by show _ < 20; omega, by omega, cJ, 1, rfl, fun _ => rfl⟩, ⟨by show _ < 20; omega, by omega, cI, 0, rfl, fun _ => rfl⟩, ⟨by show _ < 20; omega, by omega, cZ, 2, rfl, fun _ => rfl⟩, ⟨by show _ < 20; omega, by omega, cI, 0, rfl, fun _ => rfl⟩, ⟨by show _ < 20; omega, by omega, cI, 0, rfl, fun _ => rfl⟩, ⟨by show _ < 20; omega, by omega, cI, 0, rfl, fun _ => rfl⟩, ⟨by show _ < 20; omega, by omega, cJ, 1, rfl, fun _ => rfl⟩, ⟨by show _ < 20; omega, by omega, cJ, 1, rfl, fun _ => rfl⟩, ⟨by show _ < 20; omega, by omega, cI, 0, rfl, fun _ => rfl⟩, ⟨by show _ < 20; omega, by omega, cJ, 1, rfl, fun _ => rfl⟩⟩
set_option maxHeartbeats 2000000 in
set_option maxRecDepth 20000 in
theorem mShape {D : va_G} {cI cJ cZ cQ : ClassId} {T : Int} (h0 q7 q15 q23 q31 q39 q47 q55 q63 q71 q79 q87 q95 q104 q113 q122 q131 q139 q147 q155 : Nat) : ∃ (ad : Nat → Nat) (cg : gCg), mdlB (D, vwD, wT cI cJ cZ cQ, ad, cg, 20) T ∧ ad 0 = h0 ∧ [(h0, .inr (6, [.int (iI 0), .int (iI (T)), .int (iI 0), .ref q7, .ref q15, .ref q23, .ref q31, .ref q39, .int (iI 0), .int (iI 0), .ref q47, .ref q55, .ref q63, .ref q71, .ref q79, .ref q87, .ref q95, .int (iI 0), .ref q104, .ref q113, .ref q122, .ref q131, .ref q139, .ref q147, .ref q155])), (q7, aI cI (48)), (q15, aI cI (78)), (q23, aI cI (78)), (q31, aI cI (36)), (q39, .inl (cI, 13, .inl (rmF (13)))), (q47, aI cZ (6)), (q55, aJ cJ (13)), (q63, aJ cJ (13)), (q71, aJ cJ (13)), (q79, aJ cJ (13)), (q87, aI cI (13)), (q95, aI cZ (78)), (q104, aI cI (160)), (q113, aI cI (160)), (q122, aI cI (160)), (q131, aJ cJ (160)), (q139, aJ cJ (78)), (q147, aI cI (13)), (q155, aJ cJ (14))] = gw ad cg 20 mC0 :=
  ⟨fun q => [h0, q7, q15, q23, q31, q39, q47, q55, q63, q71, q79, q87, q95, q104, q113, q122, q131, q139, q147, q155].getD q 0, mCg cI cJ cZ T (fun q => [h0, q7, q15, q23, q31, q39, q47, q55, q63, q71, q79, q87, q95, q104, q113, q122, q131, q139, q147, q155].getD q 0), mCg_ok, rfl, rfl⟩
theorem oX6_init : Cond.methodLink RX6 1 objectInit ∈ wsX6_init ∧ Cond.instanceMethod objectInit ∈ wsX6_init ∧ Cond.code objectInit ⟨#[0xb1]⟩ 1 none ∈ wsX6_init := by decide +kernel
theorem fX6_init_7 : Cond.fieldLink RX6 7 "LotRulesModel" (TX6 3).2.1 (TX6 3).2.2.1 ∈ wsX6_init := by decide +kernel
theorem fX6_init_13 : Cond.fieldLink RX6 13 "LotRulesModel" (TX6 4).2.1 (TX6 4).2.2.1 ∈ wsX6_init := by decide +kernel
theorem fX6_init_16 : Cond.fieldLink RX6 16 "LotRulesModel" (TX6 5).2.1 (TX6 5).2.2.1 ∈ wsX6_init := by decide +kernel
theorem fX6_init_19 : Cond.fieldLink RX6 19 "LotRulesModel" (TX6 6).2.1 (TX6 6).2.2.1 ∈ wsX6_init := by decide +kernel
theorem fX6_init_22 : Cond.fieldLink RX6 22 "LotRulesModel" (TX6 7).2.1 (TX6 7).2.2.1 ∈ wsX6_init := by decide +kernel
theorem fX6_init_25 : Cond.fieldLink RX6 25 "LotRulesModel" (TX6 10).2.1 (TX6 10).2.2.1 ∈ wsX6_init := by decide +kernel
theorem fX6_init_29 : Cond.fieldLink RX6 29 "LotRulesModel" (TX6 11).2.1 (TX6 11).2.2.1 ∈ wsX6_init := by decide +kernel
theorem fX6_init_33 : Cond.fieldLink RX6 33 "LotRulesModel" (TX6 12).2.1 (TX6 12).2.2.1 ∈ wsX6_init := by decide +kernel
theorem fX6_init_36 : Cond.fieldLink RX6 36 "LotRulesModel" (TX6 13).2.1 (TX6 13).2.2.1 ∈ wsX6_init := by decide +kernel
theorem fX6_init_39 : Cond.fieldLink RX6 39 "LotRulesModel" (TX6 14).2.1 (TX6 14).2.2.1 ∈ wsX6_init := by decide +kernel
theorem fX6_init_42 : Cond.fieldLink RX6 42 "LotRulesModel" (TX6 15).2.1 (TX6 15).2.2.1 ∈ wsX6_init := by decide +kernel
theorem fX6_init_45 : Cond.fieldLink RX6 45 "LotRulesModel" (TX6 16).2.1 (TX6 16).2.2.1 ∈ wsX6_init := by decide +kernel
theorem fX6_init_48 : Cond.fieldLink RX6 48 "LotRulesModel" (TX6 18).2.1 (TX6 18).2.2.1 ∈ wsX6_init := by decide +kernel
theorem fX6_init_51 : Cond.fieldLink RX6 51 "LotRulesModel" (TX6 19).2.1 (TX6 19).2.2.1 ∈ wsX6_init := by decide +kernel
theorem fX6_init_54 : Cond.fieldLink RX6 54 "LotRulesModel" (TX6 20).2.1 (TX6 20).2.2.1 ∈ wsX6_init := by decide +kernel
theorem fX6_init_57 : Cond.fieldLink RX6 57 "LotRulesModel" (TX6 21).2.1 (TX6 21).2.2.1 ∈ wsX6_init := by decide +kernel
theorem fX6_init_60 : Cond.fieldLink RX6 60 "LotRulesModel" (TX6 22).2.1 (TX6 22).2.2.1 ∈ wsX6_init := by decide +kernel
theorem fX6_init_63 : Cond.fieldLink RX6 63 "LotRulesModel" (TX6 23).2.1 (TX6 23).2.2.1 ∈ wsX6_init := by decide +kernel
theorem fX6_init_66 : Cond.fieldLink RX6 66 "LotRulesModel" (TX6 24).2.1 (TX6 24).2.2.1 ∈ wsX6_init := by decide +kernel
theorem fX6_init_69 : Cond.fieldLink RX6 69 "LotRulesModel" (TX6 1).2.1 (TX6 1).2.2.1 ∈ wsX6_init := by decide +kernel
theorem inX6_init_X6 : ∀ w ∈ u_ws RX6 TX6 25, w ∈ wsX6_init := by decide +kernel

