section
-- ===== PART A: goes FIRST, ahead of the names: the tables' words, and 'selects' of the private methods out of them =====
/-- a private method of a class that the tables say can be made, by its rows of tables_1 -/
def lw_okq (q : MethodName × Nat) : Prop := (q.1.cls ≠ "java/lang/invoke/MethodHandle" ∧ q.1.cls ≠ "java/lang/invoke/VarHandle") ∧ Cond.instantiable q.1.cls q.2 ∈ tables_1 ∧ Cond.privateMethod q.1 ∈ tables_1 ∧ Cond.instanceMethod q.1 ∈ tables_1
theorem lw_p0 : lw_okq (⟨"LotRules", "isItem", "(I)Z"⟩, 8) := ⟨⟨by decide +kernel, by decide +kernel⟩, List.mem_of_getElem? (i := 14) (by decide +kernel), List.mem_of_getElem? (i := 166) (by decide +kernel), List.mem_of_getElem? (i := 167) (by decide +kernel)⟩
theorem lw_p1 : lw_okq (⟨"LotRules", "isPeriod", "(I)Z"⟩, 8) := ⟨⟨by decide +kernel, by decide +kernel⟩, List.mem_of_getElem? (i := 14) (by decide +kernel), List.mem_of_getElem? (i := 179) (by decide +kernel), List.mem_of_getElem? (i := 180) (by decide +kernel)⟩
theorem lw_p2 : lw_okq (⟨"LotRules", "goesInto", "(II)Z"⟩, 8) := ⟨⟨by decide +kernel, by decide +kernel⟩, List.mem_of_getElem? (i := 14) (by decide +kernel), List.mem_of_getElem? (i := 187) (by decide +kernel), List.mem_of_getElem? (i := 188) (by decide +kernel)⟩
theorem lw_p3 : lw_okq (⟨"LotRules", "grossOf", "(II)I"⟩, 8) := ⟨⟨by decide +kernel, by decide +kernel⟩, List.mem_of_getElem? (i := 14) (by decide +kernel), List.mem_of_getElem? (i := 211) (by decide +kernel), List.mem_of_getElem? (i := 212) (by decide +kernel)⟩
theorem lw_p4 : lw_okq (⟨"LotRules", "isPeriodOrBeginning", "(I)Z"⟩, 8) := ⟨⟨by decide +kernel, by decide +kernel⟩, List.mem_of_getElem? (i := 14) (by decide +kernel), List.mem_of_getElem? (i := 219) (by decide +kernel), List.mem_of_getElem? (i := 220) (by decide +kernel)⟩
theorem lw_p5 : lw_okq (⟨"LotRules", "runItem", "(I)V"⟩, 8) := ⟨⟨by decide +kernel, by decide +kernel⟩, List.mem_of_getElem? (i := 14) (by decide +kernel), List.mem_of_getElem? (i := 224) (by decide +kernel), List.mem_of_getElem? (i := 225) (by decide +kernel)⟩
theorem lw_p6 : lw_okq (⟨"LotRules$Store", "take", "(II)V"⟩, 3) := ⟨⟨by decide +kernel, by decide +kernel⟩, List.mem_of_getElem? (i := 35) (by decide +kernel), List.mem_of_getElem? (i := 245) (by decide +kernel), List.mem_of_getElem? (i := 246) (by decide +kernel)⟩
theorem lw_p7 : lw_okq (⟨"LotRules$Store", "spoil", "(I)I"⟩, 3) := ⟨⟨by decide +kernel, by decide +kernel⟩, List.mem_of_getElem? (i := 35) (by decide +kernel), List.mem_of_getElem? (i := 250) (by decide +kernel), List.mem_of_getElem? (i := 251) (by decide +kernel)⟩
theorem lw_p8 : lw_okq (⟨"LotRules", "timeOf", "(I)J"⟩, 8) := ⟨⟨by decide +kernel, by decide +kernel⟩, List.mem_of_getElem? (i := 14) (by decide +kernel), List.mem_of_getElem? (i := 278) (by decide +kernel), List.mem_of_getElem? (i := 279) (by decide +kernel)⟩
theorem lw_p9 : lw_okq (⟨"LotRules", "priceOf", "(I)J"⟩, 8) := ⟨⟨by decide +kernel, by decide +kernel⟩, List.mem_of_getElem? (i := 14) (by decide +kernel), List.mem_of_getElem? (i := 289) (by decide +kernel), List.mem_of_getElem? (i := 290) (by decide +kernel)⟩
theorem lw_p10 : lw_okq (⟨"LotRules", "setUpPrices", "()J"⟩, 8) := ⟨⟨by decide +kernel, by decide +kernel⟩, List.mem_of_getElem? (i := 14) (by decide +kernel), List.mem_of_getElem? (i := 293) (by decide +kernel), List.mem_of_getElem? (i := 294) (by decide +kernel)⟩
theorem lw_p11 : lw_okq (⟨"LotRules", "holdPrices", "()J"⟩, 8) := ⟨⟨by decide +kernel, by decide +kernel⟩, List.mem_of_getElem? (i := 14) (by decide +kernel), List.mem_of_getElem? (i := 297) (by decide +kernel), List.mem_of_getElem? (i := 298) (by decide +kernel)⟩
theorem lw_p12 : lw_okq (⟨"LotRules", "overPrices", "()J"⟩, 8) := ⟨⟨by decide +kernel, by decide +kernel⟩, List.mem_of_getElem? (i := 14) (by decide +kernel), List.mem_of_getElem? (i := 301) (by decide +kernel), List.mem_of_getElem? (i := 302) (by decide +kernel)⟩
theorem lw_p13 : lw_okq (⟨"LotRules", "overOf", "(I)J"⟩, 8) := ⟨⟨by decide +kernel, by decide +kernel⟩, List.mem_of_getElem? (i := 14) (by decide +kernel), List.mem_of_getElem? (i := 305) (by decide +kernel), List.mem_of_getElem? (i := 306) (by decide +kernel)⟩
theorem lw_p14 : lw_okq (⟨"LotRules", "findFaults", "()V"⟩, 8) := ⟨⟨by decide +kernel, by decide +kernel⟩, List.mem_of_getElem? (i := 14) (by decide +kernel), List.mem_of_getElem? (i := 316) (by decide +kernel), List.mem_of_getElem? (i := 317) (by decide +kernel)⟩
theorem lw_p15 : lw_okq (⟨"LotRules", "findOwing", "(I)V"⟩, 8) := ⟨⟨by decide +kernel, by decide +kernel⟩, List.mem_of_getElem? (i := 14) (by decide +kernel), List.mem_of_getElem? (i := 320) (by decide +kernel), List.mem_of_getElem? (i := 321) (by decide +kernel)⟩
def lw_privs_1 : List (MethodName × Nat) := [(⟨"LotRules", "isItem", "(I)Z"⟩, 8), (⟨"LotRules", "isPeriod", "(I)Z"⟩, 8), (⟨"LotRules", "goesInto", "(II)Z"⟩, 8), (⟨"LotRules", "grossOf", "(II)I"⟩, 8), (⟨"LotRules", "isPeriodOrBeginning", "(I)Z"⟩, 8), (⟨"LotRules", "runItem", "(I)V"⟩, 8), (⟨"LotRules$Store", "take", "(II)V"⟩, 3), (⟨"LotRules$Store", "spoil", "(I)I"⟩, 3), (⟨"LotRules", "timeOf", "(I)J"⟩, 8), (⟨"LotRules", "priceOf", "(I)J"⟩, 8), (⟨"LotRules", "setUpPrices", "()J"⟩, 8), (⟨"LotRules", "holdPrices", "()J"⟩, 8), (⟨"LotRules", "overPrices", "()J"⟩, 8), (⟨"LotRules", "overOf", "(I)J"⟩, 8), (⟨"LotRules", "findFaults", "()V"⟩, 8), (⟨"LotRules", "findOwing", "(I)V"⟩, 8)]
theorem lw_r1 : ∀ q ∈ lw_privs_1, lw_okq q := List.forall_mem_cons.mpr ⟨lw_p0, List.forall_mem_cons.mpr ⟨lw_p1, List.forall_mem_cons.mpr ⟨lw_p2, List.forall_mem_cons.mpr ⟨lw_p3, List.forall_mem_cons.mpr ⟨lw_p4, List.forall_mem_cons.mpr ⟨lw_p5, List.forall_mem_cons.mpr ⟨lw_p6, List.forall_mem_cons.mpr ⟨lw_p7, List.forall_mem_cons.mpr ⟨lw_p8, List.forall_mem_cons.mpr ⟨lw_p9, List.forall_mem_cons.mpr ⟨lw_p10, List.forall_mem_cons.mpr ⟨lw_p11, List.forall_mem_cons.mpr ⟨lw_p12, List.forall_mem_cons.mpr ⟨lw_p13, List.forall_mem_cons.mpr ⟨lw_p14, List.forall_mem_cons.mpr ⟨lw_p15, fun _ h => absurd h List.not_mem_nil⟩⟩⟩⟩⟩⟩⟩⟩⟩⟩⟩⟩⟩⟩⟩⟩
theorem lw_p16 : lw_okq (⟨"LotRules", "findBelowLeast", "(I)V"⟩, 8) := ⟨⟨by decide +kernel, by decide +kernel⟩, List.mem_of_getElem? (i := 14) (by decide +kernel), List.mem_of_getElem? (i := 329) (by decide +kernel), List.mem_of_getElem? (i := 330) (by decide +kernel)⟩
theorem lw_p17 : lw_okq (⟨"LotRules", "findAboveMostOver", "(I)V"⟩, 8) := ⟨⟨by decide +kernel, by decide +kernel⟩, List.mem_of_getElem? (i := 14) (by decide +kernel), List.mem_of_getElem? (i := 333) (by decide +kernel), List.mem_of_getElem? (i := 334) (by decide +kernel)⟩
theorem lw_p18 : lw_okq (⟨"LotRules$Alone", "findNets", "([II)V"⟩, 5) := ⟨⟨by decide +kernel, by decide +kernel⟩, List.mem_of_getElem? (i := 108) (by decide +kernel), List.mem_of_getElem? (i := 353) (by decide +kernel), List.mem_of_getElem? (i := 354) (by decide +kernel)⟩
theorem lw_p19 : lw_okq (⟨"LotRules$Alone", "choose", "(IIII)V"⟩, 5) := ⟨⟨by decide +kernel, by decide +kernel⟩, List.mem_of_getElem? (i := 108) (by decide +kernel), List.mem_of_getElem? (i := 358) (by decide +kernel), List.mem_of_getElem? (i := 359) (by decide +kernel)⟩
theorem lw_p20 : lw_okq (⟨"LotRules$Alone", "followChoices", "()V"⟩, 5) := ⟨⟨by decide +kernel, by decide +kernel⟩, List.mem_of_getElem? (i := 108) (by decide +kernel), List.mem_of_getElem? (i := 363) (by decide +kernel), List.mem_of_getElem? (i := 364) (by decide +kernel)⟩
theorem lw_p21 : lw_okq (⟨"LotRules$Alone", "sumOfNets", "(II)I"⟩, 5) := ⟨⟨by decide +kernel, by decide +kernel⟩, List.mem_of_getElem? (i := 108) (by decide +kernel), List.mem_of_getElem? (i := 367) (by decide +kernel), List.mem_of_getElem? (i := 368) (by decide +kernel)⟩
theorem lw_p22 : lw_okq (⟨"java/lang/Throwable", "fillInStackTrace", "(I)Ljava/lang/Throwable;"⟩, 6) := ⟨⟨by decide +kernel, by decide +kernel⟩, List.mem_of_getElem? (i := 427) (by decide +kernel), List.mem_of_getElem? (i := 425) (by decide +kernel), List.mem_of_getElem? (i := 426) (by decide +kernel)⟩
theorem lw_p23 : lw_okq (⟨"LotRulesModel", "isItem", "(I)Z"⟩, 25) := ⟨⟨by decide +kernel, by decide +kernel⟩, List.mem_of_getElem? (i := 458) (by decide +kernel), List.mem_of_getElem? (i := 553) (by decide +kernel), List.mem_of_getElem? (i := 554) (by decide +kernel)⟩
theorem lw_p24 : lw_okq (⟨"LotRulesModel", "isPeriod", "(I)Z"⟩, 25) := ⟨⟨by decide +kernel, by decide +kernel⟩, List.mem_of_getElem? (i := 458) (by decide +kernel), List.mem_of_getElem? (i := 567) (by decide +kernel), List.mem_of_getElem? (i := 568) (by decide +kernel)⟩
theorem lw_p25 : lw_okq (⟨"LotRulesModel", "isWithin", "(II)Z"⟩, 25) := ⟨⟨by decide +kernel, by decide +kernel⟩, List.mem_of_getElem? (i := 458) (by decide +kernel), List.mem_of_getElem? (i := 575) (by decide +kernel), List.mem_of_getElem? (i := 576) (by decide +kernel)⟩
theorem lw_p26 : lw_okq (⟨"LotRulesModel", "grossOf", "(II)I"⟩, 25) := ⟨⟨by decide +kernel, by decide +kernel⟩, List.mem_of_getElem? (i := 458) (by decide +kernel), List.mem_of_getElem? (i := 595) (by decide +kernel), List.mem_of_getElem? (i := 596) (by decide +kernel)⟩
theorem lw_p27 : lw_okq (⟨"LotRulesModel", "run", "(I)V"⟩, 25) := ⟨⟨by decide +kernel, by decide +kernel⟩, List.mem_of_getElem? (i := 458) (by decide +kernel), List.mem_of_getElem? (i := 604) (by decide +kernel), List.mem_of_getElem? (i := 605) (by decide +kernel)⟩
theorem lw_p28 : lw_okq (⟨"LotRulesModel", "machine", "()V"⟩, 25) := ⟨⟨by decide +kernel, by decide +kernel⟩, List.mem_of_getElem? (i := 458) (by decide +kernel), List.mem_of_getElem? (i := 616) (by decide +kernel), List.mem_of_getElem? (i := 617) (by decide +kernel)⟩
theorem lw_p29 : lw_okq (⟨"LotRulesModel", "timeOf", "(I)J"⟩, 25) := ⟨⟨by decide +kernel, by decide +kernel⟩, List.mem_of_getElem? (i := 458) (by decide +kernel), List.mem_of_getElem? (i := 628) (by decide +kernel), List.mem_of_getElem? (i := 629) (by decide +kernel)⟩
theorem lw_p30 : lw_okq (⟨"LotRulesModel", "priceOf", "(I)J"⟩, 25) := ⟨⟨by decide +kernel, by decide +kernel⟩, List.mem_of_getElem? (i := 458) (by decide +kernel), List.mem_of_getElem? (i := 636) (by decide +kernel), List.mem_of_getElem? (i := 637) (by decide +kernel)⟩
theorem lw_p31 : lw_okq (⟨"LotRulesModel", "overOf", "(I)J"⟩, 25) := ⟨⟨by decide +kernel, by decide +kernel⟩, List.mem_of_getElem? (i := 458) (by decide +kernel), List.mem_of_getElem? (i := 640) (by decide +kernel), List.mem_of_getElem? (i := 641) (by decide +kernel)⟩
def lw_privs_2 : List (MethodName × Nat) := [(⟨"LotRules", "findBelowLeast", "(I)V"⟩, 8), (⟨"LotRules", "findAboveMostOver", "(I)V"⟩, 8), (⟨"LotRules$Alone", "findNets", "([II)V"⟩, 5), (⟨"LotRules$Alone", "choose", "(IIII)V"⟩, 5), (⟨"LotRules$Alone", "followChoices", "()V"⟩, 5), (⟨"LotRules$Alone", "sumOfNets", "(II)I"⟩, 5), (⟨"java/lang/Throwable", "fillInStackTrace", "(I)Ljava/lang/Throwable;"⟩, 6), (⟨"LotRulesModel", "isItem", "(I)Z"⟩, 25), (⟨"LotRulesModel", "isPeriod", "(I)Z"⟩, 25), (⟨"LotRulesModel", "isWithin", "(II)Z"⟩, 25), (⟨"LotRulesModel", "grossOf", "(II)I"⟩, 25), (⟨"LotRulesModel", "run", "(I)V"⟩, 25), (⟨"LotRulesModel", "machine", "()V"⟩, 25), (⟨"LotRulesModel", "timeOf", "(I)J"⟩, 25), (⟨"LotRulesModel", "priceOf", "(I)J"⟩, 25), (⟨"LotRulesModel", "overOf", "(I)J"⟩, 25)]
theorem lw_r2 : ∀ q ∈ lw_privs_2, lw_okq q := List.forall_mem_cons.mpr ⟨lw_p16, List.forall_mem_cons.mpr ⟨lw_p17, List.forall_mem_cons.mpr ⟨lw_p18, List.forall_mem_cons.mpr ⟨lw_p19, List.forall_mem_cons.mpr ⟨lw_p20, List.forall_mem_cons.mpr ⟨lw_p21, List.forall_mem_cons.mpr ⟨lw_p22, List.forall_mem_cons.mpr ⟨lw_p23, List.forall_mem_cons.mpr ⟨lw_p24, List.forall_mem_cons.mpr ⟨lw_p25, List.forall_mem_cons.mpr ⟨lw_p26, List.forall_mem_cons.mpr ⟨lw_p27, List.forall_mem_cons.mpr ⟨lw_p28, List.forall_mem_cons.mpr ⟨lw_p29, List.forall_mem_cons.mpr ⟨lw_p30, List.forall_mem_cons.mpr ⟨lw_p31, fun _ h => absurd h List.not_mem_nil⟩⟩⟩⟩⟩⟩⟩⟩⟩⟩⟩⟩⟩⟩⟩⟩
theorem lw_p32 : lw_okq (⟨"LotRulesModel", "find", "()V"⟩, 25) := ⟨⟨by decide +kernel, by decide +kernel⟩, List.mem_of_getElem? (i := 458) (by decide +kernel), List.mem_of_getElem? (i := 653) (by decide +kernel), List.mem_of_getElem? (i := 654) (by decide +kernel)⟩
theorem lw_p33 : lw_okq (⟨"LotRulesModel", "note", "(IIIJ)V"⟩, 25) := ⟨⟨by decide +kernel, by decide +kernel⟩, List.mem_of_getElem? (i := 458) (by decide +kernel), List.mem_of_getElem? (i := 657) (by decide +kernel), List.mem_of_getElem? (i := 658) (by decide +kernel)⟩
theorem lw_p34 : lw_okq (⟨"LotRulesModel", "alone", "(I)V"⟩, 25) := ⟨⟨by decide +kernel, by decide +kernel⟩, List.mem_of_getElem? (i := 458) (by decide +kernel), List.mem_of_getElem? (i := 669) (by decide +kernel), List.mem_of_getElem? (i := 670) (by decide +kernel)⟩
theorem lw_p35 : lw_okq (⟨"LotRulesModel", "last", "(II)I"⟩, 25) := ⟨⟨by decide +kernel, by decide +kernel⟩, List.mem_of_getElem? (i := 458) (by decide +kernel), List.mem_of_getElem? (i := 673) (by decide +kernel), List.mem_of_getElem? (i := 674) (by decide +kernel)⟩
theorem lw_p36 : lw_okq (⟨"LotRulesModel", "priceTo", "(III)J"⟩, 25) := ⟨⟨by decide +kernel, by decide +kernel⟩, List.mem_of_getElem? (i := 458) (by decide +kernel), List.mem_of_getElem? (i := 677) (by decide +kernel), List.mem_of_getElem? (i := 678) (by decide +kernel)⟩
def lw_privs_3 : List (MethodName × Nat) := [(⟨"LotRulesModel", "find", "()V"⟩, 25), (⟨"LotRulesModel", "note", "(IIIJ)V"⟩, 25), (⟨"LotRulesModel", "alone", "(I)V"⟩, 25), (⟨"LotRulesModel", "last", "(II)I"⟩, 25), (⟨"LotRulesModel", "priceTo", "(III)J"⟩, 25)]
theorem lw_r3 : ∀ q ∈ lw_privs_3, lw_okq q := List.forall_mem_cons.mpr ⟨lw_p32, List.forall_mem_cons.mpr ⟨lw_p33, List.forall_mem_cons.mpr ⟨lw_p34, List.forall_mem_cons.mpr ⟨lw_p35, List.forall_mem_cons.mpr ⟨lw_p36, fun _ h => absurd h List.not_mem_nil⟩⟩⟩⟩⟩
def lw_privs : List (MethodName × Nat) := lw_privs_1 ++ (lw_privs_2 ++ (lw_privs_3))
def lw_tbl : List Cond := k2_sels lw_privs ++ tables_1
theorem lw_privs_ok : ∀ q ∈ lw_privs, lw_okq q := by
  show ∀ q ∈ lw_privs_1 ++ (lw_privs_2 ++ (lw_privs_3)), lw_okq q
  exact List.forall_mem_append.mpr ⟨lw_r1, List.forall_mem_append.mpr ⟨lw_r2, lw_r3⟩⟩
end
section
/-! ===== BEGIN words of one list among another's, by their places ===== -/
theorem goodIn_r {big : List Cond} (ws : List Cond) (ps : List Nat) (hp : ws = ps.filterMap (fun i => big[i]?)) (h : ws.all goodWord = true) : GoodIn big ws := by
  intro w hw
  have h1 := List.all_eq_true.mp h w hw
  rw [hp] at hw
  obtain ⟨i, -, hi⟩ := List.mem_filterMap.mp hw
  have hm : w ∈ big := by first | exact List.mem_of_getElem? hi | exact List.getElem?_mem hi
  exact ⟨hm, good_of_word h1⟩
theorem goodIn_app {big a b : List Cond} (ha : GoodIn big a) (hb : GoodIn big b) : GoodIn big (a ++ b) := fun w h => (List.mem_append.mp h).elim (ha w) (hb w)
theorem goodIn_ca {big a b : List Cond} {c : Cond} (ha : GoodIn big (c :: a)) (hb : GoodIn big b) : GoodIn big (c :: (a ++ b)) := fun w h => (List.mem_cons.mp h).elim (fun e => ha w (List.mem_cons.mpr (Or.inl e))) (fun h => (List.mem_append.mp h).elim (fun h => ha w (List.mem_cons.mpr (Or.inr h))) (hb w))
theorem goodIn_sub {big ws : List Cond} (hm : ∀ w ∈ ws, w ∈ big) (h : ws.all goodWord = true) : GoodIn big ws := fun w hw => ⟨hm w hw, good_of_word (List.all_eq_true.mp h w hw)⟩
/-! ===== END ===== -/

/-! ===== BEGIN exceptions that leave a method, and their catching by the caller (launches without stack traces) ===== -/
section VXA
/-! The laws vx_back, vx_callV, vx_callS, vx_callSW, vx_throw0, vx_throwS follow proofs of the library, with one case more: JvmDerived/Free/Laws.lean (Back.of_free), Shelf42/LK1.lean (callV, callS), Shelf/KitTraced.lean (throwNew0V, throwNewS). -/

/-- where a method has thrown q: the class by its name, the cell, what was written, the world -/
def vx_T (XC : String → State → State → Prop) (st : State) (q : Addr) (t : State) (mc ms : Nat) (free : Addr → Prop) : Prop :=
  ∃ (E : String) (ce : Cell) (L : List Loc), XC E st t ∧ t.heap[q]? = some ce ∧ ce.vm = .none ∧ st.vm.findClass E = some ce.cls ∧ st.WarmedH t.vm ∧ st.sameButNew ({ t with vm := st.vm } : State) L mc ms ∧ ∀ z ∈ L, free z.base
def vx_Q (Qc : Array Value → State → Outcome → State → Prop) (XC : String → State → State → Prop) (mc ms : Nat) (free : Addr → Prop) : Array Value → State → Outcome → State → Prop := fun a st o t =>
  (Qc a st o t ∧ ∃ L, FrameEnd st o t L mc ms ∧ ∀ q ∈ L, free q.base) ∨ ∃ q, o = .threw q ∧ vx_T XC st q t mc ms free
/-- a callee that returns or throws -/
def vx_Met (l : Launch) (y : MethodName) (ws : List Cond) (rm : Room) (Pc : Array Value → State → Prop) (Qc : Array Value → State → Outcome → State → Prop) (XC : String → State → State → Prop) (mc ms : Nat) (free : Addr → Prop) : Prop :=
  MetFree l y (headSpec ws rm) Pc (fun _ _ _ _ _ => True) (vx_Q Qc XC mc ms free)
def vx_Post (XC : String → State → State → Prop) (mc ms : Nat) (free : Addr → Prop) : Pt → Array Value → Addr → Pt → Prop := fun A a q B =>
  ∃ (g : JFrame) (mk : MethodId) (t : State) (L : List Loc) (E : String) (ce : Cell), B.U.heap = t.heap ∧ B.U.vm = t.vm ∧ XC E (A.U.calling g mk a) t ∧ t.heap[q]? = some ce ∧ ce.vm = .none ∧ A.U.vm.findClass E = some ce.cls ∧ B.locs = A.locs ++ L ∧ (∀ z ∈ L, free z.base) ∧ B.cells = A.cells + mc ∧ B.slots = A.slots + ms
def vx_Back (l : Launch) (R : Room) (p : Program) (e : Env) (below : List Frame) (s : State) (sargs : Array Value) (y : MethodName) (len W9 : Nat)
    (Pre : Pt → Array Value → Prop) (Post : Pt → Array Value → Option Value → Pt → Prop) (PostX : Pt → Array Value → Addr → Pt → Prop) : Prop :=
  ∀ (m : MethodId) (meth : Method) (c : Code) (A : Pt) (g : JFrame) (ig : Instr) (mk : MethodId) (a : Array Value),
    Stand p l e R s m sargs below meth c A.U A.locs A.cells A.slots → g.method = m → g.locals.size = c.maxLocals → decode c.code g.pc = .ok (ig, len) →
    2 * g.monitorRoom + (g.stack.map fun v => v.category).sum ≤ W9 → A.U.methodNamed? y = some mk → Pre A a →
    (∃ (v : Option Value) (B : Pt), Stand p l e R s m sargs below meth c B.U B.locs B.cells B.slots ∧ Post A a v B ∧
      Steps p.tables e below (doInvoke e (A.U.setTop g) [] mk a).1 (B.U.setTop { g with pc := g.pc + len, stack := v.toList ++ g.stack })) ∨
    (∃ (q : Addr) (B : Pt), Stand p l e R s m sargs below meth c B.U B.locs B.cells B.slots ∧ PostX A a q B ∧
      Steps p.tables e below (doInvoke e (A.U.setTop g) [] mk a).1 ((B.U.setTop g).pushFrame (.throwing q)))
section Payer
variable {l : Launch} {R : Room} {p : Program} {e : Env} {below : List Frame} {s : State} {sargs : Array Value} {y : MethodName} {len W9 : Nat}
theorem vx_back {ws : List Cond} {rm : Room} {Pc : Array Value → State → Prop} {Qc : Array Value → State → Outcome → State → Prop} {XC : String → State → State → Prop} {mc ms : Nat} {free : Addr → Prop} {bytes : ByteArray} {maxL : Nat} {ret : Option FieldType}
    (hM : vx_Met l y ws rm Pc Qc XC mc ms free) (hblind : FrameBlind Pc) (hrc : rm.cells = mc) (hrs : rm.slots = ms)
    (hframes : rm.frames + 1 ≤ R.frames) (hlocals : W9 + (maxL + 11) + rm.locals ≤ R.locals)
    (hws : ∀ w ∈ ws, ∀ a' U, s.WarmedH U.vm → w.before a' U = true) (hcode : Cond.code y bytes maxL ret ∈ ws) (hinit : ∀ a' U, s.WarmedH U.vm → (Cond.initialized y.cls).before a' U = true) :
    vx_Back l R p e below s sargs y len W9 (PreOf R mc ms Pc) (PostOf Qc mc ms free) (vx_Post XC mc ms free) := by
  intro m meth c A g ig mk a X hg hsize hdg hW hn hp
  have h1 : (headSpec ws rm).pre.before a A.U = true := atoms_intro fun w hw => hws w hw _ _ X.warmed
  have h2 : (Cond.code y bytes maxL ret).before a A.U = true := hws _ hcode _ _ X.warmed
  have h3 : (Cond.initialized y.cls).before a A.U = true := hinit _ _ X.warmed
  have h4 : A.cells + (headSpec ws rm).room.cells ≤ R.cells := by rw [show (headSpec ws rm).room.cells = mc from hrc]; exact hp.1
  have h5 : A.slots + (headSpec ws rm).room.slots ≤ R.slots := by rw [show (headSpec ws rm).room.slots = ms from hrs]; exact hp.2.1
  have hPc : Pc a (A.U.calling g mk a) := hblind _ _ _ _ hp.2.2
  obtain ⟨U, Ls, c0, s0⟩ := A
  dsimp only [Pt.U, Pt.locs, Pt.cells, Pt.slots] at h1 h2 h3 h4 h5 X hn hPc ⊢
  obtain ⟨methY, cY, hmY, hcY, -, hlY, -, -, -, -⟩ := Cond.code_spec hn h2
  obtain ⟨kY, hkY, -⟩ := className_of_methodNamed hn
  have hinitY : kY.init = .initialized := Cond.initialized_spec (findClass_of_methodNamed hn) hkY h3
  have h : At U g.method c below := by rw [hg]; exact X.here
  have hlocals9 : W9 + (maxL + 11) + (headSpec ws rm).room.locals ≤ R.locals := hlocals
  have happ : (headSpec ws rm).appliesLoose y e.platform (U.calling g mk a) = true :=
    Spec.appliesLoose_calling (g := g) h hdg hn hkY hinitY
      (X.room_calling (g := g) (R' := (headSpec ws rm).room) hsize hmY hcY hframes (by rw [hlY]; omega) h4 h5) h1
  obtain ⟨mid, hmid⟩ := h.above
  have hfr : (U.setTop g).frames = (.java g :: mid) ++ below := by rw [State.frames_setTop' g h.top, hmid]; rfl
  obtain ⟨o, s₂, hsteps, -, hend, hq⟩ := Steps.callFree hM p X.admits X.cas X.clock (acts := []) hfr happ hPc trivial
  have hq' : vx_Q Qc XC mc ms free a (U.calling g mk a) o s₂ := hq
  rw [State.frames_setTop' g h.top] at hend
  obtain ⟨g₀, hg0⟩ := Option.isSome_iff_exists.mp h.top
  obtain ⟨r, hr⟩ := State.topJava?_eq_some.mp hg0
  have hr' : (({ U with heap := s₂.heap, slotsUsed := s₂.slotsUsed } : State).setVm s₂.vm).frames = .java g₀ :: r := hr
  rcases hq' with ⟨hqc, L, hfe, hL⟩ | ⟨q, rfl, E, ce, L, hx, hce, hcv, hcl, hW₂, hsm, hL⟩
  · obtain ⟨⟨v, rfl⟩, hW₂, e2, q2, q3, q4, q5, q6⟩ := id hfe
    have e3 : s₂ = ({ (U.calling g mk a).setFrames s₂.frames with heap := s₂.heap, slotsUsed := s₂.slotsUsed } : State).setVm s₂.vm := by
      have : s₂ = ({ s₂ with vm := (U.calling g mk a).vm } : State).setVm s₂.vm := rfl
      rw [e2] at this
      exact this
    obtain ⟨c₂, i₂, len₂, hc₂, hd₂, hf₂⟩ := hend
    have hW' : U.WarmedH s₂.vm := hW₂
    have hcc : c₂ = c := by
      have h1 : s₂.code? g.method = U.code? g.method := by
        rw [State.code?_eq, State.code?_eq, hW'.alike.method?]
      exact Option.some.inj (hc₂.symm.trans (h1.trans h.code))
    subst hcc
    have hlen : len₂ = len := by rw [hdg] at hd₂; cases hd₂; rfl
    subst hlen
    have hs₂ : s₂ = (({ U with heap := s₂.heap, slotsUsed := s₂.slotsUsed } : State).setVm s₂.vm).setTop { g with pc := g.pc + len₂, stack := v.toList ++ g.stack } := by
      refine e3.trans ?_
      rw [hf₂, State.calling_eq h.top, State.setFrames_setFrames, State.setTop_of_frames _ hr', hr]
      rfl
    have hsame : U.sameButNew ({ U with heap := s₂.heap, slotsUsed := s₂.slotsUsed } : State) L mc ms := by
      refine ⟨?_, q2, q3, q4, q5, q6⟩
      obtain ⟨t, ht, -⟩ := State.frames_cons hr
      show ({ U with heap := s₂.heap, slotsUsed := s₂.slotsUsed } : State) = { U.setFrames U.frames with heap := s₂.heap, slotsUsed := s₂.slotsUsed }
      rw [State.setFrames_self ht]
    subst hg
    refine Or.inl ⟨v, ⟨(({ U with heap := s₂.heap, slotsUsed := s₂.slotsUsed } : State).setVm s₂.vm), Ls ++ L, c0 + mc, s0 + ms⟩,
      ⟨X.admits, X.cas, X.clock, X.frames, X.room, X.hears, X.method, X.code, (X.here.setHeapUsed s₂.heap s₂.slotsUsed).setVm hW'.alike, X.tail, State.WarmedH.trans X.warmed hW', X.limits, X.bytes, X.same.trans (hsame.setVm s.vm)⟩,
      ⟨g, mk, s₂, L, rfl, rfl, hqc, rfl, hL, rfl, rfl⟩, ?_⟩
    show Steps p.tables e below _ ((({ U with heap := s₂.heap, slotsUsed := s₂.slotsUsed } : State).setVm s₂.vm).setTop { g with pc := g.pc + len₂, stack := v.toList ++ g.stack })
    rw [← hs₂]
    exact hsteps
  · obtain ⟨e2, q2, q3, q4, q5, q6⟩ := id hsm
    have e3 : s₂ = ({ (U.calling g mk a).setFrames s₂.frames with heap := s₂.heap, slotsUsed := s₂.slotsUsed } : State).setVm s₂.vm := by
      have : s₂ = ({ s₂ with vm := (U.calling g mk a).vm } : State).setVm s₂.vm := rfl
      rw [e2] at this
      exact this
    have hf₂ : s₂.frames = .throwing q :: .java g :: U.frames.tail := hend
    have hW' : U.WarmedH s₂.vm := hW₂
    have hs₂ : s₂ = ((({ U with heap := s₂.heap, slotsUsed := s₂.slotsUsed } : State).setVm s₂.vm).setTop g).pushFrame (.throwing q) := by
      refine e3.trans ?_
      rw [hf₂, State.calling_eq h.top, State.setFrames_setFrames, State.pushFrame, State.frames_setTop _ hr', State.setTop_of_frames _ hr', State.setFrames_setFrames, hr]
      rfl
    have hsame : U.sameButNew ({ U with heap := s₂.heap, slotsUsed := s₂.slotsUsed } : State) L mc ms := by
      refine ⟨?_, q2, q3, q4, q5, q6⟩
      obtain ⟨t, ht, -⟩ := State.frames_cons hr
      show ({ U with heap := s₂.heap, slotsUsed := s₂.slotsUsed } : State) = { U.setFrames U.frames with heap := s₂.heap, slotsUsed := s₂.slotsUsed }
      rw [State.setFrames_self ht]
    subst hg
    refine Or.inr ⟨q, ⟨(({ U with heap := s₂.heap, slotsUsed := s₂.slotsUsed } : State).setVm s₂.vm), Ls ++ L, c0 + mc, s0 + ms⟩,
      ⟨X.admits, X.cas, X.clock, X.frames, X.room, X.hears, X.method, X.code, (X.here.setHeapUsed s₂.heap s₂.slotsUsed).setVm hW'.alike, X.tail, State.WarmedH.trans X.warmed hW', X.limits, X.bytes, X.same.trans (hsame.setVm s.vm)⟩,
      ⟨g, mk, s₂, L, E, ce, rfl, rfl, hx, hce, hcv, hcl, rfl, hL, rfl, rfl⟩, ?_⟩
    show Steps p.tables e below _ (((({ U with heap := s₂.heap, slotsUsed := s₂.slotsUsed } : State).setVm s₂.vm).setTop g).pushFrame (.throwing q))
    rw [← hs₂]
    exact hsteps
end Payer
section Calls
variable {p : Program} {l : Launch} {e : Env} {R : Room} {s : State} {m : MethodId} {args : Array Value} {below : List Frame} {meth : Method} {c : Code} {T : State} {locs : List Loc} {cells slots : Nat}
theorem vx_callV (X : Stand p l e R s m args below meth c T locs cells slots) (hexec : p.tables.exec = Jvm.exec) {own C : String} {index : Nat} {y : MethodName} {bytes : ByteArray} {maxL : Nat} {ret : Option FieldType}
    (hown : s.vm.findClass own = some m.cls) (hlink : (Cond.methodLink own index y).before args s = true) (hinst : (Cond.instanceMethod y).before args s = true) (hsel : (Cond.selects C y y).before args s = true)
    (hcode : (Cond.code y bytes maxL ret).before args s = true) (hy : y.cls ≠ "java/lang/invoke/MethodHandle" ∧ y.cls ≠ "java/lang/invoke/VarHandle")
    {W9 : Nat} {Pre : Pt → Array Value → Prop} {Post : Pt → Array Value → Option Value → Pt → Prop} {PostX : Pt → Array Value → Addr → Pt → Prop} (hK : vx_Back l R p e below s args y 3 W9 Pre Post PostX)
    {b : Addr} {cellB : Cell} (hcell : T.heap[b]? = some cellB) (hobj : cellB.vm.isStatics = false) (hcls : s.vm.findClass C = some cellB.cls)
    {g : JFrame} (hg : g.method = m) (hsize : g.locals.size = c.maxLocals) {argsL rest : List Value} (hlen : ∀ sig, parseMethodDescriptor y.desc = some sig → argsL.length = sig.parameters.length)
    (hstack : g.stack = argsL.reverse ++ .ref b :: rest) (hW : 2 * g.monitorRoom + (rest.map fun v => v.category).sum ≤ W9) (hdg : decode c.code g.pc = .ok (.invokevirtual index, 3))
    (hpre : ∀ vm₁, s.WarmedH vm₁ → Pre ⟨T.setVm vm₁, locs, cells, slots⟩ (Value.ref b :: argsL).toArray) :
    (∃ (v : Option Value) (vm₁ : Vm) (B : Pt), s.WarmedH vm₁ ∧ Stand p l e R s m args below meth c B.U B.locs B.cells B.slots ∧ Post ⟨T.setVm vm₁, locs, cells, slots⟩ (Value.ref b :: argsL).toArray v B ∧
      ∀ target, Steps p.tables e below (B.U.setTop { g with pc := g.pc + 3, stack := v.toList ++ rest }) target → Steps p.tables e below (T.setTop g) target) ∨
    (∃ (q : Addr) (vm₁ : Vm) (B : Pt), s.WarmedH vm₁ ∧ Stand p l e R s m args below meth c B.U B.locs B.cells B.slots ∧ PostX ⟨T.setVm vm₁, locs, cells, slots⟩ (Value.ref b :: argsL).toArray q B ∧
      Steps p.tables e below (T.setTop g) ((B.U.setTop { g with stack := rest }).pushFrame (.throwing q))) := by
  obtain ⟨mk, methM, hnamed, hmethM, hstM, habM⟩ := Cond.instanceMethod_spec hinst
  obtain ⟨methM', cM, hmethM', -, -, -, -, -, -, hsigM⟩ := Cond.code_spec hnamed hcode
  cases hmethM.symm.trans hmethM'
  obtain ⟨c2, r2, m2, q1, q2, q3, q4, kP, hkP, hkPi⟩ := Cond.selects_spec hsel
  cases hcls.symm.trans q1
  cases (State.methodFound?_of_named hnamed hy).symm.trans q2
  cases hnamed.symm.trans q3
  have hselP : selectMethod e.platform s.vm cellB.cls mk = .method mk := by rw [Launch.admits_selectMethod X.admits]; exact q4
  obtain ⟨vm₁, X₁, hstep₁⟩ := X.invokevirtual hexec hown hlink hnamed hmethM hstM hkP hkPi hy (a := b) (cell := cellB) hcell
    (fun z h => by rw [h] at hobj; cases hobj) hselP hmethM habM hkP hkPi (g := g) hg (argsL := argsL) (rest := rest) (hlen _ hsigM) hstack hdg
  rcases hK m meth c ⟨T.setVm vm₁, locs, cells, slots⟩ { g with stack := rest } (.invokevirtual index) mk (Value.ref b :: argsL).toArray X₁ hg hsize hdg hW (X₁.named hnamed) (hpre vm₁ X₁.warmed) with ⟨v, B, X', hpost, hsteps⟩ | ⟨q, B, X', hpost, hsteps⟩
  · exact Or.inl ⟨v, vm₁, B, X₁.warmed, X', hpost, fun target h => hstep₁ _ fun acts => by rw [doInvoke_state]; exact hsteps.trans h⟩
  · exact Or.inr ⟨q, vm₁, B, X₁.warmed, X', hpost, hstep₁ _ fun acts => by rw [doInvoke_state]; exact hsteps⟩
theorem vx_callS (X : Stand p l e R s m args below meth c T locs cells slots) (hexec : p.tables.exec = Jvm.exec) {own : String} {index : Nat} {y : MethodName} {bytes : ByteArray} {maxL : Nat} {ret : Option FieldType}
    (hown : s.vm.findClass own = some m.cls) (hlink : (Cond.methodLink own index y).before args s = true) (hstat : (Cond.static y).before args s = true) (hinit : (Cond.initialized y.cls).before args s = true)
    (hcode : (Cond.code y bytes maxL ret).before args s = true) (hy : y.cls ≠ "java/lang/invoke/MethodHandle" ∧ y.cls ≠ "java/lang/invoke/VarHandle")
    {W9 : Nat} {Pre : Pt → Array Value → Prop} {Post : Pt → Array Value → Option Value → Pt → Prop} {PostX : Pt → Array Value → Addr → Pt → Prop} (hK : vx_Back l R p e below s args y 3 W9 Pre Post PostX)
    {g : JFrame} (hg : g.method = m) (hsize : g.locals.size = c.maxLocals) {argsL rest : List Value} (hlen : ∀ sig, parseMethodDescriptor y.desc = some sig → argsL.length = sig.parameters.length)
    (hstack : g.stack = argsL.reverse ++ rest) (hW : 2 * g.monitorRoom + (rest.map fun v => v.category).sum ≤ W9) (hdg : decode c.code g.pc = .ok (.invokestatic index, 3))
    (hpre : ∀ vm₁, s.WarmedH vm₁ → Pre ⟨T.setVm vm₁, locs, cells, slots⟩ argsL.toArray) :
    (∃ (v : Option Value) (vm₁ : Vm) (B : Pt), s.WarmedH vm₁ ∧ Stand p l e R s m args below meth c B.U B.locs B.cells B.slots ∧ Post ⟨T.setVm vm₁, locs, cells, slots⟩ argsL.toArray v B ∧
      ∀ target, Steps p.tables e below (B.U.setTop { g with pc := g.pc + 3, stack := v.toList ++ rest }) target → Steps p.tables e below (T.setTop g) target) ∨
    (∃ (q : Addr) (vm₁ : Vm) (B : Pt), s.WarmedH vm₁ ∧ Stand p l e R s m args below meth c B.U B.locs B.cells B.slots ∧ PostX ⟨T.setVm vm₁, locs, cells, slots⟩ argsL.toArray q B ∧
      Steps p.tables e below (T.setTop g) ((B.U.setTop { g with stack := rest }).pushFrame (.throwing q))) := by
  obtain ⟨mk, hnamed⟩ := Cond.code_named hcode
  obtain ⟨methM, cM, hmethM, -, -, -, -, -, -, hsigM⟩ := Cond.code_spec hnamed hcode
  have hstatic : methM.isStatic = true := Cond.static_spec hnamed hmethM hstat
  obtain ⟨kP, hkP, -⟩ := className_of_methodNamed hnamed
  have hinitP : kP.init = .initialized := Cond.initialized_spec (findClass_of_methodNamed hnamed) hkP hinit
  obtain ⟨vm₁, X₁, hstep₁⟩ := X.invokestatic hexec hown hlink hnamed hmethM hstatic hkP hinitP hy (g := g) hg (argsL := argsL) (rest := rest) (hlen _ hsigM) hstack hdg
  rcases hK m meth c ⟨T.setVm vm₁, locs, cells, slots⟩ { g with stack := rest } (.invokestatic index) mk argsL.toArray X₁ hg hsize hdg hW (X₁.named hnamed) (hpre vm₁ X₁.warmed) with ⟨v, B, X', hpost, hsteps⟩ | ⟨q, B, X', hpost, hsteps⟩
  · exact Or.inl ⟨v, vm₁, B, X₁.warmed, X', hpost, fun target h => hstep₁ _ fun acts => by rw [doInvoke_state]; exact hsteps.trans h⟩
  · exact Or.inr ⟨q, vm₁, B, X₁.warmed, X', hpost, hstep₁ _ fun acts => by rw [doInvoke_state]; exact hsteps⟩
end Calls
theorem vx_cls {s : State} {T : State} {vm₁ : Vm} {E : String} {k : ClassId} (hW : s.WarmedH vm₁) (h : (T.setVm vm₁).vm.findClass E = some k) : s.vm.findClass E = some k := by
  have h1 : vm₁.findClass E = some k := h
  rw [hW.alike.findClass] at h1
  exact h1
/-- the method's frame g, with q thrown over it -/
def vx_W (p : Program) (l : Launch) (e : Env) (R : Room) (s : State) (m : MethodId) (args : Array Value) (below : List Frame) (meth : Method) (c : Code) (H : Heap) (locs : List Loc) (cells slots : Nat) (Q : State → Prop) (g : JFrame) (q : Addr) : Prop :=
  ∀ T : State, T.heap = H → Stand p l e R s m args below meth c T locs cells slots → ∃ t, Steps p.tables e below ((T.setTop g).pushFrame (.throwing q)) t ∧ Q t
def vx_Run (p : Program) (l : Launch) (e : Env) (R : Room) (s : State) (m : MethodId) (args : Array Value) (below : List Frame) (meth : Method) (c : Code) (H : Heap) (locs : List Loc) (cells slots mc ms : Nat) (g : JFrame) (rest : List Value) (Qa : State → Outcome → State → Prop) (XC : String → State → State → Prop) (free : Addr → Prop) : Prop :=
  ∀ T : State, T.heap = H → Stand p l e R s m args below meth c T locs cells slots →
    (∃ (v : Option Value) (st₀ t T' : State) (L : List Loc), st₀.heap = H ∧ Stand p l e R s m args below meth c T' (locs ++ L) (cells + mc) (slots + ms) ∧ (∀ q ∈ L, free q.base) ∧ T'.heap = t.heap ∧ T'.vm = t.vm ∧ Qa st₀ (.returned v) t ∧
      Goes p e below T g T' { g with pc := g.pc + 3, stack := v.toList ++ rest }) ∨
    (∃ (q : Addr) (st₀ t T' : State) (L : List Loc) (E : String) (ce : Cell), st₀.heap = H ∧ Stand p l e R s m args below meth c T' (locs ++ L) (cells + mc) (slots + ms) ∧ (∀ z ∈ L, free z.base) ∧ T'.heap = t.heap ∧ T'.vm = t.vm ∧ XC E st₀ t ∧ t.heap[q]? = some ce ∧ ce.vm = .none ∧ s.vm.findClass E = some ce.cls ∧
      Steps p.tables e below (T.setTop g) ((T'.setTop { g with stack := rest }).pushFrame (.throwing q)))
def vx_X {S : Type} (px : S → Prop) (B : String → S → State → Prop) (A : Nat → Prop) : String → State → State → Prop := fun E st t => ∃ u : S, px u ∧ B E u t ∧ va_F A st t
section Runs
variable {p : Program} {l : Launch} {e : Env} {R : Room} {s : State} {m : MethodId} {args : Array Value} {below : List Frame} {meth : Method} {c : Code} {H : Heap} {locs : List Loc} {cells slots : Nat}
variable {y : MethodName} {bytes cc : ByteArray} {maxL nL mc ms n index : Nat} {ret : Option FieldType} {ws : List Cond} {rm : Room} {Pc : Array Value → State → Prop} {Qc : Array Value → State → Outcome → State → Prop} {XC : String → State → State → Prop} {free : Addr → Prop} {Ts : List Cond} {own C : String} {b : Addr} {As rest : List Value} {g : JFrame}
theorem vx_callBack (cb : CallB R s args own index y bytes maxL ret ws rm mc ms n) (hM : vx_Met l y ws rm Pc Qc XC mc ms free) (hbl : FrameBlind Pc) : vx_Back l R p e below s args y 3 8 (PreOf R mc ms Pc) (PostOf Qc mc ms free) (vx_Post XC mc ms free) := by
  obtain ⟨hrc, hrs, hfr, hlo, hws, hcw, -, hini, -⟩ := cb
  exact vx_back (bytes := bytes) (maxL := maxL) (ret := ret) hM hbl hrc hrs hfr hlo hws hcw (fun a' U hW => word_at hW (Or.inl (by first | rfl | simp [Cond.onTables, Cond.keeps, Cond.steady])) hini)
theorem vx_runV (S : CallFix p m c cc nL s args Ts own) (hM : vx_Met l y ws rm Pc Qc XC mc ms free) (cw : CallW R s args own C index y bytes maxL ret ws rm mc ms n) (hp : PreV s H C b Pc As)
    (hg : g.method = m) (hn : As.length = n) (hsize : g.locals.size = nL) (hstack : g.stack = As.reverse ++ .ref b :: rest) (hW : 2 * g.monitorRoom + (rest.map fun v => v.category).sum ≤ 8) (hdg : decode cc g.pc = .ok (.invokevirtual index, 3)) (hf : cells + mc ≤ R.cells ∧ slots + ms ≤ R.slots) :
    vx_Run p l e R s m args below meth c H locs cells slots mc ms g rest (Qc (Value.ref b :: As).toArray) XC free := by
  have hK : vx_Back l R p e below s args y 3 8 (PreOf R mc ms Pc) (PostOf Qc mc ms free) (vx_Post XC mc ms free) := vx_callBack cw.1 hM hp.1
  obtain ⟨⟨-, -, -, -, -, -, hcode, -, hy, hlen, hl⟩, hin, hse⟩ := cw
  obtain ⟨hx, hb, hml, ho, -⟩ := S
  obtain ⟨-, ⟨cellB, hcB, hoB, hclB⟩, hPc⟩ := hp
  intro T hT X
  rcases vx_callV X hx (C := C) (bytes := bytes) (maxL := maxL) (ret := ret) ho hl hin hse hcode hy hK (by rw [hT]; exact hcB) hoB hclB hg (hsize.trans hml.symm) (argsL := As) (rest := rest) (fun sig h => hn.trans (hlen sig h)) hstack hW (by rw [hb]; exact hdg)
    (fun vm₁ hW₁ => ⟨hf.1, hf.2, hPc (T.setVm vm₁) hT hW₁⟩) with ⟨v, vm₁, ⟨U', l2, c2, s2⟩, hW₁, X', ⟨g', mk, t, L, e1, e2, hq, h1, hL, h2, h3⟩, st⟩ | ⟨q, vm₁, ⟨U', l2, c2, s2⟩, hW₁, X', ⟨g', mk, t, L, E, ce, e1, e2, hq, hce, hcv, hcl, h1, hL, h2, h3⟩, st⟩
  · dsimp only [Pt.U, Pt.locs, Pt.cells, Pt.slots] at X' e1 e2 h1 h2 h3 st
    subst h1; subst h2; subst h3
    exact Or.inl ⟨v, (T.setVm vm₁).calling g' mk (Value.ref b :: As).toArray, t, U', L, hT, X', hL, e1, e2, hq, st⟩
  · dsimp only [Pt.U, Pt.locs, Pt.cells, Pt.slots] at X' e1 e2 h1 h2 h3 st hcl
    subst h1; subst h2; subst h3
    exact Or.inr ⟨q, (T.setVm vm₁).calling g' mk (Value.ref b :: As).toArray, t, U', L, E, ce, hT, X', hL, e1, e2, hq, hce, hcv, vx_cls hW₁ hcl, st⟩
theorem vx_runS (S : CallFix p m c cc nL s args Ts own) (hM : vx_Met l y ws rm Pc Qc XC mc ms free) (cw : CallB R s args own index y bytes maxL ret ws rm mc ms n ∧ (Cond.static y).before args s = true) (hp : PreS s H Pc As)
    (hg : g.method = m) (hn : As.length = n) (hsize : g.locals.size = nL) (hstack : g.stack = As.reverse ++ rest) (hW : 2 * g.monitorRoom + (rest.map fun v => v.category).sum ≤ 8) (hdg : decode cc g.pc = .ok (.invokestatic index, 3)) (hf : cells + mc ≤ R.cells ∧ slots + ms ≤ R.slots) :
    vx_Run p l e R s m args below meth c H locs cells slots mc ms g rest (Qc As.toArray) XC free := by
  have hK : vx_Back l R p e below s args y 3 8 (PreOf R mc ms Pc) (PostOf Qc mc ms free) (vx_Post XC mc ms free) := vx_callBack cw.1 hM hp.1
  obtain ⟨⟨-, -, -, -, -, -, hcode, hini, hy, hlen, hl⟩, hstt⟩ := cw
  obtain ⟨hx, hb, hml, ho, -⟩ := S
  intro T hT X
  rcases vx_callS X hx (bytes := bytes) (maxL := maxL) (ret := ret) ho hl hstt hini hcode hy hK hg (hsize.trans hml.symm) (argsL := As) (rest := rest) (fun sig h => hn.trans (hlen sig h)) hstack hW (by rw [hb]; exact hdg)
    (fun vm₁ hW₁ => ⟨hf.1, hf.2, hp.2 (T.setVm vm₁) hT hW₁⟩) with ⟨v, vm₁, ⟨U', l2, c2, s2⟩, hW₁, X', ⟨g', mk, t, L, e1, e2, hq, h1, hL, h2, h3⟩, st⟩ | ⟨q, vm₁, ⟨U', l2, c2, s2⟩, hW₁, X', ⟨g', mk, t, L, E, ce, e1, e2, hq, hce, hcv, hcl, h1, hL, h2, h3⟩, st⟩
  · dsimp only [Pt.U, Pt.locs, Pt.cells, Pt.slots] at X' e1 e2 h1 h2 h3 st
    subst h1; subst h2; subst h3
    exact Or.inl ⟨v, (T.setVm vm₁).calling g' mk As.toArray, t, U', L, hT, X', hL, e1, e2, hq, st⟩
  · dsimp only [Pt.U, Pt.locs, Pt.cells, Pt.slots] at X' e1 e2 h1 h2 h3 st hcl
    subst h1; subst h2; subst h3
    exact Or.inr ⟨q, (T.setVm vm₁).calling g' mk As.toArray, t, U', L, E, ce, hT, X', hL, e1, e2, hq, hce, hcv, vx_cls hW₁ hcl, st⟩
end Runs
section Rows
variable {p : Program} {l : Launch} {e : Env} {R : Room} {s : State} {m : MethodId} {args : Array Value} {below : List Frame} {meth : Method} {c : Code} {H : Heap} {locs : List Loc} {cells slots : Nat} {Q : State → Prop}
variable {mc ms : Nat} {free : Addr → Prop} {A0 A1 : Nat → Prop} {H0 : Heap} {a : Array Value} {pc : Nat} {ls : Array Slot} {st0 rest : List Value}
theorem vx_keep {st₀ t T' : State} {L : List Loc} (h0 : st₀.heap = H) (e1 : T'.heap = t.heap) (hS : va_S A0 H0 H locs) (hA : ∀ q, q < H.size → A1 q → A0 q) (hf : ∀ q, free q → A0 q) (hL : ∀ q ∈ L, free q.base) (hF : va_F A1 st₀ t) :
    H.size ≤ T'.heap.size ∧ (∀ q : Nat, q < H.size → ¬ A1 q → T'.heap[q]? = H[q]?) ∧ va_S A0 H0 T'.heap (locs ++ L) := by
  obtain ⟨hz, hk⟩ := hF
  rw [h0] at hz hk
  exact ⟨by rw [e1]; exact hz, fun q h1 h2 => by rw [e1]; exact hk q h1 h2,
    ⟨Nat.le_trans hS.1 (by rw [e1]; exact hz), fun q h1 h2 => by rw [e1, hk q (Nat.lt_of_lt_of_le h1 hS.1) (fun z => h2 (hA q (Nat.lt_of_lt_of_le h1 hS.1) z))]; exact hS.2.1 q h1 h2, fun q hq => by
      rcases List.mem_append.mp hq with h | h
      · exact hS.2.2 q h
      · exact hf _ (hL q h)⟩⟩
theorem vx_calli {S SX : Type} {post : Int32 → S → Prop} {px : SX → Prop} {B : S → State → Prop} {BX : String → SX → State → Prop} {AX : Nat → Prop} (hr : vx_Run p l e R s m args below meth c H locs cells slots mc ms (F0 m pc ls st0) rest (va_Qi post B A1 a) (vx_X px BX AX) free) (hS : va_S A0 H0 H locs) (hA : ∀ q, q < H.size → A1 q → A0 q) (hf : ∀ q, free q → A0 q) (hAX : ∀ q, q < H.size → AX q → A0 q)
    (kx : ∀ (E : String) (ce : Cell) (q9 : Addr) (u : SX) (t : State) (H1 : Heap) (locs1 : List Loc), t.heap = H1 → s.vm.Alike t.vm → px u → BX E u t → H.size ≤ H1.size → (∀ q : Nat, q < H.size → ¬ AX q → H1[q]? = H[q]?) → va_S A0 H0 H1 locs1 → H1[q9]? = some ce → ce.vm = .none → s.vm.findClass E = some ce.cls → vx_W p l e R s m args below meth c H1 locs1 (cells + mc) (slots + ms) Q (F0 m pc ls rest) q9)
    (kk : ∀ (r : Int32) (u : S) (t : State) (H1 : Heap) (locs1 : List Loc), t.heap = H1 → s.vm.Alike t.vm → post r u → B u t → H.size ≤ H1.size → (∀ q : Nat, q < H.size → ¬ A1 q → H1[q]? = H[q]?) → va_S A0 H0 H1 locs1 → W p l e R s m args below meth c H1 locs1 (cells + mc) (slots + ms) Q (F0 m (pc + 3) ls (.int r :: rest))) : W p l e R s m args below meth c H locs cells slots Q (F0 m pc ls st0) := by
  intro T hT X
  rcases hr T hT X with ⟨v, st₀, t, T', L, h0, X', hL, e1, e2, ⟨⟨r, u, hv, hp, hb⟩, hF⟩, st⟩ | ⟨q, st₀, t, T', L, E, ce, h0, X', hL, e1, e2, ⟨u, hp, hb, hF⟩, hce, hcv, hcl, st⟩
  · cases hv
    obtain ⟨k1, k2, k3⟩ := vx_keep h0 e1 hS hA hf hL hF
    obtain ⟨t2, a1, b1⟩ := kk r u t T'.heap (locs ++ L) e1.symm (by rw [← e2]; exact X'.warmed.alike) hp hb k1 k2 k3 T' rfl X'
    exact ⟨t2, st t2 a1, b1⟩
  · obtain ⟨k1, k2, k3⟩ := vx_keep h0 e1 hS hAX hf hL hF
    obtain ⟨t2, a1, b1⟩ := kx E ce q u t T'.heap (locs ++ L) e1.symm (by rw [← e2]; exact X'.warmed.alike) hp hb k1 k2 k3 (by rw [e1]; exact hce) hcv hcl T' rfl X'
    exact ⟨t2, st.trans a1, b1⟩
theorem vx_calll {S SX : Type} {post : Int64 → S → Prop} {px : SX → Prop} {B : S → State → Prop} {BX : String → SX → State → Prop} {AX : Nat → Prop} (hr : vx_Run p l e R s m args below meth c H locs cells slots mc ms (F0 m pc ls st0) rest (va_Ql post B A1 a) (vx_X px BX AX) free) (hS : va_S A0 H0 H locs) (hA : ∀ q, q < H.size → A1 q → A0 q) (hf : ∀ q, free q → A0 q) (hAX : ∀ q, q < H.size → AX q → A0 q)
    (kx : ∀ (E : String) (ce : Cell) (q9 : Addr) (u : SX) (t : State) (H1 : Heap) (locs1 : List Loc), t.heap = H1 → s.vm.Alike t.vm → px u → BX E u t → H.size ≤ H1.size → (∀ q : Nat, q < H.size → ¬ AX q → H1[q]? = H[q]?) → va_S A0 H0 H1 locs1 → H1[q9]? = some ce → ce.vm = .none → s.vm.findClass E = some ce.cls → vx_W p l e R s m args below meth c H1 locs1 (cells + mc) (slots + ms) Q (F0 m pc ls rest) q9)
    (kk : ∀ (r : Int64) (u : S) (t : State) (H1 : Heap) (locs1 : List Loc), t.heap = H1 → s.vm.Alike t.vm → post r u → B u t → H.size ≤ H1.size → (∀ q : Nat, q < H.size → ¬ A1 q → H1[q]? = H[q]?) → va_S A0 H0 H1 locs1 → W p l e R s m args below meth c H1 locs1 (cells + mc) (slots + ms) Q (F0 m (pc + 3) ls (.long r :: rest))) : W p l e R s m args below meth c H locs cells slots Q (F0 m pc ls st0) := by
  intro T hT X
  rcases hr T hT X with ⟨v, st₀, t, T', L, h0, X', hL, e1, e2, ⟨⟨r, u, hv, hp, hb⟩, hF⟩, st⟩ | ⟨q, st₀, t, T', L, E, ce, h0, X', hL, e1, e2, ⟨u, hp, hb, hF⟩, hce, hcv, hcl, st⟩
  · cases hv
    obtain ⟨k1, k2, k3⟩ := vx_keep h0 e1 hS hA hf hL hF
    obtain ⟨t2, a1, b1⟩ := kk r u t T'.heap (locs ++ L) e1.symm (by rw [← e2]; exact X'.warmed.alike) hp hb k1 k2 k3 T' rfl X'
    exact ⟨t2, st t2 a1, b1⟩
  · obtain ⟨k1, k2, k3⟩ := vx_keep h0 e1 hS hAX hf hL hF
    obtain ⟨t2, a1, b1⟩ := kx E ce q u t T'.heap (locs ++ L) e1.symm (by rw [← e2]; exact X'.warmed.alike) hp hb k1 k2 k3 (by rw [e1]; exact hce) hcv hcl T' rfl X'
    exact ⟨t2, st.trans a1, b1⟩
theorem vx_callf {S SX : Type} {post : UInt32 → S → Prop} {px : SX → Prop} {B : S → State → Prop} {BX : String → SX → State → Prop} {AX : Nat → Prop} (hr : vx_Run p l e R s m args below meth c H locs cells slots mc ms (F0 m pc ls st0) rest (va_Qf post B A1 a) (vx_X px BX AX) free) (hS : va_S A0 H0 H locs) (hA : ∀ q, q < H.size → A1 q → A0 q) (hf : ∀ q, free q → A0 q) (hAX : ∀ q, q < H.size → AX q → A0 q)
    (kx : ∀ (E : String) (ce : Cell) (q9 : Addr) (u : SX) (t : State) (H1 : Heap) (locs1 : List Loc), t.heap = H1 → s.vm.Alike t.vm → px u → BX E u t → H.size ≤ H1.size → (∀ q : Nat, q < H.size → ¬ AX q → H1[q]? = H[q]?) → va_S A0 H0 H1 locs1 → H1[q9]? = some ce → ce.vm = .none → s.vm.findClass E = some ce.cls → vx_W p l e R s m args below meth c H1 locs1 (cells + mc) (slots + ms) Q (F0 m pc ls rest) q9)
    (kk : ∀ (r : UInt32) (u : S) (t : State) (H1 : Heap) (locs1 : List Loc), t.heap = H1 → s.vm.Alike t.vm → post r u → B u t → H.size ≤ H1.size → (∀ q : Nat, q < H.size → ¬ A1 q → H1[q]? = H[q]?) → va_S A0 H0 H1 locs1 → W p l e R s m args below meth c H1 locs1 (cells + mc) (slots + ms) Q (F0 m (pc + 3) ls (.float r :: rest))) : W p l e R s m args below meth c H locs cells slots Q (F0 m pc ls st0) := by
  intro T hT X
  rcases hr T hT X with ⟨v, st₀, t, T', L, h0, X', hL, e1, e2, ⟨⟨r, u, hv, hp, hb⟩, hF⟩, st⟩ | ⟨q, st₀, t, T', L, E, ce, h0, X', hL, e1, e2, ⟨u, hp, hb, hF⟩, hce, hcv, hcl, st⟩
  · cases hv
    obtain ⟨k1, k2, k3⟩ := vx_keep h0 e1 hS hA hf hL hF
    obtain ⟨t2, a1, b1⟩ := kk r u t T'.heap (locs ++ L) e1.symm (by rw [← e2]; exact X'.warmed.alike) hp hb k1 k2 k3 T' rfl X'
    exact ⟨t2, st t2 a1, b1⟩
  · obtain ⟨k1, k2, k3⟩ := vx_keep h0 e1 hS hAX hf hL hF
    obtain ⟨t2, a1, b1⟩ := kx E ce q u t T'.heap (locs ++ L) e1.symm (by rw [← e2]; exact X'.warmed.alike) hp hb k1 k2 k3 (by rw [e1]; exact hce) hcv hcl T' rfl X'
    exact ⟨t2, st.trans a1, b1⟩
theorem vx_calld {S SX : Type} {post : UInt64 → S → Prop} {px : SX → Prop} {B : S → State → Prop} {BX : String → SX → State → Prop} {AX : Nat → Prop} (hr : vx_Run p l e R s m args below meth c H locs cells slots mc ms (F0 m pc ls st0) rest (va_Qd post B A1 a) (vx_X px BX AX) free) (hS : va_S A0 H0 H locs) (hA : ∀ q, q < H.size → A1 q → A0 q) (hf : ∀ q, free q → A0 q) (hAX : ∀ q, q < H.size → AX q → A0 q)
    (kx : ∀ (E : String) (ce : Cell) (q9 : Addr) (u : SX) (t : State) (H1 : Heap) (locs1 : List Loc), t.heap = H1 → s.vm.Alike t.vm → px u → BX E u t → H.size ≤ H1.size → (∀ q : Nat, q < H.size → ¬ AX q → H1[q]? = H[q]?) → va_S A0 H0 H1 locs1 → H1[q9]? = some ce → ce.vm = .none → s.vm.findClass E = some ce.cls → vx_W p l e R s m args below meth c H1 locs1 (cells + mc) (slots + ms) Q (F0 m pc ls rest) q9)
    (kk : ∀ (r : UInt64) (u : S) (t : State) (H1 : Heap) (locs1 : List Loc), t.heap = H1 → s.vm.Alike t.vm → post r u → B u t → H.size ≤ H1.size → (∀ q : Nat, q < H.size → ¬ A1 q → H1[q]? = H[q]?) → va_S A0 H0 H1 locs1 → W p l e R s m args below meth c H1 locs1 (cells + mc) (slots + ms) Q (F0 m (pc + 3) ls (.double r :: rest))) : W p l e R s m args below meth c H locs cells slots Q (F0 m pc ls st0) := by
  intro T hT X
  rcases hr T hT X with ⟨v, st₀, t, T', L, h0, X', hL, e1, e2, ⟨⟨r, u, hv, hp, hb⟩, hF⟩, st⟩ | ⟨q, st₀, t, T', L, E, ce, h0, X', hL, e1, e2, ⟨u, hp, hb, hF⟩, hce, hcv, hcl, st⟩
  · cases hv
    obtain ⟨k1, k2, k3⟩ := vx_keep h0 e1 hS hA hf hL hF
    obtain ⟨t2, a1, b1⟩ := kk r u t T'.heap (locs ++ L) e1.symm (by rw [← e2]; exact X'.warmed.alike) hp hb k1 k2 k3 T' rfl X'
    exact ⟨t2, st t2 a1, b1⟩
  · obtain ⟨k1, k2, k3⟩ := vx_keep h0 e1 hS hAX hf hL hF
    obtain ⟨t2, a1, b1⟩ := kx E ce q u t T'.heap (locs ++ L) e1.symm (by rw [← e2]; exact X'.warmed.alike) hp hb k1 k2 k3 (by rw [e1]; exact hce) hcv hcl T' rfl X'
    exact ⟨t2, st.trans a1, b1⟩
theorem vx_callv {S SX : Type} {post : S → Prop} {px : SX → Prop} {B : S → State → Prop} {BX : String → SX → State → Prop} {AX : Nat → Prop} (hr : vx_Run p l e R s m args below meth c H locs cells slots mc ms (F0 m pc ls st0) rest (va_Qv post B A1 a) (vx_X px BX AX) free) (hS : va_S A0 H0 H locs) (hA : ∀ q, q < H.size → A1 q → A0 q) (hf : ∀ q, free q → A0 q) (hAX : ∀ q, q < H.size → AX q → A0 q)
    (kx : ∀ (E : String) (ce : Cell) (q9 : Addr) (u : SX) (t : State) (H1 : Heap) (locs1 : List Loc), t.heap = H1 → s.vm.Alike t.vm → px u → BX E u t → H.size ≤ H1.size → (∀ q : Nat, q < H.size → ¬ AX q → H1[q]? = H[q]?) → va_S A0 H0 H1 locs1 → H1[q9]? = some ce → ce.vm = .none → s.vm.findClass E = some ce.cls → vx_W p l e R s m args below meth c H1 locs1 (cells + mc) (slots + ms) Q (F0 m pc ls rest) q9)
    (kk : ∀ (u : S) (t : State) (H1 : Heap) (locs1 : List Loc), t.heap = H1 → s.vm.Alike t.vm → post u → B u t → H.size ≤ H1.size → (∀ q : Nat, q < H.size → ¬ A1 q → H1[q]? = H[q]?) → va_S A0 H0 H1 locs1 → W p l e R s m args below meth c H1 locs1 (cells + mc) (slots + ms) Q (F0 m (pc + 3) ls (rest))) : W p l e R s m args below meth c H locs cells slots Q (F0 m pc ls st0) := by
  intro T hT X
  rcases hr T hT X with ⟨v, st₀, t, T', L, h0, X', hL, e1, e2, ⟨⟨u, hv, hp, hb⟩, hF⟩, st⟩ | ⟨q, st₀, t, T', L, E, ce, h0, X', hL, e1, e2, ⟨u, hp, hb, hF⟩, hce, hcv, hcl, st⟩
  · cases hv
    obtain ⟨k1, k2, k3⟩ := vx_keep h0 e1 hS hA hf hL hF
    obtain ⟨t2, a1, b1⟩ := kk u t T'.heap (locs ++ L) e1.symm (by rw [← e2]; exact X'.warmed.alike) hp hb k1 k2 k3 T' rfl X'
    exact ⟨t2, st t2 a1, b1⟩
  · obtain ⟨k1, k2, k3⟩ := vx_keep h0 e1 hS hAX hf hL hF
    obtain ⟨t2, a1, b1⟩ := kx E ce q u t T'.heap (locs ++ L) e1.symm (by rw [← e2]; exact X'.warmed.alike) hp hb k1 k2 k3 (by rw [e1]; exact hce) hcv hcl T' rfl X'
    exact ⟨t2, st.trans a1, b1⟩






















end Rows
section Ends
variable {p : Program} {l : Launch} {e : Env} {R : Room} {s : State} {m : MethodId} {args : Array Value} {below : List Frame} {meth : Method} {c : Code} {H : Heap} {locs : List Loc} {cells slots : Nat} {Q : State → Prop}
variable {mc ms : Nat} {free : Addr → Prop} {A0 A1 : Nat → Prop} {H0 : Heap} {a : Array Value} {ls : Array Slot} {st0 rest : List Value}
variable {Qc : Array Value → State → Outcome → State → Prop} {XC : String → State → State → Prop}
/-- what a body that may throw owes at its end -/
def vx_MQ (below : List Frame) (Qc : Array Value → State → Outcome → State → Prop) (XC : String → State → State → Prop) (a : Array Value) (s : State) (mc ms : Nat) (free : Addr → Prop) : State → Prop := fun t =>
  ∃ o, t.status = .running ∧ Ended t below o ∧ vx_Q Qc XC mc ms free a s o t
theorem vx_ret {g : JFrame} {mc ms : Nat} (k : W p l e R s m args below meth c H locs cells slots (MQ below Qc args s mc ms free) g) : W p l e R s m args below meth c H locs cells slots (vx_MQ below Qc XC args s mc ms free) g := by
  intro T hT X
  obtain ⟨t, a1, o, b1, b2, b3, b4⟩ := k T hT X
  exact ⟨t, a1, o, b1, b2, Or.inl ⟨b3, b4⟩⟩
/-- not caught here: it goes on to the caller -/
theorem vx_widen {g : JFrame} {q : Addr} {k n : Nat} (h1 : cells ≤ k) (h2 : slots ≤ n) (kk : vx_W p l e R s m args below meth c H locs k n Q g q) : vx_W p l e R s m args below meth c H locs cells slots Q g q := fun T hT X => kk T hT (stand_widen X h1 h2)
theorem vx_out {pc : Nat} {E : String} {ce : Cell} {q : Addr} {mc ms : Nat} (hout : ∀ x ∈ c.exceptionTable.toList, covers x pc = false) (hlocks : meth.locks = false) (hcell : H[q]? = some ce) (hv : ce.vm = .none) (hcl : s.vm.findClass E = some ce.cls)
    (hx : ∀ t : State, t.heap = H → s.vm.Alike t.vm → XC E s t) (hf : ∀ z ∈ locs, free z.base) (hc : cells ≤ mc) (hs : slots ≤ ms) :
    vx_W p l e R s m args below meth c H locs cells slots (vx_MQ below Qc XC args s mc ms free) (F0 m pc ls rest) q := by
  intro T hT X
  obtain ⟨st1, hrun, hend, hW, hsm⟩ := X.leaveThrown q (g := F0 m pc ls rest) rfl rfl rfl hout hlocks
  have hcell9 : (T.setFrames (.throwing q :: below)).heap[q]? = some ce := by
    show T.heap[q]? = some ce
    rw [hT]; exact hcell
  exact ⟨_, st1, .threw q, hrun, hend, Or.inr ⟨q, rfl, E, ce, locs, hx _ hT hW.alike, hcell9, hv, hcl, hW, hsm.mono hc hs, hf⟩⟩
theorem vx_frame {U : State} {k n : Nat} (h : s.sameButNew ({ U with vm := s.vm } : State) locs k n) : s.heap.size ≤ U.heap.size ∧ ∀ q : Nat, q < s.heap.size → (∀ z ∈ locs, z.base ≠ q) → U.heap[q]? = s.heap[q]? := by
  obtain ⟨-, h2, -, -, -, h6⟩ := h
  refine ⟨h2, fun q hq hz => ?_⟩
  obtain ⟨c9, e1, e2, e3, e4⟩ := h6 q _ (Array.getElem?_eq_getElem hq)
  have hs : c9.slots = (s.heap[q]).slots := Array.ext_getElem? fun i => e4 i fun hm => hz _ hm rfl
  have h9 : c9 = s.heap[q] := by
    rw [hs] at e2
    exact e2
  have e5 : U.heap[q]? = some c9 := e1
  rw [e5, h9, Array.getElem?_eq_getElem hq]
/-- the words of a throw but the four that speak of the heap -/
def vx_no (w : Cond) : Bool := decide (w ≠ .isRef (.static Bundle.tN "UNASSIGNED_STACK" Bundle.steD)) && decide (w ≠ .isRef (.static Bundle.tN "SUPPRESSED_SENTINEL" Bundle.listD)) && decide (w ≠ .laysStatic Bundle.tN "UNASSIGNED_STACK" Bundle.steD) && decide (w ≠ .laysStatic Bundle.tN "SUPPRESSED_SENTINEL" Bundle.listD)
def vx_at0 (own : String) (ic : Nat) (X : String) (names : List String) : List Cond := (Bundle.ownAtoms0 own ic X names).filter vx_no
def vx_atS (own : String) (ic : Nat) (X : String) (names : List String) : List Cond := (Bundle.ownAtoms own ic X names).filter vx_no
/-- a word that the tables alone decide, or a good one -/
def vx_ot (w : Cond) : Bool := w.onTables || goodWord w
theorem vx_ot_at {args a' : Array Value} {s U : State} {w : Cond} (hW : s.WarmedH U.vm) (hvm : s.vm = U.vm) (hg : vx_ot w = true) (h : w.before args s = true) : w.before a' U = true := by
  simp only [vx_ot, Bool.or_eq_true] at hg
  rcases hg with hg | hg
  · exact va_tabs hg hvm h
  · exact word_at hW (good_of_word hg) h
/-- a list's words: the good ones out of the method's own list, the others by premises of their own -/
theorem vx_hat {args : Array Value} {s : State} {L B : List Cond} (h1 : ∀ w ∈ L.filter goodWord, w.before args s = true) (h2 : ∀ w ∈ L.filter (fun w => !goodWord w), w ∈ B) (h3 : ∀ w ∈ B, w.before args s = true) : ∀ w ∈ L, w.before args s = true := by
  intro w hw
  by_cases g : goodWord w = true
  · exact h1 w (List.mem_filter.mpr ⟨hw, g⟩)
  · refine h3 w (h2 w (List.mem_filter.mpr ⟨hw, ?_⟩))
    show (!goodWord w) = true
    cases hgw : goodWord w
    · rfl
    · exact absurd hgw g
theorem vx_c {args : Array Value} {s : State} {w : Cond} {B : List Cond} (h : w.before args s = true) (t : ∀ w ∈ B, w.before args s = true) : ∀ w' ∈ w :: B, w'.before args s = true := fun w' h' => (List.mem_cons.mp h').elim (fun e => by rw [e]; exact h) (t w')
theorem vx_n {args : Array Value} {s : State} : ∀ w ∈ ([] : List Cond), w.before args s = true := fun _ h => nomatch h
theorem vx_own {args : Array Value} {s : State} {L : List Cond} (h1 : ∀ w ∈ L.filter vx_no, w.before args s = true)
    (hU : (Cond.isRef (.static Bundle.tN "UNASSIGNED_STACK" Bundle.steD)).before args s = true) (hN : (Cond.isRef (.static Bundle.tN "SUPPRESSED_SENTINEL" Bundle.listD)).before args s = true)
    (lU : (Cond.laysStatic Bundle.tN "UNASSIGNED_STACK" Bundle.steD).before args s = true) (lN : (Cond.laysStatic Bundle.tN "SUPPRESSED_SENTINEL" Bundle.listD).before args s = true) : ∀ w ∈ L, w.before args s = true := by
  intro w hw
  by_cases e1 : w = .isRef (.static Bundle.tN "UNASSIGNED_STACK" Bundle.steD)
  · rw [e1]; exact hU
  · by_cases e2 : w = .isRef (.static Bundle.tN "SUPPRESSED_SENTINEL" Bundle.listD)
    · rw [e2]; exact hN
    · by_cases e3 : w = .laysStatic Bundle.tN "UNASSIGNED_STACK" Bundle.steD
      · rw [e3]; exact lU
      · by_cases e4 : w = .laysStatic Bundle.tN "SUPPRESSED_SENTINEL" Bundle.listD
        · rw [e4]; exact lN
        · exact h1 w (List.mem_filter.mpr ⟨hw, by unfold vx_no; rw [decide_eq_true e1, decide_eq_true e2, decide_eq_true e3, decide_eq_true e4]; rfl⟩)
/-- where a static field lies, its class's statics cell in H -/
def vx_L (C n d : String) (A : Nat → Prop) (U : State) (H : Heap) : Prop := ∃ (c : ClassId) (k : Class) (i : Nat) (f : Field) (a : Nat) (cell : Cell), U.vm.findClass C = some c ∧ U.fieldFound? C n d = some (c, k, i, f) ∧ f.isStatic = true ∧ k.statics = some a ∧ H[a]? = some cell ∧ cell.vm.isStatics = true ∧ cell.cls = c ∧ f.slot < cell.slots.size ∧ k.staticTypes[f.slot]? = some f.type ∧ ¬ A a
theorem vx_L.moved {C n d : String} {A : Nat → Prop} {u U : State} {H : Heap} (hvm : u.vm.Alike U.vm) (h : vx_L C n d A u H) : vx_L C n d A U H := by
  obtain ⟨c, k, i, f, a, cell, h1, h2, h3, h4, h5, h6, h7, h8, h9, h10⟩ := h
  obtain ⟨k', hi', he⟩ := State.fieldFound?_setVm hvm h2
  exact ⟨c, k', i, f, a, cell, by rw [hvm.findClass]; exact h1, hi', h3, by rw [he]; exact h4, h5, h6, h7, h8, by rw [he]; exact h9, h10⟩
theorem vx_L.kept {C n d : String} {A : Nat → Prop} {U : State} {H H1 : Heap} (h : vx_L C n d A U H) (hq : ∀ a : Nat, a < H.size → ¬ A a → H1[a]? = H[a]?) : vx_L C n d A U H1 := by
  obtain ⟨c, k, i, f, a, cell, h1, h2, h3, h4, h5, h6, h7, h8, h9, h10⟩ := h
  exact ⟨c, k, i, f, a, cell, h1, h2, h3, h4, by rw [hq a (Array.getElem?_eq_some_iff.mp h5).1 h10]; exact h5, h6, h7, h8, h9, h10⟩
theorem vx_L.narrow {C n d : String} {A B : Nat → Prop} {U : State} {H : Heap} (h : vx_L C n d A U H) (hAB : ∀ q, B q → A q) : vx_L C n d B U H := by
  obtain ⟨c, k, i, f, a, cell, h1, h2, h3, h4, h5, h6, h7, h8, h9, h10⟩ := h
  exact ⟨c, k, i, f, a, cell, h1, h2, h3, h4, h5, h6, h7, h8, h9, fun z => h10 (hAB _ z)⟩
theorem vx_L.word {C n d : String} {A : Nat → Prop} {s : State} {args : Array Value} (h : vx_L C n d A s s.heap) : (Cond.laysStatic C n d).before args s = true := by
  obtain ⟨c, k, i, f, a, cell, h1, h2, h3, h4, h5, h6, h7, h8, h9, -⟩ := h
  show (Cond.laysStatic C n d).holds args s none s [] = true
  exact Cond.laysStatic_of h1 h2 h3 h4 h5 h6 h7 h8 h9
/-- .. and what it holds: null or some reference -/
def vx_Zq (C n d : String) (A : Nat → Prop) (U : State) (H : Heap) : Prop := va_Zq C n d A U H ∧ vx_L C n d A U H
theorem vx_Zq.moved {C n d : String} {A : Nat → Prop} {u U : State} {H : Heap} (hvm : u.vm.Alike U.vm) (h : vx_Zq C n d A u H) : vx_Zq C n d A U H := ⟨va_Zq.moved hvm h.1, vx_L.moved hvm h.2⟩
theorem vx_Zq.kept {C n d : String} {A : Nat → Prop} {U : State} {H H1 : Heap} (h : vx_Zq C n d A U H) (hq : ∀ a : Nat, a < H.size → ¬ A a → H1[a]? = H[a]?) : vx_Zq C n d A U H1 := ⟨va_Zq.kept h.1 hq, vx_L.kept h.2 hq⟩
theorem vx_Zq.narrow {C n d : String} {A B : Nat → Prop} {U : State} {H : Heap} (h : vx_Zq C n d A U H) (hAB : ∀ q, B q → A q) : vx_Zq C n d B U H := ⟨va_Zq.narrow h.1 hAB, vx_L.narrow h.2 hAB⟩
theorem vx_Zqof {args : Array Value} {s : State} {C n d : String} {A : Nat → Prop} (hl : (Cond.laysStatic C n d).before args s = true) (hini : (Cond.initialized C).before args s = true) (h : (Cond.isRef (.static C n d)).before args s = true) (hA : ∀ a : Nat, a < s.heap.size → ¬ A a) : vx_Zq C n d A s s.heap := by
  refine ⟨va_Zqof hl hini h hA, ?_⟩
  obtain ⟨c, k, i, f, a, cell, h1, h2, h3, h4, h5, h6, h7, h8, h9⟩ := Cond.laysStatic_spec hl
  exact ⟨c, k, i, f, a, cell, h1, h2, h3, h4, h5, h6, h7, h8, h9, hA a (Array.getElem?_eq_some_iff.mp h5).1⟩
theorem vx_isRef {C n d : String} {v : Value} {A : Nat → Prop} {s : State} {args : Array Value} (h : va_Z C n d v A s s.heap) (hv : v.isRef = true) : (Cond.isRef (.static C n d)).before args s = true := by
  obtain ⟨cf, kf, fi, f, a, cell, h1, h2, h3, h4, h5, h6, h7, -⟩ := h
  have he : (Term.static C n d).eval args s none [] s = some v := by
    simp [Term.eval, State.fieldNamed?, h1, h2, h4, h5, h6, h7]
  simp only [Cond.before, Cond.holds, Cond.value, he]
  cases v <;> simp_all [Value.isRef]
theorem vx_isRefq {C n d : String} {A : Nat → Prop} {s : State} {args : Array Value} (h : va_Zq C n d A s s.heap) : (Cond.isRef (.static C n d)).before args s = true := by
  rcases h with h | ⟨t, h⟩
  · exact vx_isRef h rfl
  · exact vx_isRef h rfl
/-- the same frame, seen from here: as if the method were called anew in this heap -/
theorem vx_rebase {T : State} (X : Stand p l e R s m args below meth c T locs cells slots) {R' : Room} (hf : R'.frames ≤ R.frames) (hl : R'.locals ≤ R.locals) (hc : cells + R'.cells ≤ R.cells) (hs : slots + R'.slots ≤ R.slots) :
    Stand p l e R' ((T.setVm s.vm).setFrames (.invoking m args :: below)) m args below meth c T [] 0 0 := by
  have htop : (T.setVm s.vm).topJava?.isSome := X.here.top
  have hF : ((T.setVm s.vm).setFrames (.invoking m args :: below)).frames = .invoking m args :: below := State.frames_setFrames _ (State.cur_lt_of_top htop)
  obtain ⟨g₀, hg0⟩ := Option.isSome_iff_exists.mp htop
  obtain ⟨r, hr⟩ := State.topJava?_eq_some.mp hg0
  have hl9 : e.platform.stackLimits (T.setVm s.vm).me = e.platform.stackLimits s.me := X.limits
  have hb9 : (T.setVm s.vm).me.stackBytes = s.me.stackBytes := X.bytes
  refine ⟨X.admits, X.cas, X.clock, hF, ?_, X.hears, X.method, X.code, X.here, X.tail, X.warmed, ?_, ?_, ?_⟩
  · have h := X.room
    have hU : ((T.setVm s.vm).setFrames (.invoking m args :: below)).localsInUse = s.localsInUse := by
      rw [State.localsInUse_invoking hF (meth := meth) (c := c) X.method X.code, State.localsInUse_invoking X.frames X.method X.code]
    simp only [State.hasRoom, Bool.and_eq_true, decide_eq_true_eq] at h ⊢
    obtain ⟨⟨⟨⟨h1, h2, h3, h4, h5, h6⟩, h7⟩, h8⟩, h9⟩ := h
    rw [X.frames, List.length_cons] at h2 h3
    have q1 := X.heapSize
    have q2 := X.used
    simp only [hF, hU, List.length_cons, State.stackLimits_setFrames, State.stackBytes_setFrames, hl9, hb9]
    refine ⟨⟨⟨⟨by omega, by omega, by omega, by omega, by omega, h6⟩, ?_⟩, ?_⟩, X.book⟩
    · show T.heap.size + R'.cells ≤ e.platform.maxCells
      omega
    · show T.slotsUsed + R'.slots ≤ e.platform.maxSlots
      omega
  · rw [State.stackLimits_setFrames]; rfl
  · rw [State.stackBytes_setFrames]; rfl
  · refine ⟨?_, Nat.le_refl _, Nat.le_refl _, ?_, ?_, fun a c9 h9 => ⟨c9, h9, rfl, rfl, fun _ _ => rfl⟩⟩
    · obtain ⟨t, ht, -⟩ := State.frames_cons hr
      show T.setVm s.vm = { ((T.setVm s.vm).setFrames (.invoking m args :: below)).setFrames (T.setVm s.vm).frames with heap := T.heap, slotsUsed := T.slotsUsed }
      rw [State.setFrames_setFrames, State.setFrames_self ht]
      rfl
    · show T.slotsUsed = T.slotsUsed + ((T.heap.toList.drop T.heap.size).map (·.slots.size)).sum
      rw [List.drop_eq_nil_of_le (Nat.le_of_eq Array.length_toList)]
      rfl
    · show ((T.heap.toList.drop T.heap.size).map (·.slots.size)).sum ≤ 0
      rw [List.drop_eq_nil_of_le (Nat.le_of_eq Array.length_toList)]
      exact Nat.le_refl _
/-- 'throw new E()': new; dup; invokespecial; athrow -/
theorem vx_throw0 {cc : ByteArray} {pc : Nat} (hexec : p.tables.exec = Jvm.exec) (hb : c.code = cc) (hl : l.stackTraces = false) {own cls : String} {names : List String} {ik ic mc ms : Nat} {A : Nat → Prop}
    (hown : s.vm.findClass own = some m.cls) (hcls : Bundle.fit cls = true) (hnames : ∀ n ∈ names, Bundle.fit n = true)
    (hk : (Cond.classLink own ik cls).before args s = true) (hini : (Cond.initialized cls).before args s = true) (hat : ∀ w ∈ vx_at0 own ic cls names, w.before args s = true)
    (hgood : ∀ w ∈ Cond.classLink own ik cls :: Cond.initialized cls :: vx_at0 own ic cls names, vx_ot w = true)
    (hU : vx_Zq Bundle.tN "UNASSIGNED_STACK" Bundle.steD A s s.heap) (hN : vx_Zq Bundle.tN "SUPPRESSED_SENTINEL" Bundle.listD A s s.heap) (hS : va_S A s.heap H locs) (hsize : ls.size = c.maxLocals)
    (d0 : decode cc pc = .ok (.new ik, 3)) (d3 : decode cc (pc + 3) = .ok (.dup, 1)) (d4 : decode cc (pc + 4) = .ok (.invokespecial ic, 3)) (d7 : decode cc (pc + 7) = .ok (.athrow, 1))
    (hout : ∀ x ∈ c.exceptionTable.toList, covers x (pc + 7) = false)
    (hRframes : names.length + 3 < R.frames) (hRlocals : (rest.map fun v => v.category).sum + (13 * (names.length + 1) + 42) ≤ R.locals) (hRcells : cells + 1 ≤ R.cells) (hRslots : slots + 6 ≤ R.slots) (hlocks : meth.locks = false)
    (hx : ∀ t : State, s.vm.Alike t.vm → H.size ≤ t.heap.size → (∀ q : Nat, q < H.size → t.heap[q]? = H[q]?) → XC cls s t)
    (hf : ∀ z ∈ locs, free z.base) (hc : cells + 1 ≤ mc) (hs : slots + 6 ≤ ms) :
    W p l e R s m args below meth c H locs cells slots (vx_MQ below Qc XC args s mc ms free) (F0 m pc ls rest) := by
  intro T hT X
  have htr : e.platform.stackTraces = false := (show e.platform.stackTraces = l.stackTraces by rw [X.admits.platform]).trans hl
  have Y := vx_rebase X (R' := { frames := R.frames, locals := R.locals, cells := 1, slots := 6 }) (Nat.le_refl _) (Nat.le_refl _) hRcells hRslots
  obtain ⟨s', hA⟩ : ∃ z, z = (T.setVm s.vm).setFrames (.invoking m args :: below) := ⟨_, rfl⟩
  rw [← hA] at Y
  have hvm : s'.vm = s.vm := by rw [hA]; rfl
  have hhp : s'.heap = H := by rw [hA]; exact hT
  have hW0 : s.WarmedH s'.vm := by rw [hvm]; exact State.WarmedH.refl s
  have hat' : ∀ w ∈ vx_at0 own ic cls names, w.before args s' = true := fun w hw => vx_ot_at hW0 hvm.symm (hgood w (List.mem_cons_of_mem _ (List.mem_cons_of_mem _ hw))) (hat w hw)
  have hk' : (Cond.classLink own ik cls).before args s' = true := vx_ot_at hW0 hvm.symm (hgood _ List.mem_cons_self) hk
  have hini' : (Cond.initialized cls).before args s' = true := vx_ot_at hW0 hvm.symm (hgood _ (List.mem_cons_of_mem _ List.mem_cons_self)) hini
  have hU' : vx_Zq Bundle.tN "UNASSIGNED_STACK" Bundle.steD A s' s'.heap := by rw [hhp]; exact vx_Zq.moved hW0.alike (hU.kept hS.2.1)
  have hN' : vx_Zq Bundle.tN "SUPPRESSED_SENTINEL" Bundle.listD A s' s'.heap := by rw [hhp]; exact vx_Zq.moved hW0.alike (hN.kept hS.2.1)
  have h : ∀ w ∈ Bundle.ownAtoms0 own ic cls names, w.before args s' = true := vx_own hat' (vx_isRefq hU'.1) (vx_isRefq hN'.1) hU'.2.word hN'.2.word
  have hown' : s'.vm.findClass own = some m.cls := by rw [hvm]; exact hown
  have hins : (Cond.instantiable cls 6).before args s' = true := h _ (by simp [Bundle.ownAtoms0])
  obtain ⟨vm₁, cX, kX, hfX, hkX, -, -, X₁, st1⟩ := Y.newCold hexec (own := own) (C := cls) (index := ik) (n := 6) hown' hk' hins hini'
    (g := F0 m pc ls rest) rfl (by rw [hb]; exact d0) (Nat.le_refl _) (Nat.le_refl _)
  generalize hT1 : (T.setVm vm₁).pushCell { cls := cX, slots := kX.instanceTypes.map defaultValue, vm := .none } = T1 at X₁ st1
  have hcat : (Value.ref T.heap.size).category = 1 := rfl
  have hcellA : T1.heap[T.heap.size]? = some (freshCell cX kX) := by rw [← hT1]; exact State.heap_pushCell_size _ _
  have d3' : decode c.code (pc + 3) = .ok (.dup, 1) := by rw [hb]; exact d3
  obtain ⟨U, hsteps, hrun, hend, hW, hsame, ce, hce, hO⟩ := X₁.ctorThrow0 hexec htr (own := own) (cls := cls) (names := names) (ic := ic) hown' hcls hnames h (fun x hx => nomatch hx) hfX hkX hcellA (by rw [hhp, hT]; exact Nat.le_refl _)
    (g := { method := m, pc := pc + 4, locals := ls, stack := .ref T.heap.size :: .ref T.heap.size :: rest, locked := none }) rfl hsize rfl rfl (rest := rest) rfl
    (by rw [hb]; exact d4) (by rw [hb]; exact d7) hout hRframes (by simp only [List.map_cons, List.sum_cons, hcat]; omega) hlocks
  obtain ⟨f1, f2⟩ := vx_frame hsame
  rw [hhp] at f1 f2
  have hWs : s.WarmedH U.vm := State.WarmedH.trans hW0 hW
  have hcl : s.vm.findClass cls = some ce.cls := by
    have h9 := hO.cls
    rw [hvm] at h9
    exact h9
  have hall : s.sameButNew ({ U with vm := s.vm } : State) locs mc ms := by
    subst hA
    obtain ⟨e1, e2⟩ := hsame
    rw [State.setFrames_setFrames] at e1
    have h2 : (T.setVm s.vm).sameButNew ({ U with vm := s.vm } : State) [] (0 + 1) (0 + 6) := ⟨e1, e2⟩
    have h3 := X.same.trans h2
    rw [List.append_nil] at h3
    exact h3.mono hc hs
  refine ⟨U, ?_, .threw T.heap.size, hrun, hend, Or.inr ⟨T.heap.size, rfl, cls, ce, locs, hx U hWs.alike f1 (fun q hq => f2 q hq (fun z hz => nomatch hz)), hce, hO.vm, hcl, hWs, hall, hf⟩⟩
  refine st1 _ ?_
  show Steps p.tables e below (T1.setTop { method := m, pc := pc + 3, locals := ls, stack := .ref T.heap.size :: rest, locked := none }) _
  jvm_step X₁.here [X₁.here.top, hexec, d3', Value.category]
  exact hsteps
/-- 'throw new E("text")': new; dup; ldc; invokespecial; athrow -/
theorem vx_throwS {cc : ByteArray} {pc : Nat} (hexec : p.tables.exec = Jvm.exec) (hb : c.code = cc) (hl : l.stackTraces = false) {own cls text : String} {names : List String} {ik is ic mc ms sa : Nat} {A : Nat → Prop}
    (hown : s.vm.findClass own = some m.cls) (hcls : Bundle.fit cls = true) (hnames : ∀ n ∈ names, Bundle.fit n = true)
    (hk : (Cond.classLink own ik cls).before args s = true) (hini : (Cond.initialized cls).before args s = true) (hstr : vk_R own is text sa s) (hat : ∀ w ∈ vx_atS own ic cls names, w.before args s = true)
    (hgood : ∀ w ∈ Cond.classLink own ik cls :: Cond.initialized cls :: vx_atS own ic cls names, vx_ot w = true)
    (hU : vx_Zq Bundle.tN "UNASSIGNED_STACK" Bundle.steD A s s.heap) (hN : vx_Zq Bundle.tN "SUPPRESSED_SENTINEL" Bundle.listD A s s.heap) (hS : va_S A s.heap H locs) (hsize : ls.size = c.maxLocals)
    (d0 : decode cc pc = .ok (.new ik, 3)) (d3 : decode cc (pc + 3) = .ok (.dup, 1)) (d4 : decode cc (pc + 4) = .ok (.ldc is, 2)) (d6 : decode cc (pc + 6) = .ok (.invokespecial ic, 3)) (d9 : decode cc (pc + 9) = .ok (.athrow, 1))
    (hout : ∀ x ∈ c.exceptionTable.toList, covers x (pc + 9) = false)
    (hRframes : names.length + 3 < R.frames) (hRlocals : (rest.map fun v => v.category).sum + (13 * (names.length + 1) + 43) ≤ R.locals) (hRcells : cells + 1 ≤ R.cells) (hRslots : slots + 6 ≤ R.slots) (hlocks : meth.locks = false)
    (hx : ∀ t : State, s.vm.Alike t.vm → H.size ≤ t.heap.size → (∀ q : Nat, q < H.size → t.heap[q]? = H[q]?) → XC cls s t)
    (hf : ∀ z ∈ locs, free z.base) (hc : cells + 1 ≤ mc) (hs : slots + 6 ≤ ms) :
    W p l e R s m args below meth c H locs cells slots (vx_MQ below Qc XC args s mc ms free) (F0 m pc ls rest) := by
  intro T hT X
  have htr : e.platform.stackTraces = false := (show e.platform.stackTraces = l.stackTraces by rw [X.admits.platform]).trans hl
  have Y := vx_rebase X (R' := { frames := R.frames, locals := R.locals, cells := 1, slots := 6 }) (Nat.le_refl _) (Nat.le_refl _) hRcells hRslots
  obtain ⟨s', hA⟩ : ∃ z, z = (T.setVm s.vm).setFrames (.invoking m args :: below) := ⟨_, rfl⟩
  rw [← hA] at Y
  have hvm : s'.vm = s.vm := by rw [hA]; rfl
  have hhp : s'.heap = H := by rw [hA]; exact hT
  have hW0 : s.WarmedH s'.vm := by rw [hvm]; exact State.WarmedH.refl s
  have hat' : ∀ w ∈ vx_atS own ic cls names, w.before args s' = true := fun w hw => vx_ot_at hW0 hvm.symm (hgood w (List.mem_cons_of_mem _ (List.mem_cons_of_mem _ hw))) (hat w hw)
  have hk' : (Cond.classLink own ik cls).before args s' = true := vx_ot_at hW0 hvm.symm (hgood _ List.mem_cons_self) hk
  have hini' : (Cond.initialized cls).before args s' = true := vx_ot_at hW0 hvm.symm (hgood _ (List.mem_cons_of_mem _ List.mem_cons_self)) hini
  have hU' : vx_Zq Bundle.tN "UNASSIGNED_STACK" Bundle.steD A s' s'.heap := by rw [hhp]; exact vx_Zq.moved hW0.alike (hU.kept hS.2.1)
  have hN' : vx_Zq Bundle.tN "SUPPRESSED_SENTINEL" Bundle.listD A s' s'.heap := by rw [hhp]; exact vx_Zq.moved hW0.alike (hN.kept hS.2.1)
  have h : ∀ w ∈ Bundle.ownAtoms own ic cls names, w.before args s' = true := vx_own hat' (vx_isRefq hU'.1) (vx_isRefq hN'.1) hU'.2.word hN'.2.word
  have hown' : s'.vm.findClass own = some m.cls := by rw [hvm]; exact hown
  have hins : (Cond.instantiable cls 6).before args s' = true := h _ (by simp [Bundle.ownAtoms])
  obtain ⟨vm₁, cX, kX, hfX, hkX, -, -, X₁, st1⟩ := Y.newCold hexec (own := own) (C := cls) (index := ik) (n := 6) hown' hk' hins hini'
    (g := F0 m pc ls rest) rfl (by rw [hb]; exact d0) (Nat.le_refl _) (Nat.le_refl _)
  generalize hT1 : (T.setVm vm₁).pushCell { cls := cX, slots := kX.instanceTypes.map defaultValue, vm := .none } = T1 at X₁ st1
  have hcat : (Value.ref T.heap.size).category = 1 := rfl
  have hcellA : T1.heap[T.heap.size]? = some (freshCell cX kX) := by rw [← hT1]; exact State.heap_pushCell_size _ _
  have d3' : decode c.code (pc + 3) = .ok (.dup, 1) := by rw [hb]; exact d3
  have d4' : decode c.code (pc + 4) = .ok (.ldc is, 2) := by rw [hb]; exact d4
  have hstr' : vk_R own is text sa s' := vk_R.warm hW0 hstr
  obtain ⟨U, hsteps, hrun, hend, hW, hsame, ce, hce, hO⟩ := X₁.ctorThrowS hexec htr (own := own) (cls := cls) (names := names) (ic := ic) hown' hcls hnames h (fun x hx => nomatch hx) hfX hkX hcellA (by rw [hhp, hT]; exact Nat.le_refl _) (msg := .ref sa) rfl
    (g := { method := m, pc := pc + 6, locals := ls, stack := .ref sa :: .ref T.heap.size :: .ref T.heap.size :: rest, locked := none }) rfl hsize rfl rfl (rest := rest) rfl
    (by rw [hb]; exact d6) (by rw [hb]; exact d9) hout hRframes (by simp only [List.map_cons, List.sum_cons, hcat]; omega) hlocks
  obtain ⟨f1, f2⟩ := vx_frame hsame
  rw [hhp] at f1 f2
  have hWs : s.WarmedH U.vm := State.WarmedH.trans hW0 hW
  have hcl : s.vm.findClass cls = some ce.cls := by
    have h9 := hO.cls
    rw [hvm] at h9
    exact h9
  have hall : s.sameButNew ({ U with vm := s.vm } : State) locs mc ms := by
    subst hA
    obtain ⟨e1, e2⟩ := hsame
    rw [State.setFrames_setFrames] at e1
    have h2 : (T.setVm s.vm).sameButNew ({ U with vm := s.vm } : State) [] (0 + 1) (0 + 6) := ⟨e1, e2⟩
    have h3 := X.same.trans h2
    rw [List.append_nil] at h3
    exact h3.mono hc hs
  refine ⟨U, ?_, .threw T.heap.size, hrun, hend, Or.inr ⟨T.heap.size, rfl, cls, ce, locs, hx U hWs.alike f1 (fun q hq => f2 q hq (fun z hz => nomatch hz)), hce, hO.vm, hcl, hWs, hall, hf⟩⟩
  refine st1 _ ?_
  show Steps p.tables e below (T1.setTop { method := m, pc := pc + 3, locals := ls, stack := .ref T.heap.size :: rest, locked := none }) _
  jvm_step X₁.here [X₁.here.top, hexec, d3', Value.category]
  exact X₁.ldcString hexec (own := own) (text := text) (index := is) (a := sa) hown' hstr'.1 hstr'.2
    (g := { method := m, pc := pc + 4, locals := ls, stack := .ref T.heap.size :: .ref T.heap.size :: rest, locked := none }) rfl d4' _ hsteps
/-- 'throw new E("text")', the text by a wide index -/
theorem vx_throwSW {cc : ByteArray} {pc : Nat} (hexec : p.tables.exec = Jvm.exec) (hb : c.code = cc) (hl : l.stackTraces = false) {own cls text : String} {names : List String} {ik is ic mc ms sa : Nat} {A : Nat → Prop}
    (hown : s.vm.findClass own = some m.cls) (hcls : Bundle.fit cls = true) (hnames : ∀ n ∈ names, Bundle.fit n = true)
    (hk : (Cond.classLink own ik cls).before args s = true) (hini : (Cond.initialized cls).before args s = true) (hstr : vk_R own is text sa s) (hat : ∀ w ∈ vx_atS own ic cls names, w.before args s = true)
    (hgood : ∀ w ∈ Cond.classLink own ik cls :: Cond.initialized cls :: vx_atS own ic cls names, vx_ot w = true)
    (hU : vx_Zq Bundle.tN "UNASSIGNED_STACK" Bundle.steD A s s.heap) (hN : vx_Zq Bundle.tN "SUPPRESSED_SENTINEL" Bundle.listD A s s.heap) (hS : va_S A s.heap H locs) (hsize : ls.size = c.maxLocals)
    (d0 : decode cc pc = .ok (.new ik, 3)) (d3 : decode cc (pc + 3) = .ok (.dup, 1)) (d4 : decode cc (pc + 4) = .ok (.ldc_w is, 3)) (d7 : decode cc (pc + 7) = .ok (.invokespecial ic, 3)) (d10 : decode cc (pc + 10) = .ok (.athrow, 1))
    (hout : ∀ x ∈ c.exceptionTable.toList, covers x (pc + 10) = false)
    (hRframes : names.length + 3 < R.frames) (hRlocals : (rest.map fun v => v.category).sum + (13 * (names.length + 1) + 43) ≤ R.locals) (hRcells : cells + 1 ≤ R.cells) (hRslots : slots + 6 ≤ R.slots) (hlocks : meth.locks = false)
    (hx : ∀ t : State, s.vm.Alike t.vm → H.size ≤ t.heap.size → (∀ q : Nat, q < H.size → t.heap[q]? = H[q]?) → XC cls s t)
    (hf : ∀ z ∈ locs, free z.base) (hc : cells + 1 ≤ mc) (hs : slots + 6 ≤ ms) :
    W p l e R s m args below meth c H locs cells slots (vx_MQ below Qc XC args s mc ms free) (F0 m pc ls rest) := by
  intro T hT X
  have htr : e.platform.stackTraces = false := (show e.platform.stackTraces = l.stackTraces by rw [X.admits.platform]).trans hl
  have Y := vx_rebase X (R' := { frames := R.frames, locals := R.locals, cells := 1, slots := 6 }) (Nat.le_refl _) (Nat.le_refl _) hRcells hRslots
  obtain ⟨s', hA⟩ : ∃ z, z = (T.setVm s.vm).setFrames (.invoking m args :: below) := ⟨_, rfl⟩
  rw [← hA] at Y
  have hvm : s'.vm = s.vm := by rw [hA]; rfl
  have hhp : s'.heap = H := by rw [hA]; exact hT
  have hW0 : s.WarmedH s'.vm := by rw [hvm]; exact State.WarmedH.refl s
  have hat' : ∀ w ∈ vx_atS own ic cls names, w.before args s' = true := fun w hw => vx_ot_at hW0 hvm.symm (hgood w (List.mem_cons_of_mem _ (List.mem_cons_of_mem _ hw))) (hat w hw)
  have hk' : (Cond.classLink own ik cls).before args s' = true := vx_ot_at hW0 hvm.symm (hgood _ List.mem_cons_self) hk
  have hini' : (Cond.initialized cls).before args s' = true := vx_ot_at hW0 hvm.symm (hgood _ (List.mem_cons_of_mem _ List.mem_cons_self)) hini
  have hU' : vx_Zq Bundle.tN "UNASSIGNED_STACK" Bundle.steD A s' s'.heap := by rw [hhp]; exact vx_Zq.moved hW0.alike (hU.kept hS.2.1)
  have hN' : vx_Zq Bundle.tN "SUPPRESSED_SENTINEL" Bundle.listD A s' s'.heap := by rw [hhp]; exact vx_Zq.moved hW0.alike (hN.kept hS.2.1)
  have h : ∀ w ∈ Bundle.ownAtoms own ic cls names, w.before args s' = true := vx_own hat' (vx_isRefq hU'.1) (vx_isRefq hN'.1) hU'.2.word hN'.2.word
  have hown' : s'.vm.findClass own = some m.cls := by rw [hvm]; exact hown
  have hins : (Cond.instantiable cls 6).before args s' = true := h _ (by simp [Bundle.ownAtoms])
  obtain ⟨vm₁, cX, kX, hfX, hkX, -, -, X₁, st1⟩ := Y.newCold hexec (own := own) (C := cls) (index := ik) (n := 6) hown' hk' hins hini'
    (g := F0 m pc ls rest) rfl (by rw [hb]; exact d0) (Nat.le_refl _) (Nat.le_refl _)
  generalize hT1 : (T.setVm vm₁).pushCell { cls := cX, slots := kX.instanceTypes.map defaultValue, vm := .none } = T1 at X₁ st1
  have hcat : (Value.ref T.heap.size).category = 1 := rfl
  have hcellA : T1.heap[T.heap.size]? = some (freshCell cX kX) := by rw [← hT1]; exact State.heap_pushCell_size _ _
  have d3' : decode c.code (pc + 3) = .ok (.dup, 1) := by rw [hb]; exact d3
  have d4' : decode c.code (pc + 4) = .ok (.ldc_w is, 3) := by rw [hb]; exact d4
  have hstr' : vk_R own is text sa s' := vk_R.warm hW0 hstr
  obtain ⟨U, hsteps, hrun, hend, hW, hsame, ce, hce, hO⟩ := X₁.ctorThrowS hexec htr (own := own) (cls := cls) (names := names) (ic := ic) hown' hcls hnames h (fun x hx => nomatch hx) hfX hkX hcellA (by rw [hhp, hT]; exact Nat.le_refl _) (msg := .ref sa) rfl
    (g := { method := m, pc := pc + 7, locals := ls, stack := .ref sa :: .ref T.heap.size :: .ref T.heap.size :: rest, locked := none }) rfl hsize rfl rfl (rest := rest) rfl
    (by rw [hb]; exact d7) (by rw [hb]; exact d10) hout hRframes (by simp only [List.map_cons, List.sum_cons, hcat]; omega) hlocks
  obtain ⟨f1, f2⟩ := vx_frame hsame
  rw [hhp] at f1 f2
  have hWs : s.WarmedH U.vm := State.WarmedH.trans hW0 hW
  have hcl : s.vm.findClass cls = some ce.cls := by
    have h9 := hO.cls
    rw [hvm] at h9
    exact h9
  have hall : s.sameButNew ({ U with vm := s.vm } : State) locs mc ms := by
    subst hA
    obtain ⟨e1, e2⟩ := hsame
    rw [State.setFrames_setFrames] at e1
    have h2 : (T.setVm s.vm).sameButNew ({ U with vm := s.vm } : State) [] (0 + 1) (0 + 6) := ⟨e1, e2⟩
    have h3 := X.same.trans h2
    rw [List.append_nil] at h3
    exact h3.mono hc hs
  refine ⟨U, ?_, .threw T.heap.size, hrun, hend, Or.inr ⟨T.heap.size, rfl, cls, ce, locs, hx U hWs.alike f1 (fun q hq => f2 q hq (fun z hz => nomatch hz)), hce, hO.vm, hcl, hWs, hall, hf⟩⟩
  refine st1 _ ?_
  show Steps p.tables e below (T1.setTop { method := m, pc := pc + 3, locals := ls, stack := .ref T.heap.size :: rest, locked := none }) _
  jvm_step X₁.here [X₁.here.top, hexec, d3', Value.category]
  exact X₁.ldcStringW hexec (own := own) (text := text) (index := is) (a := sa) hown' hstr'.1 hstr'.2
    (g := { method := m, pc := pc + 4, locals := ls, stack := .ref T.heap.size :: .ref T.heap.size :: rest, locked := none }) rfl d4' _ hsteps
end Ends
section Bodies
variable {l : Launch}
theorem vx_ofW {y : MethodName} {ws ws' : List Cond} {rm : Room} {Pc : Array Value → State → Prop} {Qc : Array Value → State → Outcome → State → Prop} {XC : String → State → State → Prop} {mc ms : Nat} {free : Addr → Prop} {cc : ByteArray} {maxL : Nat} {ret : Option FieldType}
    (hy : plainName y.cls = true) (hw : ws = Cond.code y cc maxL ret :: ws')
    (body : ∀ p e s m args below meth c s₁, BodyLoose p l y (headSpec ws rm) cc maxL ret e s m args below meth c s₁ → c.maxLocals = maxL → (∀ x ∈ c.exceptionTable.toList, False) → Pc args s →
      W p l e (headSpec ws rm).room s m args below meth c s.heap [] 0 0 (vx_MQ below Qc XC args s mc ms free) (entryFrame m args maxL)) : vx_Met l y ws rm Pc Qc XC mc ms free := by
  refine MetFree.of_bodyS (code := cc) (maxLocals := maxL) (ret := ret) hy ?_ ?_
  · intro args s m h hn
    obtain ⟨meth, c, h1, h2, h3, h4, h5, h6, -, -⟩ := Cond.code_spec hn (atoms_spec (ws := ws) h _ (by rw [hw]; exact List.mem_cons_self))
    exact ⟨meth, c, h1, h2, h3, h4, h5, h6⟩
  · intro p e s m args below meth c s₁ B hml hP _
    have hh0 : s₁.heap = s.heap := by rw [B.state]; rfl
    have ht : ∀ x ∈ c.exceptionTable.toList, False := by
      obtain ⟨meth9, c9, h1, h2, -, -, -, -, h7, -⟩ := Cond.code_spec B.named (atoms_spec (ws := ws) B.pre _ (by rw [hw]; exact List.mem_cons_self))
      cases Option.some.inj (h1.symm.trans B.method)
      cases Option.some.inj (h2.symm.trans (Stand.of_body B).code)
      intro x hx
      rw [Array.isEmpty_iff.mp h7] at hx
      cases hx
    obtain ⟨t, a1, o, b1, b2, b3⟩ := body p e s m args below meth c s₁ B hml ht hP s₁ hh0 (Stand.of_body B)
    exact ⟨t, o, a1, b1, b2, b3⟩
/-- the table of a body with handlers -/
theorem vx_table {p : Program} {x y : MethodName} {S : Spec} {cc bytes : ByteArray} {maxL maxL' : Nat} {ret ret' : Option FieldType} {e : Env} {s s₁ : State} {m : MethodId} {args : Array Value} {below : List Frame} {meth : Method} {c : Code} {hh : List (Nat × Nat × Nat × Nat)}
    (B : BodyLoose p l y S cc maxL ret e s m args below meth c s₁) (h : (Cond.codeWith y bytes maxL' ret' hh).before args s = true) : c.exceptionTable.toList = tableOf hh := by
  obtain ⟨m9, meth9, c9, hn9, h1, h2, -, -, h6, -⟩ := Cond.codeWith_spec h
  cases Option.some.inj (hn9.symm.trans B.named)
  cases Option.some.inj (h1.symm.trans B.method)
  cases Option.some.inj (h2.symm.trans (Stand.of_body B).code)
  rw [← h6, table_eq]
end Bodies
end VXA
/-! ===== END ===== -/
/-! ===== BEGIN a static call of a method with an exception table ===== -/
section VXS
variable {p : Program} {l : Launch} {e : Env} {R : Room} {s : State} {m : MethodId} {args : Array Value} {below : List Frame} {meth : Method} {c : Code} {T : State} {H : Heap} {locs : List Loc} {cells slots : Nat}
abbrev vx_CSW (R : Room) (s : State) (args : Array Value) (own : String) (index : Nat) (y : MethodName) (bytes : ByteArray) (maxL : Nat) (ret : Option FieldType) (hh : List (Nat × Nat × Nat × Nat)) (ws : List Cond) (rm : Room) (mc ms n : Nat) : Prop :=
  (rm.cells = mc ∧ rm.slots = ms ∧ rm.frames + 1 ≤ R.frames ∧ 8 + (maxL + 11) + rm.locals ≤ R.locals ∧ (∀ w ∈ ws, ∀ (a' : Array Value) (U : State), s.WarmedH U.vm → w.before a' U = true) ∧ Cond.codeWith y bytes maxL ret hh ∈ ws) ∧
  (Cond.codeWith y bytes maxL ret hh).before args s = true ∧ (Cond.initialized y.cls).before args s = true ∧ (y.cls ≠ "java/lang/invoke/MethodHandle" ∧ y.cls ≠ "java/lang/invoke/VarHandle") ∧
  (∀ sig, parseMethodDescriptor y.desc = some sig → n = sig.parameters.length) ∧ (Cond.methodLink own index y).before args s = true ∧ (Cond.static y).before args s = true
theorem vx_cwSW {own : String} {index maxL mc ms : Nat} {y : MethodName} {bytes : ByteArray} {ret : Option FieldType} {hh : List (Nat × Nat × Nat × Nat)} {Ts ws ws' : List Cond} {rm : Room} (n : Nat) (ht : ∀ w ∈ Ts, w.before args s = true) (hT : GoodIn Ts (va_wsS own index y ws)) (hw : ws = Cond.codeWith y bytes maxL ret hh :: ws') (hrc : rm.cells = mc) (hrs : rm.slots = ms)
    (hd : y.cls ≠ "java/lang/invoke/MethodHandle" ∧ y.cls ≠ "java/lang/invoke/VarHandle" ∧ (parseMethodDescriptor y.desc).map (fun d => d.parameters.length) = some n) (hR : rm.frames + 1 ≤ R.frames ∧ 8 + (maxL + 11) + rm.locals ≤ R.locals) :
    vx_CSW R s args own index y bytes maxL ret hh ws rm mc ms n := by
  have ok : ∀ w ∈ va_wsS own index y ws, w.before args s = true := fun w h => ht w (hT w h).1
  have hG : GoodIn Ts ws := fun w h => hT w (by unfold va_wsS; exact List.mem_append_right _ h)
  have hc : Cond.codeWith y bytes maxL ret hh ∈ ws := by rw [hw]; exact List.mem_cons_self
  refine ⟨⟨hrc, hrs, hR.1, hR.2, pay_in ht hG, hc⟩, ht _ (hG _ hc).1, ok _ (by simp [va_wsS]), ⟨hd.1, hd.2.1⟩, fun sig h => ?_, ok _ (by simp [va_wsS]), ok _ (by simp [va_wsS])⟩
  have h2 := hd.2.2
  rw [h] at h2
  exact (Option.some.inj h2).symm
theorem vx_callSW (X : Stand p l e R s m args below meth c T locs cells slots) (hexec : p.tables.exec = Jvm.exec) {own : String} {index : Nat} {y : MethodName} {bytes : ByteArray} {maxL : Nat} {ret : Option FieldType} {hh : List (Nat × Nat × Nat × Nat)}
    (hown : s.vm.findClass own = some m.cls) (hlink : (Cond.methodLink own index y).before args s = true) (hstat : (Cond.static y).before args s = true) (hinit : (Cond.initialized y.cls).before args s = true)
    (hcode : (Cond.codeWith y bytes maxL ret hh).before args s = true) (hy : y.cls ≠ "java/lang/invoke/MethodHandle" ∧ y.cls ≠ "java/lang/invoke/VarHandle")
    {W9 : Nat} {Pre : Pt → Array Value → Prop} {Post : Pt → Array Value → Option Value → Pt → Prop} (hK : Back l R p e below s args y 3 W9 Pre Post)
    {g : JFrame} (hg : g.method = m) (hsize : g.locals.size = c.maxLocals) {argsL rest : List Value} (hlen : ∀ sig, parseMethodDescriptor y.desc = some sig → argsL.length = sig.parameters.length)
    (hstack : g.stack = argsL.reverse ++ rest) (hW : 2 * g.monitorRoom + (rest.map fun v => v.category).sum ≤ W9) (hdg : decode c.code g.pc = .ok (.invokestatic index, 3))
    (hpre : ∀ vm₁, s.WarmedH vm₁ → Pre ⟨T.setVm vm₁, locs, cells, slots⟩ argsL.toArray) :
    ∃ (v : Option Value) (vm₁ : Vm) (B : Pt), s.WarmedH vm₁ ∧ Stand p l e R s m args below meth c B.U B.locs B.cells B.slots ∧ Post ⟨T.setVm vm₁, locs, cells, slots⟩ argsL.toArray v B ∧
      ∀ target, Steps p.tables e below (B.U.setTop { g with pc := g.pc + 3, stack := v.toList ++ rest }) target → Steps p.tables e below (T.setTop g) target := by
  obtain ⟨mk, methM, cM, hnamed, hmethM, -, -, -, -, -, -, hsigM⟩ := Cond.codeWith_spec hcode
  have hstatic : methM.isStatic = true := Cond.static_spec hnamed hmethM hstat
  obtain ⟨kP, hkP, -⟩ := className_of_methodNamed hnamed
  have hinitP : kP.init = .initialized := Cond.initialized_spec (findClass_of_methodNamed hnamed) hkP hinit
  obtain ⟨vm₁, X₁, hstep₁⟩ := X.invokestatic hexec hown hlink hnamed hmethM hstatic hkP hinitP hy (g := g) hg (argsL := argsL) (rest := rest) (hlen _ hsigM) hstack hdg
  obtain ⟨v, B, X', hpost, hsteps⟩ := hK m meth c ⟨T.setVm vm₁, locs, cells, slots⟩ { g with stack := rest } (.invokestatic index) mk argsL.toArray X₁ hg hsize hdg hW (X₁.named hnamed) (hpre vm₁ X₁.warmed)
  exact ⟨v, vm₁, B, X₁.warmed, X', hpost, fun target h => hstep₁ _ fun acts => by rw [doInvoke_state]; exact hsteps.trans h⟩
theorem vx_runSW {y : MethodName} {bytes cc : ByteArray} {maxL nL mc ms n index : Nat} {ret : Option FieldType} {hh : List (Nat × Nat × Nat × Nat)} {ws : List Cond} {rm : Room} {Pc : Array Value → State → Prop} {Qc : Array Value → State → Outcome → State → Prop} {free : Addr → Prop} {Ts : List Cond} {own : String} {As rest : List Value} {g : JFrame}
    (S : CallFix p m c cc nL s args Ts own) (hM : Met l y ws rm Pc Qc mc ms free) (cw : vx_CSW R s args own index y bytes maxL ret hh ws rm mc ms n) (hp : PreS s H Pc As)
    (hg : g.method = m) (hn : As.length = n) (hsize : g.locals.size = nL) (hstack : g.stack = As.reverse ++ rest) (hW : 2 * g.monitorRoom + (rest.map fun v => v.category).sum ≤ 8) (hdg : decode cc g.pc = .ok (.invokestatic index, 3)) (hf : cells + mc ≤ R.cells ∧ slots + ms ≤ R.slots) :
    va_Run p l e R s m args below meth c H locs cells slots mc ms g rest (Qc As.toArray) (free) := by
  obtain ⟨⟨hrc, hrs, hfr, hlo, hws, hcw⟩, hcode, hini, hy, hlen, hl, hstt⟩ := cw
  have hK : Back l R p e below s args y 3 8 (PreOf R mc ms Pc) (PostOf Qc mc ms free) := va_backW (hh := hh) (bytes := bytes) (maxL := maxL) (ret := ret) hM hp.1 hrc hrs hfr hlo hws hcw (fun a' U hW => word_at hW (Or.inl (by first | rfl | simp [Cond.onTables, Cond.keeps, Cond.steady])) hini)
  obtain ⟨hx, hb, hml, ho, -⟩ := S
  intro T hT X
  obtain ⟨v, vm₁, ⟨U', l2, c2, s2⟩, hW₁, X', ⟨g', mk, t, L, e1, e2, hq, h1, hL, h2, h3⟩, st⟩ := vx_callSW X hx (hh := hh) (bytes := bytes) (maxL := maxL) (ret := ret) ho hl hstt hini hcode hy hK hg (hsize.trans hml.symm) (argsL := As) (rest := rest) (fun sig h => hn.trans (hlen sig h)) hstack hW (by rw [hb]; exact hdg)
    (fun vm₁ hW₁ => ⟨hf.1, hf.2, hp.2 (T.setVm vm₁) hT hW₁⟩)
  dsimp only [Pt.U, Pt.locs, Pt.cells, Pt.slots] at X' e1 e2 h1 h2 h3 st
  subst h1; subst h2; subst h3
  exact ⟨v, (T.setVm vm₁).calling g' mk As.toArray, t, U', L, hT, X', hL, e1, e2, hq, st⟩

























/-- a thing of a world lies in the heap -/
theorem vx_lt {D : va_G} {cl : List vw_C} {ws : va_W} {H1 : Heap} (h : va_P D cl ws H1) {k : Nat} {q : Nat × va_E} (hk : ws[k]? = some q) : q.1 < H1.size := (h k q hk).lt
end VXS
/-! ===== END ===== -/
/-! ===== BEGIN methods with a table of their own: called by a name, returning or throwing ===== -/
section VXH
/-! vx_backW, vx_callVX, vx_callSX, vx_callVW, vx_runVW, vx_runVX, vx_runSX, vx_ofWH follow the same proofs as their sisters above (Free/Laws.lean, Shelf42/LK1.lean); vx_outP calls Shelf42/NT130.lean (outThrough). -/
section
variable {l : Launch} {R : Room} {p : Program} {e : Env} {below : List Frame} {s : State} {sargs : Array Value} {y : MethodName} {len W9 : Nat}
theorem vx_backW {ws : List Cond} {rm : Room} {Pc : Array Value → State → Prop} {Qc : Array Value → State → Outcome → State → Prop} {XC : String → State → State → Prop} {mc ms : Nat} {free : Addr → Prop} {bytes : ByteArray} {maxL : Nat} {ret : Option FieldType} {hh : List (Nat × Nat × Nat × Nat)}
    (hM : vx_Met l y ws rm Pc Qc XC mc ms free) (hblind : FrameBlind Pc) (hrc : rm.cells = mc) (hrs : rm.slots = ms)
    (hframes : rm.frames + 1 ≤ R.frames) (hlocals : W9 + (maxL + 11) + rm.locals ≤ R.locals)
    (hws : ∀ w ∈ ws, ∀ a' U, s.WarmedH U.vm → w.before a' U = true) (hcode : Cond.codeWith y bytes maxL ret hh ∈ ws) (hinit : ∀ a' U, s.WarmedH U.vm → (Cond.initialized y.cls).before a' U = true) :
    vx_Back l R p e below s sargs y len W9 (PreOf R mc ms Pc) (PostOf Qc mc ms free) (vx_Post XC mc ms free) := by
  intro m meth c A g ig mk a X hg hsize hdg hW hn hp
  have h1 : (headSpec ws rm).pre.before a A.U = true := atoms_intro fun w hw => hws w hw _ _ X.warmed
  have h2 : (Cond.codeWith y bytes maxL ret hh).before a A.U = true := hws _ hcode _ _ X.warmed
  have h3 : (Cond.initialized y.cls).before a A.U = true := hinit _ _ X.warmed
  have h4 : A.cells + (headSpec ws rm).room.cells ≤ R.cells := by rw [show (headSpec ws rm).room.cells = mc from hrc]; exact hp.1
  have h5 : A.slots + (headSpec ws rm).room.slots ≤ R.slots := by rw [show (headSpec ws rm).room.slots = ms from hrs]; exact hp.2.1
  have hPc : Pc a (A.U.calling g mk a) := hblind _ _ _ _ hp.2.2
  obtain ⟨U, Ls, c0, s0⟩ := A
  dsimp only [Pt.U, Pt.locs, Pt.cells, Pt.slots] at h1 h2 h3 h4 h5 X hn hPc ⊢
  obtain ⟨m9, methY, cY, hn9, hmY, hcY, -, hlY, -⟩ := Cond.codeWith_spec h2
  cases Option.some.inj (hn9.symm.trans hn)
  obtain ⟨kY, hkY, -⟩ := className_of_methodNamed hn
  have hinitY : kY.init = .initialized := Cond.initialized_spec (findClass_of_methodNamed hn) hkY h3
  have h : At U g.method c below := by rw [hg]; exact X.here
  have hlocals9 : W9 + (maxL + 11) + (headSpec ws rm).room.locals ≤ R.locals := hlocals
  have happ : (headSpec ws rm).appliesLoose y e.platform (U.calling g mk a) = true :=
    Spec.appliesLoose_calling (g := g) h hdg hn hkY hinitY
      (X.room_calling (g := g) (R' := (headSpec ws rm).room) hsize hmY hcY hframes (by rw [hlY]; omega) h4 h5) h1
  obtain ⟨mid, hmid⟩ := h.above
  have hfr : (U.setTop g).frames = (.java g :: mid) ++ below := by rw [State.frames_setTop' g h.top, hmid]; rfl
  obtain ⟨o, s₂, hsteps, -, hend, hq⟩ := Steps.callFree hM p X.admits X.cas X.clock (acts := []) hfr happ hPc trivial
  have hq' : vx_Q Qc XC mc ms free a (U.calling g mk a) o s₂ := hq
  rw [State.frames_setTop' g h.top] at hend
  obtain ⟨g₀, hg0⟩ := Option.isSome_iff_exists.mp h.top
  obtain ⟨r, hr⟩ := State.topJava?_eq_some.mp hg0
  have hr' : (({ U with heap := s₂.heap, slotsUsed := s₂.slotsUsed } : State).setVm s₂.vm).frames = .java g₀ :: r := hr
  rcases hq' with ⟨hqc, L, hfe, hL⟩ | ⟨q, rfl, E, ce, L, hx, hce, hcv, hcl, hW₂, hsm, hL⟩
  · obtain ⟨⟨v, rfl⟩, hW₂, e2, q2, q3, q4, q5, q6⟩ := id hfe
    have e3 : s₂ = ({ (U.calling g mk a).setFrames s₂.frames with heap := s₂.heap, slotsUsed := s₂.slotsUsed } : State).setVm s₂.vm := by
      have : s₂ = ({ s₂ with vm := (U.calling g mk a).vm } : State).setVm s₂.vm := rfl
      rw [e2] at this
      exact this
    obtain ⟨c₂, i₂, len₂, hc₂, hd₂, hf₂⟩ := hend
    have hW' : U.WarmedH s₂.vm := hW₂
    have hcc : c₂ = c := by
      have h1 : s₂.code? g.method = U.code? g.method := by
        rw [State.code?_eq, State.code?_eq, hW'.alike.method?]
      exact Option.some.inj (hc₂.symm.trans (h1.trans h.code))
    subst hcc
    have hlen : len₂ = len := by rw [hdg] at hd₂; cases hd₂; rfl
    subst hlen
    have hs₂ : s₂ = (({ U with heap := s₂.heap, slotsUsed := s₂.slotsUsed } : State).setVm s₂.vm).setTop { g with pc := g.pc + len₂, stack := v.toList ++ g.stack } := by
      refine e3.trans ?_
      rw [hf₂, State.calling_eq h.top, State.setFrames_setFrames, State.setTop_of_frames _ hr', hr]
      rfl
    have hsame : U.sameButNew ({ U with heap := s₂.heap, slotsUsed := s₂.slotsUsed } : State) L mc ms := by
      refine ⟨?_, q2, q3, q4, q5, q6⟩
      obtain ⟨t, ht, -⟩ := State.frames_cons hr
      show ({ U with heap := s₂.heap, slotsUsed := s₂.slotsUsed } : State) = { U.setFrames U.frames with heap := s₂.heap, slotsUsed := s₂.slotsUsed }
      rw [State.setFrames_self ht]
    subst hg
    refine Or.inl ⟨v, ⟨(({ U with heap := s₂.heap, slotsUsed := s₂.slotsUsed } : State).setVm s₂.vm), Ls ++ L, c0 + mc, s0 + ms⟩,
      ⟨X.admits, X.cas, X.clock, X.frames, X.room, X.hears, X.method, X.code, (X.here.setHeapUsed s₂.heap s₂.slotsUsed).setVm hW'.alike, X.tail, State.WarmedH.trans X.warmed hW', X.limits, X.bytes, X.same.trans (hsame.setVm s.vm)⟩,
      ⟨g, mk, s₂, L, rfl, rfl, hqc, rfl, hL, rfl, rfl⟩, ?_⟩
    show Steps p.tables e below _ ((({ U with heap := s₂.heap, slotsUsed := s₂.slotsUsed } : State).setVm s₂.vm).setTop { g with pc := g.pc + len₂, stack := v.toList ++ g.stack })
    rw [← hs₂]
    exact hsteps
  · obtain ⟨e2, q2, q3, q4, q5, q6⟩ := id hsm
    have e3 : s₂ = ({ (U.calling g mk a).setFrames s₂.frames with heap := s₂.heap, slotsUsed := s₂.slotsUsed } : State).setVm s₂.vm := by
      have : s₂ = ({ s₂ with vm := (U.calling g mk a).vm } : State).setVm s₂.vm := rfl
      rw [e2] at this
      exact this
    have hf₂ : s₂.frames = .throwing q :: .java g :: U.frames.tail := hend
    have hW' : U.WarmedH s₂.vm := hW₂
    have hs₂ : s₂ = ((({ U with heap := s₂.heap, slotsUsed := s₂.slotsUsed } : State).setVm s₂.vm).setTop g).pushFrame (.throwing q) := by
      refine e3.trans ?_
      rw [hf₂, State.calling_eq h.top, State.setFrames_setFrames, State.pushFrame, State.frames_setTop _ hr', State.setTop_of_frames _ hr', State.setFrames_setFrames, hr]
      rfl
    have hsame : U.sameButNew ({ U with heap := s₂.heap, slotsUsed := s₂.slotsUsed } : State) L mc ms := by
      refine ⟨?_, q2, q3, q4, q5, q6⟩
      obtain ⟨t, ht, -⟩ := State.frames_cons hr
      show ({ U with heap := s₂.heap, slotsUsed := s₂.slotsUsed } : State) = { U.setFrames U.frames with heap := s₂.heap, slotsUsed := s₂.slotsUsed }
      rw [State.setFrames_self ht]
    subst hg
    refine Or.inr ⟨q, ⟨(({ U with heap := s₂.heap, slotsUsed := s₂.slotsUsed } : State).setVm s₂.vm), Ls ++ L, c0 + mc, s0 + ms⟩,
      ⟨X.admits, X.cas, X.clock, X.frames, X.room, X.hears, X.method, X.code, (X.here.setHeapUsed s₂.heap s₂.slotsUsed).setVm hW'.alike, X.tail, State.WarmedH.trans X.warmed hW', X.limits, X.bytes, X.same.trans (hsame.setVm s.vm)⟩,
      ⟨g, mk, s₂, L, E, ce, rfl, rfl, hx, hce, hcv, hcl, rfl, hL, rfl, rfl⟩, ?_⟩
    show Steps p.tables e below _ (((({ U with heap := s₂.heap, slotsUsed := s₂.slotsUsed } : State).setVm s₂.vm).setTop g).pushFrame (.throwing q))
    rw [← hs₂]
    exact hsteps
end
variable {p : Program} {l : Launch} {e : Env} {R : Room} {s : State} {m : MethodId} {args : Array Value} {below : List Frame} {meth : Method} {c : Code} {T : State} {H : Heap} {locs : List Loc} {cells slots : Nat}
theorem vx_callVX (X : Stand p l e R s m args below meth c T locs cells slots) (hexec : p.tables.exec = Jvm.exec) {own C : String} {index : Nat} {y : MethodName} {bytes : ByteArray} {maxL : Nat} {ret : Option FieldType} {hh : List (Nat × Nat × Nat × Nat)}
    (hown : s.vm.findClass own = some m.cls) (hlink : (Cond.methodLink own index y).before args s = true) (hinst : (Cond.instanceMethod y).before args s = true) (hsel : (Cond.selects C y y).before args s = true)
    (hcode : (Cond.codeWith y bytes maxL ret hh).before args s = true) (hy : y.cls ≠ "java/lang/invoke/MethodHandle" ∧ y.cls ≠ "java/lang/invoke/VarHandle")
    {W9 : Nat} {Pre : Pt → Array Value → Prop} {Post : Pt → Array Value → Option Value → Pt → Prop} {PostX : Pt → Array Value → Addr → Pt → Prop} (hK : vx_Back l R p e below s args y 3 W9 Pre Post PostX)
    {b : Addr} {cellB : Cell} (hcell : T.heap[b]? = some cellB) (hobj : cellB.vm.isStatics = false) (hcls : s.vm.findClass C = some cellB.cls)
    {g : JFrame} (hg : g.method = m) (hsize : g.locals.size = c.maxLocals) {argsL rest : List Value} (hlen : ∀ sig, parseMethodDescriptor y.desc = some sig → argsL.length = sig.parameters.length)
    (hstack : g.stack = argsL.reverse ++ .ref b :: rest) (hW : 2 * g.monitorRoom + (rest.map fun v => v.category).sum ≤ W9) (hdg : decode c.code g.pc = .ok (.invokevirtual index, 3))
    (hpre : ∀ vm₁, s.WarmedH vm₁ → Pre ⟨T.setVm vm₁, locs, cells, slots⟩ (Value.ref b :: argsL).toArray) :
    (∃ (v : Option Value) (vm₁ : Vm) (B : Pt), s.WarmedH vm₁ ∧ Stand p l e R s m args below meth c B.U B.locs B.cells B.slots ∧ Post ⟨T.setVm vm₁, locs, cells, slots⟩ (Value.ref b :: argsL).toArray v B ∧
      ∀ target, Steps p.tables e below (B.U.setTop { g with pc := g.pc + 3, stack := v.toList ++ rest }) target → Steps p.tables e below (T.setTop g) target) ∨
    (∃ (q : Addr) (vm₁ : Vm) (B : Pt), s.WarmedH vm₁ ∧ Stand p l e R s m args below meth c B.U B.locs B.cells B.slots ∧ PostX ⟨T.setVm vm₁, locs, cells, slots⟩ (Value.ref b :: argsL).toArray q B ∧
      Steps p.tables e below (T.setTop g) ((B.U.setTop { g with stack := rest }).pushFrame (.throwing q))) := by
  obtain ⟨mk, methM, hnamed, hmethM, hstM, habM⟩ := Cond.instanceMethod_spec hinst
  obtain ⟨m8, methM', cM, hn8, hmethM', -, -, -, -, -, -, hsigM⟩ := Cond.codeWith_spec hcode
  cases Option.some.inj (hn8.symm.trans hnamed)
  cases hmethM.symm.trans hmethM'
  obtain ⟨c2, r2, m2, q1, q2, q3, q4, kP, hkP, hkPi⟩ := Cond.selects_spec hsel
  cases hcls.symm.trans q1
  cases (State.methodFound?_of_named hnamed hy).symm.trans q2
  cases hnamed.symm.trans q3
  have hselP : selectMethod e.platform s.vm cellB.cls mk = .method mk := by rw [Launch.admits_selectMethod X.admits]; exact q4
  obtain ⟨vm₁, X₁, hstep₁⟩ := X.invokevirtual hexec hown hlink hnamed hmethM hstM hkP hkPi hy (a := b) (cell := cellB) hcell
    (fun z h => by rw [h] at hobj; cases hobj) hselP hmethM habM hkP hkPi (g := g) hg (argsL := argsL) (rest := rest) (hlen _ hsigM) hstack hdg
  rcases hK m meth c ⟨T.setVm vm₁, locs, cells, slots⟩ { g with stack := rest } (.invokevirtual index) mk (Value.ref b :: argsL).toArray X₁ hg hsize hdg hW (X₁.named hnamed) (hpre vm₁ X₁.warmed) with ⟨v, B, X', hpost, hsteps⟩ | ⟨q, B, X', hpost, hsteps⟩
  · exact Or.inl ⟨v, vm₁, B, X₁.warmed, X', hpost, fun target h => hstep₁ _ fun acts => by rw [doInvoke_state]; exact hsteps.trans h⟩
  · exact Or.inr ⟨q, vm₁, B, X₁.warmed, X', hpost, hstep₁ _ fun acts => by rw [doInvoke_state]; exact hsteps⟩
theorem vx_callSX (X : Stand p l e R s m args below meth c T locs cells slots) (hexec : p.tables.exec = Jvm.exec) {own : String} {index : Nat} {y : MethodName} {bytes : ByteArray} {maxL : Nat} {ret : Option FieldType} {hh : List (Nat × Nat × Nat × Nat)}
    (hown : s.vm.findClass own = some m.cls) (hlink : (Cond.methodLink own index y).before args s = true) (hstat : (Cond.static y).before args s = true) (hinit : (Cond.initialized y.cls).before args s = true)
    (hcode : (Cond.codeWith y bytes maxL ret hh).before args s = true) (hy : y.cls ≠ "java/lang/invoke/MethodHandle" ∧ y.cls ≠ "java/lang/invoke/VarHandle")
    {W9 : Nat} {Pre : Pt → Array Value → Prop} {Post : Pt → Array Value → Option Value → Pt → Prop} {PostX : Pt → Array Value → Addr → Pt → Prop} (hK : vx_Back l R p e below s args y 3 W9 Pre Post PostX)
    {g : JFrame} (hg : g.method = m) (hsize : g.locals.size = c.maxLocals) {argsL rest : List Value} (hlen : ∀ sig, parseMethodDescriptor y.desc = some sig → argsL.length = sig.parameters.length)
    (hstack : g.stack = argsL.reverse ++ rest) (hW : 2 * g.monitorRoom + (rest.map fun v => v.category).sum ≤ W9) (hdg : decode c.code g.pc = .ok (.invokestatic index, 3))
    (hpre : ∀ vm₁, s.WarmedH vm₁ → Pre ⟨T.setVm vm₁, locs, cells, slots⟩ argsL.toArray) :
    (∃ (v : Option Value) (vm₁ : Vm) (B : Pt), s.WarmedH vm₁ ∧ Stand p l e R s m args below meth c B.U B.locs B.cells B.slots ∧ Post ⟨T.setVm vm₁, locs, cells, slots⟩ argsL.toArray v B ∧
      ∀ target, Steps p.tables e below (B.U.setTop { g with pc := g.pc + 3, stack := v.toList ++ rest }) target → Steps p.tables e below (T.setTop g) target) ∨
    (∃ (q : Addr) (vm₁ : Vm) (B : Pt), s.WarmedH vm₁ ∧ Stand p l e R s m args below meth c B.U B.locs B.cells B.slots ∧ PostX ⟨T.setVm vm₁, locs, cells, slots⟩ argsL.toArray q B ∧
      Steps p.tables e below (T.setTop g) ((B.U.setTop { g with stack := rest }).pushFrame (.throwing q))) := by
  obtain ⟨mk, methM, cM, hnamed, hmethM, -, -, -, -, -, -, hsigM⟩ := Cond.codeWith_spec hcode
  have hstatic : methM.isStatic = true := Cond.static_spec hnamed hmethM hstat
  obtain ⟨kP, hkP, -⟩ := className_of_methodNamed hnamed
  have hinitP : kP.init = .initialized := Cond.initialized_spec (findClass_of_methodNamed hnamed) hkP hinit
  obtain ⟨vm₁, X₁, hstep₁⟩ := X.invokestatic hexec hown hlink hnamed hmethM hstatic hkP hinitP hy (g := g) hg (argsL := argsL) (rest := rest) (hlen _ hsigM) hstack hdg
  rcases hK m meth c ⟨T.setVm vm₁, locs, cells, slots⟩ { g with stack := rest } (.invokestatic index) mk argsL.toArray X₁ hg hsize hdg hW (X₁.named hnamed) (hpre vm₁ X₁.warmed) with ⟨v, B, X', hpost, hsteps⟩ | ⟨q, B, X', hpost, hsteps⟩
  · exact Or.inl ⟨v, vm₁, B, X₁.warmed, X', hpost, fun target h => hstep₁ _ fun acts => by rw [doInvoke_state]; exact hsteps.trans h⟩
  · exact Or.inr ⟨q, vm₁, B, X₁.warmed, X', hpost, hstep₁ _ fun acts => by rw [doInvoke_state]; exact hsteps⟩
theorem vx_callVW (X : Stand p l e R s m args below meth c T locs cells slots) (hexec : p.tables.exec = Jvm.exec) {own C : String} {index : Nat} {y : MethodName} {bytes : ByteArray} {maxL : Nat} {ret : Option FieldType} {hh : List (Nat × Nat × Nat × Nat)}
    (hown : s.vm.findClass own = some m.cls) (hlink : (Cond.methodLink own index y).before args s = true) (hinst : (Cond.instanceMethod y).before args s = true) (hsel : (Cond.selects C y y).before args s = true)
    (hcode : (Cond.codeWith y bytes maxL ret hh).before args s = true) (hy : y.cls ≠ "java/lang/invoke/MethodHandle" ∧ y.cls ≠ "java/lang/invoke/VarHandle")
    {W9 : Nat} {Pre : Pt → Array Value → Prop} {Post : Pt → Array Value → Option Value → Pt → Prop} (hK : Back l R p e below s args y 3 W9 Pre Post)
    {b : Addr} {cellB : Cell} (hcell : T.heap[b]? = some cellB) (hobj : cellB.vm.isStatics = false) (hcls : s.vm.findClass C = some cellB.cls)
    {g : JFrame} (hg : g.method = m) (hsize : g.locals.size = c.maxLocals) {argsL rest : List Value} (hlen : ∀ sig, parseMethodDescriptor y.desc = some sig → argsL.length = sig.parameters.length)
    (hstack : g.stack = argsL.reverse ++ .ref b :: rest) (hW : 2 * g.monitorRoom + (rest.map fun v => v.category).sum ≤ W9) (hdg : decode c.code g.pc = .ok (.invokevirtual index, 3))
    (hpre : ∀ vm₁, s.WarmedH vm₁ → Pre ⟨T.setVm vm₁, locs, cells, slots⟩ (Value.ref b :: argsL).toArray) :
    ∃ (v : Option Value) (vm₁ : Vm) (B : Pt), s.WarmedH vm₁ ∧ Stand p l e R s m args below meth c B.U B.locs B.cells B.slots ∧ Post ⟨T.setVm vm₁, locs, cells, slots⟩ (Value.ref b :: argsL).toArray v B ∧
      ∀ target, Steps p.tables e below (B.U.setTop { g with pc := g.pc + 3, stack := v.toList ++ rest }) target → Steps p.tables e below (T.setTop g) target := by
  obtain ⟨mk, methM, hnamed, hmethM, hstM, habM⟩ := Cond.instanceMethod_spec hinst
  obtain ⟨m8, methM', cM, hn8, hmethM', -, -, -, -, -, -, hsigM⟩ := Cond.codeWith_spec hcode
  cases Option.some.inj (hn8.symm.trans hnamed)
  cases hmethM.symm.trans hmethM'
  obtain ⟨c2, r2, m2, q1, q2, q3, q4, kP, hkP, hkPi⟩ := Cond.selects_spec hsel
  cases hcls.symm.trans q1
  cases (State.methodFound?_of_named hnamed hy).symm.trans q2
  cases hnamed.symm.trans q3
  have hselP : selectMethod e.platform s.vm cellB.cls mk = .method mk := by rw [Launch.admits_selectMethod X.admits]; exact q4
  obtain ⟨vm₁, X₁, hstep₁⟩ := X.invokevirtual hexec hown hlink hnamed hmethM hstM hkP hkPi hy (a := b) (cell := cellB) hcell
    (fun z h => by rw [h] at hobj; cases hobj) hselP hmethM habM hkP hkPi (g := g) hg (argsL := argsL) (rest := rest) (hlen _ hsigM) hstack hdg
  obtain ⟨v, B, X', hpost, hsteps⟩ := hK m meth c ⟨T.setVm vm₁, locs, cells, slots⟩ { g with stack := rest } (.invokevirtual index) mk (Value.ref b :: argsL).toArray X₁ hg hsize hdg hW (X₁.named hnamed) (hpre vm₁ X₁.warmed)
  exact ⟨v, vm₁, B, X₁.warmed, X', hpost, fun target h => hstep₁ _ fun acts => by rw [doInvoke_state]; exact hsteps.trans h⟩
abbrev vx_CVW (R : Room) (s : State) (args : Array Value) (own C : String) (index : Nat) (y : MethodName) (bytes : ByteArray) (maxL : Nat) (ret : Option FieldType) (hh : List (Nat × Nat × Nat × Nat)) (ws : List Cond) (rm : Room) (mc ms n : Nat) : Prop :=
  (rm.cells = mc ∧ rm.slots = ms ∧ rm.frames + 1 ≤ R.frames ∧ 8 + (maxL + 11) + rm.locals ≤ R.locals ∧ (∀ w ∈ ws, ∀ (a' : Array Value) (U : State), s.WarmedH U.vm → w.before a' U = true) ∧ Cond.codeWith y bytes maxL ret hh ∈ ws) ∧
  (Cond.codeWith y bytes maxL ret hh).before args s = true ∧ (Cond.initialized y.cls).before args s = true ∧ (y.cls ≠ "java/lang/invoke/MethodHandle" ∧ y.cls ≠ "java/lang/invoke/VarHandle") ∧
  (∀ sig, parseMethodDescriptor y.desc = some sig → n = sig.parameters.length) ∧ (Cond.methodLink own index y).before args s = true ∧ (Cond.instanceMethod y).before args s = true ∧ (Cond.selects C y y).before args s = true
theorem vx_cwVW {own C : String} {index maxL mc ms : Nat} {y : MethodName} {bytes : ByteArray} {ret : Option FieldType} {hh : List (Nat × Nat × Nat × Nat)} {Ts ws ws' : List Cond} {rm : Room} (n : Nat) (ht : ∀ w ∈ Ts, w.before args s = true) (hT : GoodIn Ts (wsV own index C y ws)) (hw : ws = Cond.codeWith y bytes maxL ret hh :: ws') (hrc : rm.cells = mc) (hrs : rm.slots = ms)
    (hd : y.cls = C ∧ y.cls ≠ "java/lang/invoke/MethodHandle" ∧ y.cls ≠ "java/lang/invoke/VarHandle" ∧ (parseMethodDescriptor y.desc).map (fun d => d.parameters.length) = some n) (hR : rm.frames + 1 ≤ R.frames ∧ 8 + (maxL + 11) + rm.locals ≤ R.locals) :
    vx_CVW R s args own C index y bytes maxL ret hh ws rm mc ms n := by
  obtain ⟨hC, hd⟩ := hd
  subst hC
  have ok : ∀ w ∈ wsV own index y.cls y ws, w.before args s = true := fun w h => ht w (hT w h).1
  have hG : GoodIn Ts ws := fun w h => hT w (by unfold wsV; exact List.mem_append_right _ h)
  have hc : Cond.codeWith y bytes maxL ret hh ∈ ws := by rw [hw]; exact List.mem_cons_self
  refine ⟨⟨hrc, hrs, hR.1, hR.2, pay_in ht hG, hc⟩, ht _ (hG _ hc).1, ok _ (by simp [wsV]), ⟨hd.1, hd.2.1⟩, fun sig h => ?_, ok _ (by simp [wsV]), ok _ (by simp [wsV]), ok _ (by simp [wsV])⟩
  have h2 := hd.2.2
  rw [h] at h2
  exact (Option.some.inj h2).symm
theorem vx_runVW {y : MethodName} {bytes cc : ByteArray} {maxL nL mc ms n index : Nat} {ret : Option FieldType} {hh : List (Nat × Nat × Nat × Nat)} {ws : List Cond} {rm : Room} {Pc : Array Value → State → Prop} {Qc : Array Value → State → Outcome → State → Prop} {free : Addr → Prop} {Ts : List Cond} {own C : String} {b : Addr} {As rest : List Value} {g : JFrame}
    (S : CallFix p m c cc nL s args Ts own) (hM : Met l y ws rm Pc Qc mc ms free) (cw : vx_CVW R s args own C index y bytes maxL ret hh ws rm mc ms n) (hp : PreV s H C b Pc As)
    (hg : g.method = m) (hn : As.length = n) (hsize : g.locals.size = nL) (hstack : g.stack = As.reverse ++ .ref b :: rest) (hW : 2 * g.monitorRoom + (rest.map fun v => v.category).sum ≤ 8) (hdg : decode cc g.pc = .ok (.invokevirtual index, 3)) (hf : cells + mc ≤ R.cells ∧ slots + ms ≤ R.slots) :
    va_Run p l e R s m args below meth c H locs cells slots mc ms g rest (Qc (Value.ref b :: As).toArray) free := by
  obtain ⟨⟨hrc, hrs, hfr, hlo, hws, hcw⟩, hcode, hini, hy, hlen, hl, hin, hse⟩ := cw
  have hK : Back l R p e below s args y 3 8 (PreOf R mc ms Pc) (PostOf Qc mc ms free) := va_backW (hh := hh) (bytes := bytes) (maxL := maxL) (ret := ret) hM hp.1 hrc hrs hfr hlo hws hcw (fun a' U hW => word_at hW (Or.inl (by first | rfl | simp [Cond.onTables, Cond.keeps, Cond.steady])) hini)
  obtain ⟨hx, hb, hml, ho, -⟩ := S
  obtain ⟨-, ⟨cellB, hcB, hoB, hclB⟩, hPc⟩ := hp
  intro T hT X
  obtain ⟨v, vm₁, ⟨U', l2, c2, s2⟩, hW₁, X', ⟨g', mk, t, L, e1, e2, hq, h1, hL, h2, h3⟩, st⟩ := vx_callVW X hx (C := C) (hh := hh) (bytes := bytes) (maxL := maxL) (ret := ret) ho hl hin hse hcode hy hK (by rw [hT]; exact hcB) hoB hclB hg (hsize.trans hml.symm) (argsL := As) (rest := rest) (fun sig h => hn.trans (hlen sig h)) hstack hW (by rw [hb]; exact hdg)
    (fun vm₁ hW₁ => ⟨hf.1, hf.2, hPc (T.setVm vm₁) hT hW₁⟩)
  dsimp only [Pt.U, Pt.locs, Pt.cells, Pt.slots] at X' e1 e2 h1 h2 h3 st
  subst h1; subst h2; subst h3
  exact ⟨v, (T.setVm vm₁).calling g' mk (Value.ref b :: As).toArray, t, U', L, hT, X', hL, e1, e2, hq, st⟩
section
variable {y : MethodName} {bytes cc : ByteArray} {maxL nL mc ms n index : Nat} {ret : Option FieldType} {ws : List Cond} {rm : Room} {Pc : Array Value → State → Prop} {Qc : Array Value → State → Outcome → State → Prop} {XC : String → State → State → Prop} {free : Addr → Prop} {Ts : List Cond} {own C : String} {b : Addr} {As rest : List Value} {g : JFrame}
theorem vx_runVX {hh : List (Nat × Nat × Nat × Nat)} (S : CallFix p m c cc nL s args Ts own) (hM : vx_Met l y ws rm Pc Qc XC mc ms free) (cw : vx_CVW R s args own C index y bytes maxL ret hh ws rm mc ms n) (hp : PreV s H C b Pc As)
    (hg : g.method = m) (hn : As.length = n) (hsize : g.locals.size = nL) (hstack : g.stack = As.reverse ++ .ref b :: rest) (hW : 2 * g.monitorRoom + (rest.map fun v => v.category).sum ≤ 8) (hdg : decode cc g.pc = .ok (.invokevirtual index, 3)) (hf : cells + mc ≤ R.cells ∧ slots + ms ≤ R.slots) :
    vx_Run p l e R s m args below meth c H locs cells slots mc ms g rest (Qc (Value.ref b :: As).toArray) XC free := by
  obtain ⟨⟨hrc, hrs, hfr, hlo, hws, hcw⟩, hcode, hini, hy, hlen, hl, hin, hse⟩ := cw
  have hK : vx_Back l R p e below s args y 3 8 (PreOf R mc ms Pc) (PostOf Qc mc ms free) (vx_Post XC mc ms free) := vx_backW (hh := hh) (bytes := bytes) (maxL := maxL) (ret := ret) hM hp.1 hrc hrs hfr hlo hws hcw (fun a' U hW => word_at hW (Or.inl (by first | rfl | simp [Cond.onTables, Cond.keeps, Cond.steady])) hini)
  obtain ⟨hx, hb, hml, ho, -⟩ := S
  obtain ⟨-, ⟨cellB, hcB, hoB, hclB⟩, hPc⟩ := hp
  intro T hT X
  rcases vx_callVX X hx (C := C) (hh := hh) (bytes := bytes) (maxL := maxL) (ret := ret) ho hl hin hse hcode hy hK (by rw [hT]; exact hcB) hoB hclB hg (hsize.trans hml.symm) (argsL := As) (rest := rest) (fun sig h => hn.trans (hlen sig h)) hstack hW (by rw [hb]; exact hdg)
    (fun vm₁ hW₁ => ⟨hf.1, hf.2, hPc (T.setVm vm₁) hT hW₁⟩) with ⟨v, vm₁, ⟨U', l2, c2, s2⟩, hW₁, X', ⟨g', mk, t, L, e1, e2, hq, h1, hL, h2, h3⟩, st⟩ | ⟨q, vm₁, ⟨U', l2, c2, s2⟩, hW₁, X', ⟨g', mk, t, L, E, ce, e1, e2, hq, hce, hcv, hcl, h1, hL, h2, h3⟩, st⟩
  · dsimp only [Pt.U, Pt.locs, Pt.cells, Pt.slots] at X' e1 e2 h1 h2 h3 st
    subst h1; subst h2; subst h3
    exact Or.inl ⟨v, (T.setVm vm₁).calling g' mk (Value.ref b :: As).toArray, t, U', L, hT, X', hL, e1, e2, hq, st⟩
  · dsimp only [Pt.U, Pt.locs, Pt.cells, Pt.slots] at X' e1 e2 h1 h2 h3 st hcl
    subst h1; subst h2; subst h3
    exact Or.inr ⟨q, (T.setVm vm₁).calling g' mk (Value.ref b :: As).toArray, t, U', L, E, ce, hT, X', hL, e1, e2, hq, hce, hcv, vx_cls hW₁ hcl, st⟩
theorem vx_runSX {hh : List (Nat × Nat × Nat × Nat)} (S : CallFix p m c cc nL s args Ts own) (hM : vx_Met l y ws rm Pc Qc XC mc ms free) (cw : vx_CSW R s args own index y bytes maxL ret hh ws rm mc ms n) (hp : PreS s H Pc As)
    (hg : g.method = m) (hn : As.length = n) (hsize : g.locals.size = nL) (hstack : g.stack = As.reverse ++ rest) (hW : 2 * g.monitorRoom + (rest.map fun v => v.category).sum ≤ 8) (hdg : decode cc g.pc = .ok (.invokestatic index, 3)) (hf : cells + mc ≤ R.cells ∧ slots + ms ≤ R.slots) :
    vx_Run p l e R s m args below meth c H locs cells slots mc ms g rest (Qc As.toArray) XC free := by
  obtain ⟨⟨hrc, hrs, hfr, hlo, hws, hcw⟩, hcode, hini, hy, hlen, hl, hstt⟩ := cw
  have hK : vx_Back l R p e below s args y 3 8 (PreOf R mc ms Pc) (PostOf Qc mc ms free) (vx_Post XC mc ms free) := vx_backW (hh := hh) (bytes := bytes) (maxL := maxL) (ret := ret) hM hp.1 hrc hrs hfr hlo hws hcw (fun a' U hW => word_at hW (Or.inl (by first | rfl | simp [Cond.onTables, Cond.keeps, Cond.steady])) hini)
  obtain ⟨hx, hb, hml, ho, -⟩ := S
  intro T hT X
  rcases vx_callSX X hx (hh := hh) (bytes := bytes) (maxL := maxL) (ret := ret) ho hl hstt hini hcode hy hK hg (hsize.trans hml.symm) (argsL := As) (rest := rest) (fun sig h => hn.trans (hlen sig h)) hstack hW (by rw [hb]; exact hdg)
    (fun vm₁ hW₁ => ⟨hf.1, hf.2, hp.2 (T.setVm vm₁) hT hW₁⟩) with ⟨v, vm₁, ⟨U', l2, c2, s2⟩, hW₁, X', ⟨g', mk, t, L, e1, e2, hq, h1, hL, h2, h3⟩, st⟩ | ⟨q, vm₁, ⟨U', l2, c2, s2⟩, hW₁, X', ⟨g', mk, t, L, E, ce, e1, e2, hq, hce, hcv, hcl, h1, hL, h2, h3⟩, st⟩
  · dsimp only [Pt.U, Pt.locs, Pt.cells, Pt.slots] at X' e1 e2 h1 h2 h3 st
    subst h1; subst h2; subst h3
    exact Or.inl ⟨v, (T.setVm vm₁).calling g' mk As.toArray, t, U', L, hT, X', hL, e1, e2, hq, st⟩
  · dsimp only [Pt.U, Pt.locs, Pt.cells, Pt.slots] at X' e1 e2 h1 h2 h3 st hcl
    subst h1; subst h2; subst h3
    exact Or.inr ⟨q, (T.setVm vm₁).calling g' mk As.toArray, t, U', L, E, ce, hT, X', hL, e1, e2, hq, hce, hcv, vx_cls hW₁ hcl, st⟩
end
end VXH
theorem vx_ofWH {l : Launch} {y : MethodName} {ws ws' : List Cond} {rm : Room} {Pc : Array Value → State → Prop} {Qc : Array Value → State → Outcome → State → Prop} {XC : String → State → State → Prop} {mc ms : Nat} {free : Addr → Prop} {cc : ByteArray} {maxL : Nat} {ret : Option FieldType} {hh : List (Nat × Nat × Nat × Nat)}
    (hy : plainName y.cls = true) (hw : ws = Cond.codeWith y cc maxL ret hh :: ws')
    (body : ∀ p e s m args below meth c s₁, BodyLoose p l y (headSpec ws rm) cc maxL ret e s m args below meth c s₁ → c.maxLocals = maxL → Pc args s →
      W p l e (headSpec ws rm).room s m args below meth c s.heap [] 0 0 (vx_MQ below Qc XC args s mc ms free) (entryFrame m args maxL)) : vx_Met l y ws rm Pc Qc XC mc ms free := by
  refine MetFree.of_bodyS (code := cc) (maxLocals := maxL) (ret := ret) hy ?_ ?_
  · intro args s m h hn
    obtain ⟨m9, meth, c, hn9, h1, h2, h3, h4, -, h5, h6, -⟩ := Cond.codeWith_spec (atoms_spec (ws := ws) h _ (by rw [hw]; exact List.mem_cons_self))
    cases hn.symm.trans hn9
    exact ⟨meth, c, h1, h2, h3, h4, h5, h6⟩
  · intro p e s m args below meth c s₁ B hml hP _
    have hh0 : s₁.heap = s.heap := by rw [B.state]; rfl
    obtain ⟨t, a1, o, b1, b2, b3⟩ := body p e s m args below meth c s₁ B hml hP s₁ hh0 (Stand.of_body B)
    exact ⟨t, o, a1, b1, b2, b3⟩
/-! ===== END ===== -/
end
section
/-! ===== BEGIN printed: names, fields, word lists, decode rows ===== -/
def RX0 : String := "LotRules$Alone"
def TX0 : u_T := fun k => match k with
  | 0 => ("LotRules$Alone", "last", "I", true)
  | 1 => ("LotRules$Alone", "nets", "[I", true)
  | 2 => ("LotRules$Alone", "costs", "[J", true)
  | 3 => ("LotRules$Alone", "untils", "[I", true)
  | _ => ("LotRules$Alone", "amounts", "[I", true)
def tyX0 : Nat → FieldType := fun k => match k with
  | 0 => .int
  | 1 => .array .int
  | 2 => .array .long
  | 3 => .array .int
  | _ => .array .int
abbrev wsX00 : List Cond := u_ws RX0 TX0 5
theorem nmX0 : ∀ a, a < 5 → ∀ b, b < 5 → a ≠ b → (TX0 a).2.1 ≠ (TX0 b).2.1 := by decide +kernel
theorem tyX0_ok : ∀ k, k < 5 → parseFieldDescriptor (TX0 k).2.2.1 = some (tyX0 k) := by decide +kernel
abbrev cX0_init : ByteArray := prog_2_method_1_code
def yX0_init : MethodName := ⟨RX0, "<init>", "(I)V"⟩
abbrev cX0_plan : ByteArray := prog_2_method_2_code
def yX0_plan : MethodName := ⟨RX0, "plan", "(LLotRules$Item;)V"⟩
abbrev cX0_findNets : ByteArray := prog_2_method_3_code
def yX0_findNets : MethodName := ⟨RX0, "findNets", "([II)V"⟩
abbrev cX0_choose : ByteArray := prog_2_method_4_code
def yX0_choose : MethodName := ⟨RX0, "choose", "(IIII)V"⟩
abbrev cX0_followChoices : ByteArray := prog_2_method_5_code
def yX0_followChoices : MethodName := ⟨RX0, "followChoices", "()V"⟩
abbrev cX0_sumOfNets : ByteArray := prog_2_method_6_code
def yX0_sumOfNets : MethodName := ⟨RX0, "sumOfNets", "(II)I"⟩
def RX1 : String := "LotRules$FaultList"
def TX1 : u_T := fun k => match k with
  | 0 => ("LotRules$FaultList", "size", "I", false)
  | _ => ("LotRules$FaultList", "cells", "[I", true)
def tyX1 : Nat → FieldType := fun k => match k with
  | 0 => .int
  | _ => .array .int
abbrev wsX10 : List Cond := u_ws RX1 TX1 2
theorem nmX1 : ∀ a, a < 2 → ∀ b, b < 2 → a ≠ b → (TX1 a).2.1 ≠ (TX1 b).2.1 := by decide +kernel
theorem tyX1_ok : ∀ k, k < 2 → parseFieldDescriptor (TX1 k).2.2.1 = some (tyX1 k) := by decide +kernel
abbrev cX1_init : ByteArray := prog_3_method_1_code
def yX1_init : MethodName := ⟨RX1, "<init>", "(I)V"⟩
abbrev cX1_put : ByteArray := prog_3_method_2_code
def yX1_put : MethodName := ⟨RX1, "put", "(IIII)V"⟩
abbrev cX1_cell : ByteArray := prog_3_method_3_code
def yX1_cell : MethodName := ⟨RX1, "cell", "(II)I"⟩
def RX2 : String := "LotRules$Item"
def TX2 : u_T := fun k => match k with
  | 0 => ("LotRules$Item", "numbers", "[I", true)
  | 1 => ("LotRules$Item", "needs", "[I", true)
  | 2 => ("LotRules$Item", "lots", "[I", true)
  | 3 => ("LotRules$Item", "timesPartOf", "[I", true)
  | _ => ("LotRules$Item", "store", "LLotRules$Store;", true)
def tyX2 : Nat → FieldType := fun k => match k with
  | 0 => .array .int
  | 1 => .array .int
  | 2 => .array .int
  | 3 => .array .int
  | _ => .object "LotRules$Store"
abbrev wsX20 : List Cond := u_ws RX2 TX2 5
theorem nmX2 : ∀ a, a < 5 → ∀ b, b < 5 → a ≠ b → (TX2 a).2.1 ≠ (TX2 b).2.1 := by decide +kernel
theorem tyX2_ok : ∀ k, k < 5 → parseFieldDescriptor (TX2 k).2.2.1 = some (tyX2 k) := by decide +kernel
abbrev cX2_init : ByteArray := prog_4_method_1_code
def yX2_init : MethodName := ⟨RX2, "<init>", "(I)V"⟩
abbrev cX2_wholes : ByteArray := prog_4_method_2_code
def yX2_wholes : MethodName := ⟨RX2, "wholes", "()I"⟩
abbrev cX2_coming : ByteArray := prog_4_method_3_code
def yX2_coming : MethodName := ⟨RX2, "coming", "(I)I"⟩
def RX3 : String := "LotRules$Machine"
def TX3 : u_T := fun k => match k with
  | 0 => ("LotRules$Machine", "setUps", "[I", true)
  | _ => ("LotRules$Machine", "standing", "[I", true)
def tyX3 : Nat → FieldType := fun k => match k with
  | 0 => .array .int
  | _ => .array .int
abbrev wsX30 : List Cond := u_ws RX3 TX3 2
theorem nmX3 : ∀ a, a < 2 → ∀ b, b < 2 → a ≠ b → (TX3 a).2.1 ≠ (TX3 b).2.1 := by decide +kernel
theorem tyX3_ok : ∀ k, k < 2 → parseFieldDescriptor (TX3 k).2.2.1 = some (tyX3 k) := by decide +kernel
abbrev cX3_init : ByteArray := prog_5_method_1_code
def yX3_init : MethodName := ⟨RX3, "<init>", "(I)V"⟩
abbrev cX3_follow : ByteArray := prog_5_method_2_code
def yX3_follow : MethodName := ⟨RX3, "follow", "([LLotRules$Item;I)V"⟩
abbrev cX3_setsUp : ByteArray := prog_5_method_3_code
def yX3_setsUp : MethodName := ⟨RX3, "setsUp", "(II)Z"⟩
def RX4 : String := "LotRules$Store"
def TX4 : u_T := fun k => match k with
  | 0 => ("LotRules$Store", "stocks", "[I", true)
  | 1 => ("LotRules$Store", "losses", "[I", true)
  | _ => ("LotRules$Store", "left", "[I", true)
def tyX4 : Nat → FieldType := fun k => match k with
  | 0 => .array .int
  | 1 => .array .int
  | _ => .array .int
abbrev wsX40 : List Cond := u_ws RX4 TX4 3
theorem nmX4 : ∀ a, a < 3 → ∀ b, b < 3 → a ≠ b → (TX4 a).2.1 ≠ (TX4 b).2.1 := by decide +kernel
theorem tyX4_ok : ∀ k, k < 3 → parseFieldDescriptor (TX4 k).2.2.1 = some (tyX4 k) := by decide +kernel
abbrev cX4_init : ByteArray := prog_6_method_1_code
def yX4_init : MethodName := ⟨RX4, "<init>", "(I)V"⟩
abbrev cX4_begin : ByteArray := prog_6_method_2_code
def yX4_begin : MethodName := ⟨RX4, "begin", "(I)V"⟩
abbrev cX4_pass : ByteArray := prog_6_method_3_code
def yX4_pass : MethodName := ⟨RX4, "pass", "(IIII)V"⟩
abbrev cX4_owedAt : ByteArray := prog_6_method_4_code
def yX4_owedAt : MethodName := ⟨RX4, "owedAt", "(I)I"⟩
abbrev cX4_take : ByteArray := prog_6_method_5_code
def yX4_take : MethodName := ⟨RX4, "take", "(II)V"⟩
abbrev cX4_spoil : ByteArray := prog_6_method_6_code
def yX4_spoil : MethodName := ⟨RX4, "spoil", "(I)I"⟩
def RX5 : String := "LotRules"
def TX5 : u_T := fun k => match k with
  | 0 => ("LotRules", "last", "I", true)
  | 1 => ("LotRules", "items", "[LLotRules$Item;", true)
  | 2 => ("LotRules", "itemCount", "I", false)
  | 3 => ("LotRules", "capacities", "[I", true)
  | 4 => ("LotRules", "overs", "[I", true)
  | 5 => ("LotRules", "machine", "LLotRules$Machine;", true)
  | 6 => ("LotRules", "found", "LLotRules$FaultList;", true)
  | _ => ("LotRules", "alone", "LLotRules$Alone;", true)
def tyX5 : Nat → FieldType := fun k => match k with
  | 0 => .int
  | 1 => .array (.object "LotRules$Item")
  | 2 => .int
  | 3 => .array .int
  | 4 => .array .int
  | 5 => .object "LotRules$Machine"
  | 6 => .object "LotRules$FaultList"
  | _ => .object "LotRules$Alone"
abbrev wsX50 : List Cond := u_ws RX5 TX5 8
theorem nmX5 : ∀ a, a < 8 → ∀ b, b < 8 → a ≠ b → (TX5 a).2.1 ≠ (TX5 b).2.1 := by decide +kernel
theorem tyX5_ok : ∀ k, k < 8 → parseFieldDescriptor (TX5 k).2.2.1 = some (tyX5 k) := by decide +kernel
abbrev cX5_init : ByteArray := prog_1_method_1_code
def yX5_init : MethodName := ⟨RX5, "<init>", "(I)V"⟩
abbrev cX5_item : ByteArray := prog_1_method_2_code
def yX5_item : MethodName := ⟨RX5, "item", "()I"⟩
abbrev cX5_set : ByteArray := prog_1_method_3_code
def yX5_set : MethodName := ⟨RX5, "set", "(III)I"⟩
abbrev cX5_need : ByteArray := prog_1_method_4_code
def yX5_need : MethodName := ⟨RX5, "need", "(III)I"⟩
abbrev cX5_part : ByteArray := prog_1_method_5_code
def yX5_part : MethodName := ⟨RX5, "part", "(III)I"⟩
abbrev cX5_make : ByteArray := prog_1_method_6_code
def yX5_make : MethodName := ⟨RX5, "make", "(III)I"⟩
abbrev cX5_capacity : ByteArray := prog_1_method_7_code
def yX5_capacity : MethodName := ⟨RX5, "capacity", "(II)I"⟩
abbrev cX5_over : ByteArray := prog_1_method_8_code
def yX5_over : MethodName := ⟨RX5, "over", "(II)I"⟩
abbrev cX5_gross : ByteArray := prog_1_method_9_code
def yX5_gross : MethodName := ⟨RX5, "gross", "(II)I"⟩
abbrev cX5_stock : ByteArray := prog_1_method_10_code
def yX5_stock : MethodName := ⟨RX5, "stock", "(II)J"⟩
abbrev cX5_spoilt : ByteArray := prog_1_method_11_code
def yX5_spoilt : MethodName := ⟨RX5, "spoilt", "(II)I"⟩
abbrev cX5_isSetUp : ByteArray := prog_1_method_12_code
def yX5_isSetUp : MethodName := ⟨RX5, "isSetUp", "(II)I"⟩
abbrev cX5_stands : ByteArray := prog_1_method_13_code
def yX5_stands : MethodName := ⟨RX5, "stands", "(I)I"⟩
abbrev cX5_time : ByteArray := prog_1_method_14_code
def yX5_time : MethodName := ⟨RX5, "time", "(I)J"⟩
abbrev cX5_price : ByteArray := prog_1_method_15_code
def yX5_price : MethodName := ⟨RX5, "price", "(I)J"⟩
abbrev cX5_faults : ByteArray := prog_1_method_16_code
def yX5_faults : MethodName := ⟨RX5, "faults", "()I"⟩
abbrev cX5_fault : ByteArray := prog_1_method_17_code
def yX5_fault : MethodName := ⟨RX5, "fault", "(II)I"⟩
abbrev cX5_best : ByteArray := prog_1_method_18_code
def yX5_best : MethodName := ⟨RX5, "best", "(I)J"⟩
abbrev cX5_lot : ByteArray := prog_1_method_19_code
def yX5_lot : MethodName := ⟨RX5, "lot", "(II)I"⟩
abbrev cX5_from : ByteArray := prog_1_method_20_code
def yX5_from : MethodName := ⟨RX5, "from", "(II)J"⟩
abbrev cX5_share : ByteArray := prog_1_method_21_code
def yX5_share : MethodName := ⟨RX5, "share", "(II)J"⟩
abbrev cX5_isItem : ByteArray := prog_1_method_22_code
def yX5_isItem : MethodName := ⟨RX5, "isItem", "(I)Z"⟩
abbrev cX5_isPeriod : ByteArray := prog_1_method_23_code
def yX5_isPeriod : MethodName := ⟨RX5, "isPeriod", "(I)Z"⟩
abbrev cX5_isPeriodOrBeginning : ByteArray := prog_1_method_24_code
def yX5_isPeriodOrBeginning : MethodName := ⟨RX5, "isPeriodOrBeginning", "(I)Z"⟩
abbrev cX5_isPrice : ByteArray := prog_1_method_25_code
def yX5_isPrice : MethodName := ⟨RX5, "isPrice", "(I)Z"⟩
abbrev cX5_replace : ByteArray := prog_1_method_26_code
def yX5_replace : MethodName := ⟨RX5, "replace", "([IIII)I"⟩
abbrev cX5_goesInto : ByteArray := prog_1_method_27_code
def yX5_goesInto : MethodName := ⟨RX5, "goesInto", "(II)Z"⟩
abbrev cX5_grossOf : ByteArray := prog_1_method_28_code
def yX5_grossOf : MethodName := ⟨RX5, "grossOf", "(II)I"⟩
abbrev cX5_runItem : ByteArray := prog_1_method_29_code
def yX5_runItem : MethodName := ⟨RX5, "runItem", "(I)V"⟩
abbrev cX5_timeOf : ByteArray := prog_1_method_30_code
def yX5_timeOf : MethodName := ⟨RX5, "timeOf", "(I)J"⟩
abbrev cX5_overOf : ByteArray := prog_1_method_31_code
def yX5_overOf : MethodName := ⟨RX5, "overOf", "(I)J"⟩
abbrev cX5_priceOf : ByteArray := prog_1_method_32_code
def yX5_priceOf : MethodName := ⟨RX5, "priceOf", "(I)J"⟩
abbrev cX5_setUpPrices : ByteArray := prog_1_method_33_code
def yX5_setUpPrices : MethodName := ⟨RX5, "setUpPrices", "()J"⟩
abbrev cX5_holdPrices : ByteArray := prog_1_method_34_code
def yX5_holdPrices : MethodName := ⟨RX5, "holdPrices", "()J"⟩
abbrev cX5_overPrices : ByteArray := prog_1_method_35_code
def yX5_overPrices : MethodName := ⟨RX5, "overPrices", "()J"⟩
abbrev cX5_findFaults : ByteArray := prog_1_method_36_code
def yX5_findFaults : MethodName := ⟨RX5, "findFaults", "()V"⟩
abbrev cX5_findOwing : ByteArray := prog_1_method_37_code
def yX5_findOwing : MethodName := ⟨RX5, "findOwing", "(I)V"⟩
abbrev cX5_findBelowLeast : ByteArray := prog_1_method_38_code
def yX5_findBelowLeast : MethodName := ⟨RX5, "findBelowLeast", "(I)V"⟩
abbrev cX5_findAboveMostOver : ByteArray := prog_1_method_39_code
def yX5_findAboveMostOver : MethodName := ⟨RX5, "findAboveMostOver", "(I)V"⟩
def RX6 : String := "LotRulesModel"
def TX6 : u_T := fun k => match k with
  | 0 => ("LotRulesModel", "thrown", "I", false)
  | 1 => ("LotRulesModel", "most", "I", true)
  | 2 => ("LotRulesModel", "items", "I", false)
  | 3 => ("LotRulesModel", "number", "[I", true)
  | 4 => ("LotRulesModel", "needs", "[I", true)
  | 5 => ("LotRulesModel", "lots", "[I", true)
  | 6 => ("LotRulesModel", "times", "[I", true)
  | 7 => ("LotRulesModel", "room", "[I", true)
  | 8 => ("LotRulesModel", "overPrice", "I", false)
  | 9 => ("LotRulesModel", "mostOver", "I", false)
  | 10 => ("LotRulesModel", "reached", "[Z", true)
  | 11 => ("LotRulesModel", "left", "[J", true)
  | 12 => ("LotRulesModel", "owes", "[J", true)
  | 13 => ("LotRulesModel", "gone", "[J", true)
  | 14 => ("LotRulesModel", "there", "[J", true)
  | 15 => ("LotRulesModel", "stood", "[I", true)
  | 16 => ("LotRulesModel", "setUp", "[Z", true)
  | 17 => ("LotRulesModel", "many", "I", false)
  | 18 => ("LotRulesModel", "kind", "[I", true)
  | 19 => ("LotRulesModel", "when", "[I", true)
  | 20 => ("LotRulesModel", "whose", "[I", true)
  | 21 => ("LotRulesModel", "by", "[J", true)
  | 22 => ("LotRulesModel", "owedBy", "[J", true)
  | 23 => ("LotRulesModel", "net", "[I", true)
  | _ => ("LotRulesModel", "least", "[J", true)
def tyX6 : Nat → FieldType := fun k => match k with
  | 0 => .int
  | 1 => .int
  | 2 => .int
  | 3 => .array .int
  | 4 => .array .int
  | 5 => .array .int
  | 6 => .array .int
  | 7 => .array .int
  | 8 => .int
  | 9 => .int
  | 10 => .array .boolean
  | 11 => .array .long
  | 12 => .array .long
  | 13 => .array .long
  | 14 => .array .long
  | 15 => .array .int
  | 16 => .array .boolean
  | 17 => .int
  | 18 => .array .int
  | 19 => .array .int
  | 20 => .array .int
  | 21 => .array .long
  | 22 => .array .long
  | 23 => .array .int
  | _ => .array .long
abbrev wsX60 : List Cond := u_ws RX6 TX6 25
theorem nmX6 : ∀ a, a < 25 → ∀ b, b < 25 → a ≠ b → (TX6 a).2.1 ≠ (TX6 b).2.1 := by decide +kernel
theorem tyX6_ok : ∀ k, k < 25 → parseFieldDescriptor (TX6 k).2.2.1 = some (tyX6 k) := by decide +kernel
abbrev cX6_init : ByteArray := prog_8_method_1_code
def yX6_init : MethodName := ⟨RX6, "<init>", "(I)V"⟩
abbrev cX6_thrown : ByteArray := prog_8_method_2_code
def yX6_thrown : MethodName := ⟨RX6, "thrown", "()I"⟩
abbrev cX6_in : ByteArray := prog_8_method_3_code
def yX6_in : MethodName := ⟨RX6, "in", "(III)Z"⟩
abbrev cX6_isItem : ByteArray := prog_8_method_4_code
def yX6_isItem : MethodName := ⟨RX6, "isItem", "(I)Z"⟩
abbrev cX6_isPeriod : ByteArray := prog_8_method_5_code
def yX6_isPeriod : MethodName := ⟨RX6, "isPeriod", "(I)Z"⟩
abbrev cX6_item : ByteArray := prog_8_method_6_code
def yX6_item : MethodName := ⟨RX6, "item", "()I"⟩
abbrev cX6_bound : ByteArray := prog_8_method_7_code
def yX6_bound : MethodName := ⟨RX6, "bound", "(I)I"⟩
abbrev cX6_set : ByteArray := prog_8_method_8_code
def yX6_set : MethodName := ⟨RX6, "set", "(III)I"⟩
abbrev cX6_need : ByteArray := prog_8_method_9_code
def yX6_need : MethodName := ⟨RX6, "need", "(III)I"⟩
abbrev cX6_isWithin : ByteArray := prog_8_method_10_code
def yX6_isWithin : MethodName := ⟨RX6, "isWithin", "(II)Z"⟩
abbrev cX6_part : ByteArray := prog_8_method_11_code
def yX6_part : MethodName := ⟨RX6, "part", "(III)I"⟩
abbrev cX6_make : ByteArray := prog_8_method_12_code
def yX6_make : MethodName := ⟨RX6, "make", "(III)I"⟩
abbrev cX6_capacity : ByteArray := prog_8_method_13_code
def yX6_capacity : MethodName := ⟨RX6, "capacity", "(II)I"⟩
abbrev cX6_over : ByteArray := prog_8_method_14_code
def yX6_over : MethodName := ⟨RX6, "over", "(II)I"⟩
abbrev cX6_grossOf : ByteArray := prog_8_method_15_code
def yX6_grossOf : MethodName := ⟨RX6, "grossOf", "(II)I"⟩
abbrev cX6_gross : ByteArray := prog_8_method_16_code
def yX6_gross : MethodName := ⟨RX6, "gross", "(II)I"⟩
abbrev cX6_run : ByteArray := prog_8_method_17_code
def yX6_run : MethodName := ⟨RX6, "run", "(I)V"⟩
abbrev cX6_stock : ByteArray := prog_8_method_18_code
def yX6_stock : MethodName := ⟨RX6, "stock", "(II)J"⟩
abbrev cX6_spoilt : ByteArray := prog_8_method_19_code
def yX6_spoilt : MethodName := ⟨RX6, "spoilt", "(II)I"⟩
abbrev cX6_machine : ByteArray := prog_8_method_20_code
def yX6_machine : MethodName := ⟨RX6, "machine", "()V"⟩
abbrev cX6_isSetUp : ByteArray := prog_8_method_21_code
def yX6_isSetUp : MethodName := ⟨RX6, "isSetUp", "(II)I"⟩
abbrev cX6_stands : ByteArray := prog_8_method_22_code
def yX6_stands : MethodName := ⟨RX6, "stands", "(I)I"⟩
abbrev cX6_timeOf : ByteArray := prog_8_method_23_code
def yX6_timeOf : MethodName := ⟨RX6, "timeOf", "(I)J"⟩
abbrev cX6_overOf : ByteArray := prog_8_method_24_code
def yX6_overOf : MethodName := ⟨RX6, "overOf", "(I)J"⟩
abbrev cX6_time : ByteArray := prog_8_method_25_code
def yX6_time : MethodName := ⟨RX6, "time", "(I)J"⟩
abbrev cX6_priceOf : ByteArray := prog_8_method_26_code
def yX6_priceOf : MethodName := ⟨RX6, "priceOf", "(I)J"⟩
abbrev cX6_price : ByteArray := prog_8_method_27_code
def yX6_price : MethodName := ⟨RX6, "price", "(I)J"⟩
abbrev cX6_share : ByteArray := prog_8_method_28_code
def yX6_share : MethodName := ⟨RX6, "share", "(II)J"⟩
abbrev cX6_note : ByteArray := prog_8_method_29_code
def yX6_note : MethodName := ⟨RX6, "note", "(IIIJ)V"⟩
abbrev cX6_find : ByteArray := prog_8_method_30_code
def yX6_find : MethodName := ⟨RX6, "find", "()V"⟩
abbrev cX6_faults : ByteArray := prog_8_method_31_code
def yX6_faults : MethodName := ⟨RX6, "faults", "()I"⟩
abbrev cX6_fault : ByteArray := prog_8_method_32_code
def yX6_fault : MethodName := ⟨RX6, "fault", "(II)I"⟩
abbrev cX6_alone : ByteArray := prog_8_method_33_code
def yX6_alone : MethodName := ⟨RX6, "alone", "(I)V"⟩
abbrev cX6_last : ByteArray := prog_8_method_34_code
def yX6_last : MethodName := ⟨RX6, "last", "(II)I"⟩
abbrev cX6_priceTo : ByteArray := prog_8_method_35_code
def yX6_priceTo : MethodName := ⟨RX6, "priceTo", "(III)J"⟩
abbrev cX6_best : ByteArray := prog_8_method_36_code
def yX6_best : MethodName := ⟨RX6, "best", "(I)J"⟩
abbrev cX6_lot : ByteArray := prog_8_method_37_code
def yX6_lot : MethodName := ⟨RX6, "lot", "(II)I"⟩
abbrev cX6_from : ByteArray := prog_8_method_38_code
def yX6_from : MethodName := ⟨RX6, "from", "(II)J"⟩
def RJ9 : String := "java/lang/Math"
def TJ9 : u_T := fun k => match k with
  | _ => ("", "", "", false)
def tyJ9 : Nat → FieldType := fun k => match k with
  | _ => .int
abbrev wsJ90 : List Cond := u_ws RJ9 TJ9 0
theorem nmJ9 : ∀ a, a < 0 → ∀ b, b < 0 → a ≠ b → (TJ9 a).2.1 ≠ (TJ9 b).2.1 := by decide +kernel
theorem tyJ9_ok : ∀ k, k < 0 → parseFieldDescriptor (TJ9 k).2.2.1 = some (tyJ9 k) := by decide +kernel
abbrev cJ9_max_7cf53 : ByteArray := prog_11_method_65_code
def yJ9_max_7cf53 : MethodName := ⟨RJ9, "max", "(II)I"⟩
abbrev cJ9_max_f86c9 : ByteArray := prog_11_method_66_code
def yJ9_max_f86c9 : MethodName := ⟨RJ9, "max", "(JJ)J"⟩
abbrev cJ9_min_7cf53 : ByteArray := prog_11_method_69_code
def yJ9_min_7cf53 : MethodName := ⟨RJ9, "min", "(II)I"⟩
def RJ0 : String := "java/lang/String"
def TJ0 : u_T := fun k => match k with
  | _ => ("", "", "", false)
def tyJ0 : Nat → FieldType := fun k => match k with
  | _ => .int
abbrev wsJ00 : List Cond := u_ws RJ0 TJ0 0
theorem nmJ0 : ∀ a, a < 0 → ∀ b, b < 0 → a ≠ b → (TJ0 a).2.1 ≠ (TJ0 b).2.1 := by decide +kernel
theorem tyJ0_ok : ∀ k, k < 0 → parseFieldDescriptor (TJ0 k).2.2.1 = some (tyJ0 k) := by decide +kernel
def RL : String := "LotRulesLaw"
abbrev cL_cell : ByteArray := method_2_code
def yL_cell : MethodName := ⟨RL, "cell", "([II)I"⟩
abbrev cL_share : ByteArray := method_3_code
def yL_share : MethodName := ⟨RL, "share", "(LLotRules;II[J)I"⟩
abbrev cL_law : ByteArray := code
def yL_law : MethodName := ⟨RL, "law", "([I)Z"⟩
def wsX0_init : List Cond := .code yX0_init cX0_init 2 none :: ([.methodLink RX0 3 objectInit, .instanceMethod objectInit, .code objectInit ⟨#[0xb1]⟩ 1 none, .fieldLink RX0 9 "LotRules$Alone" "last" "I", .arrayClass .int, .fieldLink RX0 15 "LotRules$Alone" "nets" "[I", .arrayClass .long, .fieldLink RX0 19 "LotRules$Alone" "costs" "[J", .fieldLink RX0 23 "LotRules$Alone" "untils" "[I", .fieldLink RX0 26 "LotRules$Alone" "amounts" "[I"] ++ wsX00)
def wsX0_findNets : List Cond := .code yX0_findNets cX0_findNets 6 none :: ([.fieldLink RX0 9 "LotRules$Alone" "last" "I", .methodLink RX0 48 Lib.Math.min.name, .static Lib.Math.min.name, .initialized "java/lang/Math", .code Lib.Math.min.name Lib.Math.min.code 2 (some .int), .fieldLink RX0 15 "LotRules$Alone" "nets" "[I"] ++ wsX00)
def wsX0_choose : List Cond := .code yX0_choose cX0_choose 15 none :: ([.fieldLink RX0 15 "LotRules$Alone" "nets" "[I", .fieldLink RX0 19 "LotRules$Alone" "costs" "[J", .constantLong RX0 56 (9223372036854775807), .fieldLink RX0 9 "LotRules$Alone" "last" "I", .methodLink RX0 48 Lib.Math.min.name, .static Lib.Math.min.name, .initialized "java/lang/Math", .code Lib.Math.min.name Lib.Math.min.code 2 (some .int), .fieldLink RX0 23 "LotRules$Alone" "untils" "[I"] ++ wsX00)
def wsX0_sumOfNets : List Cond := .code yX0_sumOfNets cX0_sumOfNets 5 (some .int) :: ([.fieldLink RX0 15 "LotRules$Alone" "nets" "[I"] ++ wsX00)
def wsX0_followChoices : List Cond := .code yX0_followChoices cX0_followChoices 3 none :: ([.fieldLink RX0 9 "LotRules$Alone" "last" "I", .fieldLink RX0 26 "LotRules$Alone" "amounts" "[I", .fieldLink RX0 23 "LotRules$Alone" "untils" "[I", .methodLink RX0 61 Lib.Math.max.name, .static Lib.Math.max.name, .initialized "java/lang/Math", .code Lib.Math.max.name Lib.Math.max.code 2 (some .int), .methodLink RX0 58 yX0_sumOfNets, .instanceMethod yX0_sumOfNets, .selects RX0 yX0_sumOfNets yX0_sumOfNets, .initialized RX0, .code yX0_sumOfNets cX0_sumOfNets 5 (some .int), .fieldLink RX0 15 "LotRules$Alone" "nets" "[I"] ++ wsX00)
def wsX0_plan_r1 : List Cond := [Cond.fieldLink RX0 29 "LotRules$Item" "needs" "[I", Cond.fieldLink RX0 34 "LotRules$Item" "numbers" "[I", Cond.fieldLink RX0 9 "LotRules$Alone" "last" "I", Cond.methodLink RX0 37 yX0_findNets, Cond.instanceMethod yX0_findNets, Cond.selects RX0 yX0_findNets yX0_findNets, Cond.initialized RX0, Cond.code yX0_findNets cX0_findNets 6 none, Cond.methodLink RX0 48 Lib.Math.min.name, Cond.static Lib.Math.min.name, Cond.initialized "java/lang/Math", Cond.code Lib.Math.min.name Lib.Math.min.code 2 (some .int), Cond.fieldLink RX0 15 "LotRules$Alone" "nets" "[I", Cond.methodLink RX0 41 yX0_choose, Cond.instanceMethod yX0_choose, Cond.selects RX0 yX0_choose yX0_choose, Cond.code yX0_choose cX0_choose 15 none, Cond.fieldLink RX0 19 "LotRules$Alone" "costs" "[J", Cond.constantLong RX0 56 (9223372036854775807), Cond.fieldLink RX0 23 "LotRules$Alone" "untils" "[I", Cond.methodLink RX0 45 yX0_followChoices, Cond.instanceMethod yX0_followChoices, Cond.selects RX0 yX0_followChoices yX0_followChoices, Cond.code yX0_followChoices cX0_followChoices 3 none]
def wsX0_plan_r2 : List Cond := [Cond.fieldLink RX0 26 "LotRules$Alone" "amounts" "[I", Cond.methodLink RX0 61 Lib.Math.max.name, Cond.static Lib.Math.max.name, Cond.code Lib.Math.max.name Lib.Math.max.code 2 (some .int), Cond.methodLink RX0 58 yX0_sumOfNets, Cond.instanceMethod yX0_sumOfNets, Cond.selects RX0 yX0_sumOfNets yX0_sumOfNets, Cond.code yX0_sumOfNets cX0_sumOfNets 5 (some .int)]
def wsX0_plan : List Cond := .code yX0_plan cX0_plan 3 none :: ((wsX0_plan_r1 ++ wsX0_plan_r2) ++ wsX20 ++ wsX00)
def wsX1_init : List Cond := .code yX1_init cX1_init 2 none :: ([.methodLink RX1 3 objectInit, .instanceMethod objectInit, .code objectInit ⟨#[0xb1]⟩ 1 none, .fieldLink RX1 9 "LotRules$FaultList" "size" "I", .arrayClass .int, .fieldLink RX1 15 "LotRules$FaultList" "cells" "[I"] ++ wsX10)
def wsX1_put : List Cond := .code yX1_put cX1_put 6 none :: ([.fieldLink RX1 9 "LotRules$FaultList" "size" "I", .fieldLink RX1 15 "LotRules$FaultList" "cells" "[I"] ++ wsX10)
def wsX1_cell : List Cond := .code yX1_cell cX1_cell 3 (some .int) :: ([.fieldLink RX1 15 "LotRules$FaultList" "cells" "[I"] ++ wsX10)
def wsX4_init : List Cond := .code yX4_init cX4_init 2 none :: ([.methodLink RX4 1 objectInit, .instanceMethod objectInit, .code objectInit ⟨#[0xb1]⟩ 1 none, .arrayClass .int, .fieldLink RX4 7 "LotRules$Store" "stocks" "[I", .fieldLink RX4 13 "LotRules$Store" "losses" "[I", .fieldLink RX4 16 "LotRules$Store" "left" "[I"] ++ wsX40)
def wsX2_init : List Cond := .code yX2_init cX2_init 2 none :: ([.methodLink RX2 3 objectInit, .instanceMethod objectInit, .code objectInit ⟨#[0xb1]⟩ 1 none, .arrayClass .int, .fieldLink RX2 9 "LotRules$Item" "numbers" "[I", .fieldLink RX2 15 "LotRules$Item" "needs" "[I", .fieldLink RX2 18 "LotRules$Item" "lots" "[I", .fieldLink RX2 21 "LotRules$Item" "timesPartOf" "[I", .classLink RX2 24 RX4, .instantiable RX4 3, .initialized RX4, .fieldLink RX2 29 "LotRules$Item" "store" "LLotRules$Store;", .methodLink RX2 26 yX4_init, .instanceMethod yX4_init, .code yX4_init cX4_init 2 none, .methodLink RX4 1 objectInit, .fieldLink RX4 7 "LotRules$Store" "stocks" "[I", .fieldLink RX4 13 "LotRules$Store" "losses" "[I", .fieldLink RX4 16 "LotRules$Store" "left" "[I"] ++ wsX20 ++ wsX40)
def wsX2_wholes : List Cond := .code yX2_wholes cX2_wholes 3 (some .int) :: ([.fieldLink RX2 21 "LotRules$Item" "timesPartOf" "[I"] ++ wsX20)
def wsX2_coming : List Cond := .code yX2_coming cX2_coming 3 (some .int) :: ([.fieldLink RX2 9 "LotRules$Item" "numbers" "[I", .fieldLink RX2 18 "LotRules$Item" "lots" "[I"] ++ wsX20)
def wsX3_init : List Cond := .code yX3_init cX3_init 2 none :: ([.methodLink RX3 3 objectInit, .instanceMethod objectInit, .code objectInit ⟨#[0xb1]⟩ 1 none, .arrayClass .int, .fieldLink RX3 9 "LotRules$Machine" "setUps" "[I", .fieldLink RX3 15 "LotRules$Machine" "standing" "[I"] ++ wsX30)
def wsX3_follow : List Cond := .code yX3_follow cX3_follow 6 none :: ([.fieldLink RX3 15 "LotRules$Machine" "standing" "[I", .fieldLink RX3 9 "LotRules$Machine" "setUps" "[I", .fieldLink RX3 18 "LotRules$Item" "lots" "[I"] ++ wsX30 ++ wsX20)
def wsX3_setsUp : List Cond := .code yX3_setsUp cX3_setsUp 3 (some .boolean) :: ([.fieldLink RX3 9 "LotRules$Machine" "setUps" "[I"] ++ wsX30)
def wsX4_begin : List Cond := .code yX4_begin cX4_begin 2 none :: ([.fieldLink RX4 7 "LotRules$Store" "stocks" "[I", .fieldLink RX4 16 "LotRules$Store" "left" "[I"] ++ wsX40)
def wsX4_owedAt : List Cond := .code yX4_owedAt cX4_owedAt 2 (some .int) :: ([.fieldLink RX4 7 "LotRules$Store" "stocks" "[I", .methodLink RX4 30 Lib.Math.max.name, .static Lib.Math.max.name, .initialized "java/lang/Math", .code Lib.Math.max.name Lib.Math.max.code 2 (some .int)] ++ wsX40)
def wsX4_take : List Cond := .code yX4_take cX4_take 6 none :: ([.fieldLink RX4 16 "LotRules$Store" "left" "[I", .methodLink RX4 36 Lib.Math.min.name, .static Lib.Math.min.name, .initialized "java/lang/Math", .code Lib.Math.min.name Lib.Math.min.code 2 (some .int)] ++ wsX40)
def wsX4_spoil : List Cond := .code yX4_spoil cX4_spoil 3 (some .int) :: ([.fieldLink RX4 16 "LotRules$Store" "left" "[I"] ++ wsX40)
def wsX4_pass : List Cond := .code yX4_pass cX4_pass 5 none :: ([.fieldLink RX4 16 "LotRules$Store" "left" "[I", .fieldLink RX4 13 "LotRules$Store" "losses" "[I", .fieldLink RX4 7 "LotRules$Store" "stocks" "[I", .methodLink RX4 19 yX4_owedAt, .instanceMethod yX4_owedAt, .selects RX4 yX4_owedAt yX4_owedAt, .initialized RX4, .code yX4_owedAt cX4_owedAt 2 (some .int), .methodLink RX4 30 Lib.Math.max.name, .static Lib.Math.max.name, .initialized "java/lang/Math", .code Lib.Math.max.name Lib.Math.max.code 2 (some .int), .methodLink RX4 23 yX4_take, .instanceMethod yX4_take, .selects RX4 yX4_take yX4_take, .code yX4_take cX4_take 6 none, .methodLink RX4 36 Lib.Math.min.name, .static Lib.Math.min.name, .code Lib.Math.min.name Lib.Math.min.code 2 (some .int), .methodLink RX4 27 yX4_spoil, .instanceMethod yX4_spoil, .selects RX4 yX4_spoil yX4_spoil, .code yX4_spoil cX4_spoil 3 (some .int)] ++ wsX40)
def wsX5_init_r1 : List Cond := [Cond.methodLink RX5 3 objectInit, Cond.instanceMethod objectInit, Cond.code objectInit ⟨#[0xb1]⟩ 1 none, Cond.methodLink RX5 11 Lib.Math.min.name, Cond.static Lib.Math.min.name, Cond.initialized "java/lang/Math", Cond.code Lib.Math.min.name Lib.Math.min.code 2 (some .int), Cond.methodLink RX5 17 Lib.Math.max.name, Cond.static Lib.Math.max.name, Cond.code Lib.Math.max.name Lib.Math.max.code 2 (some .int), Cond.fieldLink RX5 20 "LotRules" "last" "I", Cond.classLink RX5 24 RX2, Cond.fieldLink RX5 26 "LotRules" "items" "[LLotRules$Item;", Cond.instantiable RX2 5, Cond.initialized RX2, Cond.fieldLink RX5 33 "LotRules" "itemCount" "I", Cond.arrayClass .int, Cond.fieldLink RX5 36 "LotRules" "capacities" "[I", Cond.fieldLink RX5 40 "LotRules" "MOST_OF_OVER" "[I", Cond.fieldLink RX5 43 "LotRules" "overs" "[I", Cond.classLink RX5 46 RX3, Cond.instantiable RX3 2, Cond.initialized RX3, Cond.fieldLink RX5 49 "LotRules" "machine" "LLotRules$Machine;"]
def wsX5_init_r2 : List Cond := [Cond.classLink RX5 53 RX1, Cond.instantiable RX1 2, Cond.initialized RX1, Cond.fieldLink RX5 56 "LotRules" "found" "LLotRules$FaultList;", Cond.classLink RX5 60 RX0, Cond.instantiable RX0 5, Cond.initialized RX0, Cond.fieldLink RX5 63 "LotRules" "alone" "LLotRules$Alone;", Cond.methodLink RX5 30 yX2_init, Cond.instanceMethod yX2_init, Cond.code yX2_init cX2_init 2 none, Cond.methodLink RX2 3 objectInit, Cond.fieldLink RX2 9 "LotRules$Item" "numbers" "[I", Cond.fieldLink RX2 15 "LotRules$Item" "needs" "[I", Cond.fieldLink RX2 18 "LotRules$Item" "lots" "[I", Cond.fieldLink RX2 21 "LotRules$Item" "timesPartOf" "[I", Cond.classLink RX2 24 RX4, Cond.instantiable RX4 3, Cond.initialized RX4, Cond.fieldLink RX2 29 "LotRules$Item" "store" "LLotRules$Store;", Cond.methodLink RX2 26 yX4_init, Cond.instanceMethod yX4_init, Cond.code yX4_init cX4_init 2 none, Cond.methodLink RX4 1 objectInit]
def wsX5_init_r3 : List Cond := [Cond.fieldLink RX4 7 "LotRules$Store" "stocks" "[I", Cond.fieldLink RX4 13 "LotRules$Store" "losses" "[I", Cond.fieldLink RX4 16 "LotRules$Store" "left" "[I", Cond.methodLink RX5 48 yX3_init, Cond.instanceMethod yX3_init, Cond.code yX3_init cX3_init 2 none, Cond.methodLink RX3 3 objectInit, Cond.fieldLink RX3 9 "LotRules$Machine" "setUps" "[I", Cond.fieldLink RX3 15 "LotRules$Machine" "standing" "[I", Cond.methodLink RX5 55 yX1_init, Cond.instanceMethod yX1_init, Cond.code yX1_init cX1_init 2 none, Cond.methodLink RX1 3 objectInit, Cond.fieldLink RX1 9 "LotRules$FaultList" "size" "I", Cond.fieldLink RX1 15 "LotRules$FaultList" "cells" "[I", Cond.methodLink RX5 62 yX0_init, Cond.instanceMethod yX0_init, Cond.code yX0_init cX0_init 2 none, Cond.methodLink RX0 3 objectInit, Cond.fieldLink RX0 9 "LotRules$Alone" "last" "I", Cond.fieldLink RX0 15 "LotRules$Alone" "nets" "[I", Cond.arrayClass .long, Cond.fieldLink RX0 19 "LotRules$Alone" "costs" "[J", Cond.fieldLink RX0 23 "LotRules$Alone" "untils" "[I"]
def wsX5_init_r4 : List Cond := [Cond.fieldLink RX0 26 "LotRules$Alone" "amounts" "[I"]
def wsX5_init : List Cond := .code yX5_init cX5_init 3 none :: ((wsX5_init_r1 ++ (wsX5_init_r2 ++ (wsX5_init_r3 ++ wsX5_init_r4))) ++ wsX50 ++ wsX20 ++ wsX30 ++ wsX10 ++ wsX00 ++ wsX40)
def wsX5_item : List Cond := .code yX5_item cX5_item 1 (some .int) :: ([.fieldLink RX5 33 "LotRules" "itemCount" "I"] ++ wsX50)
def wsX5_isItem : List Cond := .code yX5_isItem cX5_isItem 2 (some .boolean) :: ([.fieldLink RX5 33 "LotRules" "itemCount" "I"] ++ wsX50)
def wsX5_replace : List Cond := .code yX5_replace cX5_replace 5 (some .int) :: ([])
def wsX5_set : List Cond := .code yX5_set cX5_set 4 (some .int) :: ([.fieldLink RX5 26 "LotRules" "items" "[LLotRules$Item;", .fieldLink RX5 71 "LotRules$Item" "numbers" "[I", .fieldLink RX5 74 "LotRules" "MOST_OF_NUMBER" "[I", .methodLink RX5 67 yX5_isItem, .instanceMethod yX5_isItem, .selects RX5 yX5_isItem yX5_isItem, .initialized RX5, .code yX5_isItem cX5_isItem 2 (some .boolean), .fieldLink RX5 33 "LotRules" "itemCount" "I", .methodLink RX5 77 yX5_replace, .static yX5_replace, .code yX5_replace cX5_replace 5 (some .int)] ++ wsX50 ++ wsX20)
def wsX5_isPeriod : List Cond := .code yX5_isPeriod cX5_isPeriod 2 (some .boolean) :: ([.fieldLink RX5 20 "LotRules" "last" "I"] ++ wsX50)
def wsX5_need : List Cond := .code yX5_need cX5_need 4 (some .int) :: ([.fieldLink RX5 26 "LotRules" "items" "[LLotRules$Item;", .fieldLink RX5 84 "LotRules$Item" "needs" "[I", .methodLink RX5 67 yX5_isItem, .instanceMethod yX5_isItem, .selects RX5 yX5_isItem yX5_isItem, .initialized RX5, .code yX5_isItem cX5_isItem 2 (some .boolean), .fieldLink RX5 33 "LotRules" "itemCount" "I", .methodLink RX5 81 yX5_isPeriod, .instanceMethod yX5_isPeriod, .selects RX5 yX5_isPeriod yX5_isPeriod, .code yX5_isPeriod cX5_isPeriod 2 (some .boolean), .fieldLink RX5 20 "LotRules" "last" "I", .methodLink RX5 77 yX5_replace, .static yX5_replace, .code yX5_replace cX5_replace 5 (some .int)] ++ wsX50 ++ wsX20)
def wsX5_goesInto : List Cond := .code yX5_goesInto cX5_goesInto 6 (some .boolean) :: ([.fieldLink RX5 33 "LotRules" "itemCount" "I", .fieldLink RX5 26 "LotRules" "items" "[LLotRules$Item;", .methodLink RX5 169 yX2_wholes, .instanceMethod yX2_wholes, .selects RX2 yX2_wholes yX2_wholes, .initialized RX2, .code yX2_wholes cX2_wholes 3 (some .int), .fieldLink RX2 21 "LotRules$Item" "timesPartOf" "[I"] ++ wsX50 ++ wsX20)
def wsX5_part : List Cond := .code yX5_part cX5_part 4 (some .int) :: ([.fieldLink RX5 26 "LotRules" "items" "[LLotRules$Item;", .fieldLink RX5 91 "LotRules$Item" "timesPartOf" "[I", .methodLink RX5 67 yX5_isItem, .instanceMethod yX5_isItem, .selects RX5 yX5_isItem yX5_isItem, .initialized RX5, .code yX5_isItem cX5_isItem 2 (some .boolean), .fieldLink RX5 33 "LotRules" "itemCount" "I", .methodLink RX5 87 yX5_goesInto, .instanceMethod yX5_goesInto, .selects RX5 yX5_goesInto yX5_goesInto, .code yX5_goesInto cX5_goesInto 6 (some .boolean), .methodLink RX5 169 yX2_wholes, .instanceMethod yX2_wholes, .selects RX2 yX2_wholes yX2_wholes, .initialized RX2, .code yX2_wholes cX2_wholes 3 (some .int), .fieldLink RX2 21 "LotRules$Item" "timesPartOf" "[I", .methodLink RX5 77 yX5_replace, .static yX5_replace, .code yX5_replace cX5_replace 5 (some .int)] ++ wsX50 ++ wsX20)
def wsX5_make : List Cond := .code yX5_make cX5_make 4 (some .int) :: ([.fieldLink RX5 26 "LotRules" "items" "[LLotRules$Item;", .fieldLink RX5 94 "LotRules$Item" "lots" "[I", .methodLink RX5 67 yX5_isItem, .instanceMethod yX5_isItem, .selects RX5 yX5_isItem yX5_isItem, .initialized RX5, .code yX5_isItem cX5_isItem 2 (some .boolean), .fieldLink RX5 33 "LotRules" "itemCount" "I", .methodLink RX5 81 yX5_isPeriod, .instanceMethod yX5_isPeriod, .selects RX5 yX5_isPeriod yX5_isPeriod, .code yX5_isPeriod cX5_isPeriod 2 (some .boolean), .fieldLink RX5 20 "LotRules" "last" "I", .methodLink RX5 77 yX5_replace, .static yX5_replace, .code yX5_replace cX5_replace 5 (some .int)] ++ wsX50 ++ wsX20)
def wsX5_capacity : List Cond := .code yX5_capacity cX5_capacity 3 (some .int) :: ([.fieldLink RX5 36 "LotRules" "capacities" "[I", .methodLink RX5 81 yX5_isPeriod, .instanceMethod yX5_isPeriod, .selects RX5 yX5_isPeriod yX5_isPeriod, .initialized RX5, .code yX5_isPeriod cX5_isPeriod 2 (some .boolean), .fieldLink RX5 20 "LotRules" "last" "I", .methodLink RX5 77 yX5_replace, .static yX5_replace, .code yX5_replace cX5_replace 5 (some .int)] ++ wsX50)
def wsX5_over : List Cond := .code yX5_over cX5_over 3 (some .int) :: ([.fieldLink RX5 43 "LotRules" "overs" "[I", .fieldLink RX5 40 "LotRules" "MOST_OF_OVER" "[I", .methodLink RX5 77 yX5_replace, .static yX5_replace, .initialized RX5, .code yX5_replace cX5_replace 5 (some .int)] ++ wsX50)
def wsX5_grossOf : List Cond := .code yX5_grossOf cX5_grossOf 5 (some .int) :: ([.fieldLink RX5 26 "LotRules" "items" "[LLotRules$Item;", .fieldLink RX5 84 "LotRules$Item" "needs" "[I", .fieldLink RX5 33 "LotRules" "itemCount" "I", .fieldLink RX5 91 "LotRules$Item" "timesPartOf" "[I", .fieldLink RX5 94 "LotRules$Item" "lots" "[I"] ++ wsX50 ++ wsX20)
def wsX5_gross : List Cond := .code yX5_gross cX5_gross 3 (some .int) :: ([.methodLink RX5 67 yX5_isItem, .instanceMethod yX5_isItem, .selects RX5 yX5_isItem yX5_isItem, .initialized RX5, .code yX5_isItem cX5_isItem 2 (some .boolean), .fieldLink RX5 33 "LotRules" "itemCount" "I", .methodLink RX5 81 yX5_isPeriod, .instanceMethod yX5_isPeriod, .selects RX5 yX5_isPeriod yX5_isPeriod, .code yX5_isPeriod cX5_isPeriod 2 (some .boolean), .fieldLink RX5 20 "LotRules" "last" "I", .methodLink RX5 97 yX5_grossOf, .instanceMethod yX5_grossOf, .selects RX5 yX5_grossOf yX5_grossOf, .code yX5_grossOf cX5_grossOf 5 (some .int), .fieldLink RX5 26 "LotRules" "items" "[LLotRules$Item;", .fieldLink RX5 84 "LotRules$Item" "needs" "[I", .fieldLink RX5 91 "LotRules$Item" "timesPartOf" "[I", .fieldLink RX5 94 "LotRules$Item" "lots" "[I"] ++ wsX50 ++ wsX20)
def wsX5_isPeriodOrBeginning : List Cond := .code yX5_isPeriodOrBeginning cX5_isPeriodOrBeginning 2 (some .boolean) :: ([.methodLink RX5 81 yX5_isPeriod, .instanceMethod yX5_isPeriod, .selects RX5 yX5_isPeriod yX5_isPeriod, .initialized RX5, .code yX5_isPeriod cX5_isPeriod 2 (some .boolean), .fieldLink RX5 20 "LotRules" "last" "I"] ++ wsX50)
def wsX5_runItem_r1 : List Cond := [Cond.fieldLink RX5 26 "LotRules" "items" "[LLotRules$Item;", Cond.fieldLink RX5 108 "LotRules$Item" "store" "LLotRules$Store;", Cond.fieldLink RX5 71 "LotRules$Item" "numbers" "[I", Cond.fieldLink RX5 20 "LotRules" "last" "I", Cond.methodLink RX5 173 yX4_begin, Cond.instanceMethod yX4_begin, Cond.selects RX4 yX4_begin yX4_begin, Cond.initialized RX4, Cond.code yX4_begin cX4_begin 2 none, Cond.fieldLink RX4 7 "LotRules$Store" "stocks" "[I", Cond.fieldLink RX4 16 "LotRules$Store" "left" "[I", Cond.methodLink RX5 176 yX2_coming, Cond.instanceMethod yX2_coming, Cond.selects RX2 yX2_coming yX2_coming, Cond.initialized RX2, Cond.code yX2_coming cX2_coming 3 (some .int), Cond.fieldLink RX2 9 "LotRules$Item" "numbers" "[I", Cond.fieldLink RX2 18 "LotRules$Item" "lots" "[I", Cond.methodLink RX5 97 yX5_grossOf, Cond.instanceMethod yX5_grossOf, Cond.selects RX5 yX5_grossOf yX5_grossOf, Cond.initialized RX5, Cond.code yX5_grossOf cX5_grossOf 5 (some .int), Cond.fieldLink RX5 84 "LotRules$Item" "needs" "[I"]
def wsX5_runItem_r2 : List Cond := [Cond.fieldLink RX5 33 "LotRules" "itemCount" "I", Cond.fieldLink RX5 91 "LotRules$Item" "timesPartOf" "[I", Cond.fieldLink RX5 94 "LotRules$Item" "lots" "[I", Cond.methodLink RX5 180 yX4_pass, Cond.instanceMethod yX4_pass, Cond.selects RX4 yX4_pass yX4_pass, Cond.code yX4_pass cX4_pass 5 none, Cond.fieldLink RX4 13 "LotRules$Store" "losses" "[I", Cond.methodLink RX4 19 yX4_owedAt, Cond.instanceMethod yX4_owedAt, Cond.selects RX4 yX4_owedAt yX4_owedAt, Cond.code yX4_owedAt cX4_owedAt 2 (some .int), Cond.methodLink RX4 30 Lib.Math.max.name, Cond.static Lib.Math.max.name, Cond.initialized "java/lang/Math", Cond.code Lib.Math.max.name Lib.Math.max.code 2 (some .int), Cond.methodLink RX4 23 yX4_take, Cond.instanceMethod yX4_take, Cond.selects RX4 yX4_take yX4_take, Cond.code yX4_take cX4_take 6 none, Cond.methodLink RX4 36 Lib.Math.min.name, Cond.static Lib.Math.min.name, Cond.code Lib.Math.min.name Lib.Math.min.code 2 (some .int), Cond.methodLink RX4 27 yX4_spoil]
def wsX5_runItem_r3 : List Cond := [Cond.instanceMethod yX4_spoil, Cond.selects RX4 yX4_spoil yX4_spoil, Cond.code yX4_spoil cX4_spoil 3 (some .int)]
def wsX5_runItem : List Cond := .code yX5_runItem cX5_runItem 4 none :: ((wsX5_runItem_r1 ++ (wsX5_runItem_r2 ++ wsX5_runItem_r3)) ++ wsX50 ++ wsX20 ++ wsX40)
def wsX5_stock_r1 : List Cond := [Cond.constantLong RX5 103 (-9223372036854775808), Cond.fieldLink RX5 26 "LotRules" "items" "[LLotRules$Item;", Cond.fieldLink RX5 108 "LotRules$Item" "store" "LLotRules$Store;", Cond.fieldLink RX5 112 "LotRules$Store" "stocks" "[I", Cond.methodLink RX5 67 yX5_isItem, Cond.instanceMethod yX5_isItem, Cond.selects RX5 yX5_isItem yX5_isItem, Cond.initialized RX5, Cond.code yX5_isItem cX5_isItem 2 (some .boolean), Cond.fieldLink RX5 33 "LotRules" "itemCount" "I", Cond.methodLink RX5 100 yX5_isPeriodOrBeginning, Cond.instanceMethod yX5_isPeriodOrBeginning, Cond.selects RX5 yX5_isPeriodOrBeginning yX5_isPeriodOrBeginning, Cond.code yX5_isPeriodOrBeginning cX5_isPeriodOrBeginning 2 (some .boolean), Cond.methodLink RX5 81 yX5_isPeriod, Cond.instanceMethod yX5_isPeriod, Cond.selects RX5 yX5_isPeriod yX5_isPeriod, Cond.code yX5_isPeriod cX5_isPeriod 2 (some .boolean), Cond.fieldLink RX5 20 "LotRules" "last" "I", Cond.methodLink RX5 105 yX5_runItem, Cond.instanceMethod yX5_runItem, Cond.selects RX5 yX5_runItem yX5_runItem, Cond.code yX5_runItem cX5_runItem 4 none, Cond.fieldLink RX5 71 "LotRules$Item" "numbers" "[I"]
def wsX5_stock_r2 : List Cond := [Cond.methodLink RX5 173 yX4_begin, Cond.instanceMethod yX4_begin, Cond.selects RX4 yX4_begin yX4_begin, Cond.initialized RX4, Cond.code yX4_begin cX4_begin 2 none, Cond.fieldLink RX4 7 "LotRules$Store" "stocks" "[I", Cond.fieldLink RX4 16 "LotRules$Store" "left" "[I", Cond.methodLink RX5 176 yX2_coming, Cond.instanceMethod yX2_coming, Cond.selects RX2 yX2_coming yX2_coming, Cond.initialized RX2, Cond.code yX2_coming cX2_coming 3 (some .int), Cond.fieldLink RX2 9 "LotRules$Item" "numbers" "[I", Cond.fieldLink RX2 18 "LotRules$Item" "lots" "[I", Cond.methodLink RX5 97 yX5_grossOf, Cond.instanceMethod yX5_grossOf, Cond.selects RX5 yX5_grossOf yX5_grossOf, Cond.code yX5_grossOf cX5_grossOf 5 (some .int), Cond.fieldLink RX5 84 "LotRules$Item" "needs" "[I", Cond.fieldLink RX5 91 "LotRules$Item" "timesPartOf" "[I", Cond.fieldLink RX5 94 "LotRules$Item" "lots" "[I", Cond.methodLink RX5 180 yX4_pass, Cond.instanceMethod yX4_pass, Cond.selects RX4 yX4_pass yX4_pass]
def wsX5_stock_r3 : List Cond := [Cond.code yX4_pass cX4_pass 5 none, Cond.fieldLink RX4 13 "LotRules$Store" "losses" "[I", Cond.methodLink RX4 19 yX4_owedAt, Cond.instanceMethod yX4_owedAt, Cond.selects RX4 yX4_owedAt yX4_owedAt, Cond.code yX4_owedAt cX4_owedAt 2 (some .int), Cond.methodLink RX4 30 Lib.Math.max.name, Cond.static Lib.Math.max.name, Cond.initialized "java/lang/Math", Cond.code Lib.Math.max.name Lib.Math.max.code 2 (some .int), Cond.methodLink RX4 23 yX4_take, Cond.instanceMethod yX4_take, Cond.selects RX4 yX4_take yX4_take, Cond.code yX4_take cX4_take 6 none, Cond.methodLink RX4 36 Lib.Math.min.name, Cond.static Lib.Math.min.name, Cond.code Lib.Math.min.name Lib.Math.min.code 2 (some .int), Cond.methodLink RX4 27 yX4_spoil, Cond.instanceMethod yX4_spoil, Cond.selects RX4 yX4_spoil yX4_spoil, Cond.code yX4_spoil cX4_spoil 3 (some .int)]
def wsX5_stock : List Cond := .code yX5_stock cX5_stock 3 (some .long) :: ((wsX5_stock_r1 ++ (wsX5_stock_r2 ++ wsX5_stock_r3)) ++ wsX50 ++ wsX20 ++ wsX40)
def wsX5_spoilt_r1 : List Cond := [Cond.fieldLink RX5 26 "LotRules" "items" "[LLotRules$Item;", Cond.fieldLink RX5 108 "LotRules$Item" "store" "LLotRules$Store;", Cond.fieldLink RX5 117 "LotRules$Store" "losses" "[I", Cond.methodLink RX5 67 yX5_isItem, Cond.instanceMethod yX5_isItem, Cond.selects RX5 yX5_isItem yX5_isItem, Cond.initialized RX5, Cond.code yX5_isItem cX5_isItem 2 (some .boolean), Cond.fieldLink RX5 33 "LotRules" "itemCount" "I", Cond.methodLink RX5 81 yX5_isPeriod, Cond.instanceMethod yX5_isPeriod, Cond.selects RX5 yX5_isPeriod yX5_isPeriod, Cond.code yX5_isPeriod cX5_isPeriod 2 (some .boolean), Cond.fieldLink RX5 20 "LotRules" "last" "I", Cond.methodLink RX5 105 yX5_runItem, Cond.instanceMethod yX5_runItem, Cond.selects RX5 yX5_runItem yX5_runItem, Cond.code yX5_runItem cX5_runItem 4 none, Cond.fieldLink RX5 71 "LotRules$Item" "numbers" "[I", Cond.methodLink RX5 173 yX4_begin, Cond.instanceMethod yX4_begin, Cond.selects RX4 yX4_begin yX4_begin, Cond.initialized RX4, Cond.code yX4_begin cX4_begin 2 none]
def wsX5_spoilt_r2 : List Cond := [Cond.fieldLink RX4 7 "LotRules$Store" "stocks" "[I", Cond.fieldLink RX4 16 "LotRules$Store" "left" "[I", Cond.methodLink RX5 176 yX2_coming, Cond.instanceMethod yX2_coming, Cond.selects RX2 yX2_coming yX2_coming, Cond.initialized RX2, Cond.code yX2_coming cX2_coming 3 (some .int), Cond.fieldLink RX2 9 "LotRules$Item" "numbers" "[I", Cond.fieldLink RX2 18 "LotRules$Item" "lots" "[I", Cond.methodLink RX5 97 yX5_grossOf, Cond.instanceMethod yX5_grossOf, Cond.selects RX5 yX5_grossOf yX5_grossOf, Cond.code yX5_grossOf cX5_grossOf 5 (some .int), Cond.fieldLink RX5 84 "LotRules$Item" "needs" "[I", Cond.fieldLink RX5 91 "LotRules$Item" "timesPartOf" "[I", Cond.fieldLink RX5 94 "LotRules$Item" "lots" "[I", Cond.methodLink RX5 180 yX4_pass, Cond.instanceMethod yX4_pass, Cond.selects RX4 yX4_pass yX4_pass, Cond.code yX4_pass cX4_pass 5 none, Cond.fieldLink RX4 13 "LotRules$Store" "losses" "[I", Cond.methodLink RX4 19 yX4_owedAt, Cond.instanceMethod yX4_owedAt, Cond.selects RX4 yX4_owedAt yX4_owedAt]
def wsX5_spoilt_r3 : List Cond := [Cond.code yX4_owedAt cX4_owedAt 2 (some .int), Cond.methodLink RX4 30 Lib.Math.max.name, Cond.static Lib.Math.max.name, Cond.initialized "java/lang/Math", Cond.code Lib.Math.max.name Lib.Math.max.code 2 (some .int), Cond.methodLink RX4 23 yX4_take, Cond.instanceMethod yX4_take, Cond.selects RX4 yX4_take yX4_take, Cond.code yX4_take cX4_take 6 none, Cond.methodLink RX4 36 Lib.Math.min.name, Cond.static Lib.Math.min.name, Cond.code Lib.Math.min.name Lib.Math.min.code 2 (some .int), Cond.methodLink RX4 27 yX4_spoil, Cond.instanceMethod yX4_spoil, Cond.selects RX4 yX4_spoil yX4_spoil, Cond.code yX4_spoil cX4_spoil 3 (some .int)]
def wsX5_spoilt : List Cond := .code yX5_spoilt cX5_spoilt 3 (some .int) :: ((wsX5_spoilt_r1 ++ (wsX5_spoilt_r2 ++ wsX5_spoilt_r3)) ++ wsX50 ++ wsX20 ++ wsX40)
def wsX5_isSetUp_r1 : List Cond := [Cond.fieldLink RX5 49 "LotRules" "machine" "LLotRules$Machine;", Cond.fieldLink RX5 26 "LotRules" "items" "[LLotRules$Item;", Cond.fieldLink RX5 33 "LotRules" "itemCount" "I", Cond.methodLink RX5 67 yX5_isItem, Cond.instanceMethod yX5_isItem, Cond.selects RX5 yX5_isItem yX5_isItem, Cond.initialized RX5, Cond.code yX5_isItem cX5_isItem 2 (some .boolean), Cond.methodLink RX5 81 yX5_isPeriod, Cond.instanceMethod yX5_isPeriod, Cond.selects RX5 yX5_isPeriod yX5_isPeriod, Cond.code yX5_isPeriod cX5_isPeriod 2 (some .boolean), Cond.fieldLink RX5 20 "LotRules" "last" "I", Cond.methodLink RX5 120 yX3_follow, Cond.instanceMethod yX3_follow, Cond.selects RX3 yX3_follow yX3_follow, Cond.initialized RX3, Cond.code yX3_follow cX3_follow 6 none, Cond.fieldLink RX3 15 "LotRules$Machine" "standing" "[I", Cond.fieldLink RX3 9 "LotRules$Machine" "setUps" "[I", Cond.fieldLink RX3 18 "LotRules$Item" "lots" "[I", Cond.methodLink RX5 124 yX3_setsUp, Cond.instanceMethod yX3_setsUp, Cond.selects RX3 yX3_setsUp yX3_setsUp]
def wsX5_isSetUp_r2 : List Cond := [Cond.code yX3_setsUp cX3_setsUp 3 (some .boolean)]
def wsX5_isSetUp : List Cond := .code yX5_isSetUp cX5_isSetUp 3 (some .int) :: ((wsX5_isSetUp_r1 ++ wsX5_isSetUp_r2) ++ wsX50 ++ wsX30 ++ wsX20)
def wsX5_stands : List Cond := .code yX5_stands cX5_stands 2 (some .int) :: ([.fieldLink RX5 49 "LotRules" "machine" "LLotRules$Machine;", .fieldLink RX5 26 "LotRules" "items" "[LLotRules$Item;", .fieldLink RX5 33 "LotRules" "itemCount" "I", .fieldLink RX5 127 "LotRules$Machine" "standing" "[I", .methodLink RX5 100 yX5_isPeriodOrBeginning, .instanceMethod yX5_isPeriodOrBeginning, .selects RX5 yX5_isPeriodOrBeginning yX5_isPeriodOrBeginning, .initialized RX5, .code yX5_isPeriodOrBeginning cX5_isPeriodOrBeginning 2 (some .boolean), .methodLink RX5 81 yX5_isPeriod, .instanceMethod yX5_isPeriod, .selects RX5 yX5_isPeriod yX5_isPeriod, .code yX5_isPeriod cX5_isPeriod 2 (some .boolean), .fieldLink RX5 20 "LotRules" "last" "I", .methodLink RX5 120 yX3_follow, .instanceMethod yX3_follow, .selects RX3 yX3_follow yX3_follow, .initialized RX3, .code yX3_follow cX3_follow 6 none, .fieldLink RX3 15 "LotRules$Machine" "standing" "[I", .fieldLink RX3 9 "LotRules$Machine" "setUps" "[I", .fieldLink RX3 18 "LotRules$Item" "lots" "[I"] ++ wsX50 ++ wsX30 ++ wsX20)
def wsX5_timeOf : List Cond := .code yX5_timeOf cX5_timeOf 5 (some .long) :: ([.fieldLink RX5 33 "LotRules" "itemCount" "I", .fieldLink RX5 26 "LotRules" "items" "[LLotRules$Item;", .fieldLink RX5 94 "LotRules$Item" "lots" "[I", .fieldLink RX5 71 "LotRules$Item" "numbers" "[I", .fieldLink RX5 49 "LotRules" "machine" "LLotRules$Machine;", .methodLink RX5 124 yX3_setsUp, .instanceMethod yX3_setsUp, .selects RX3 yX3_setsUp yX3_setsUp, .initialized RX3, .code yX3_setsUp cX3_setsUp 3 (some .boolean), .fieldLink RX3 9 "LotRules$Machine" "setUps" "[I"] ++ wsX50 ++ wsX20 ++ wsX30)
def wsX5_time_r1 : List Cond := [Cond.constantLong RX5 103 (-9223372036854775808), Cond.fieldLink RX5 49 "LotRules" "machine" "LLotRules$Machine;", Cond.fieldLink RX5 26 "LotRules" "items" "[LLotRules$Item;", Cond.fieldLink RX5 33 "LotRules" "itemCount" "I", Cond.methodLink RX5 81 yX5_isPeriod, Cond.instanceMethod yX5_isPeriod, Cond.selects RX5 yX5_isPeriod yX5_isPeriod, Cond.initialized RX5, Cond.code yX5_isPeriod cX5_isPeriod 2 (some .boolean), Cond.fieldLink RX5 20 "LotRules" "last" "I", Cond.methodLink RX5 120 yX3_follow, Cond.instanceMethod yX3_follow, Cond.selects RX3 yX3_follow yX3_follow, Cond.initialized RX3, Cond.code yX3_follow cX3_follow 6 none, Cond.fieldLink RX3 15 "LotRules$Machine" "standing" "[I", Cond.fieldLink RX3 9 "LotRules$Machine" "setUps" "[I", Cond.fieldLink RX3 18 "LotRules$Item" "lots" "[I", Cond.methodLink RX5 130 yX5_timeOf, Cond.instanceMethod yX5_timeOf, Cond.selects RX5 yX5_timeOf yX5_timeOf, Cond.code yX5_timeOf cX5_timeOf 5 (some .long), Cond.fieldLink RX5 94 "LotRules$Item" "lots" "[I", Cond.fieldLink RX5 71 "LotRules$Item" "numbers" "[I"]
def wsX5_time_r2 : List Cond := [Cond.methodLink RX5 124 yX3_setsUp, Cond.instanceMethod yX3_setsUp, Cond.selects RX3 yX3_setsUp yX3_setsUp, Cond.code yX3_setsUp cX3_setsUp 3 (some .boolean)]
def wsX5_time : List Cond := .code yX5_time cX5_time 2 (some .long) :: ((wsX5_time_r1 ++ wsX5_time_r2) ++ wsX50 ++ wsX30 ++ wsX20)
def wsX5_isPrice : List Cond := .code yX5_isPrice cX5_isPrice 1 (some .boolean) :: ([])
def wsX5_setUpPrices : List Cond := .code yX5_setUpPrices cX5_setUpPrices 5 (some .long) :: ([.fieldLink RX5 49 "LotRules" "machine" "LLotRules$Machine;", .fieldLink RX5 26 "LotRules" "items" "[LLotRules$Item;", .fieldLink RX5 33 "LotRules" "itemCount" "I", .fieldLink RX5 20 "LotRules" "last" "I", .fieldLink RX5 71 "LotRules$Item" "numbers" "[I", .methodLink RX5 120 yX3_follow, .instanceMethod yX3_follow, .selects RX3 yX3_follow yX3_follow, .initialized RX3, .code yX3_follow cX3_follow 6 none, .fieldLink RX3 15 "LotRules$Machine" "standing" "[I", .fieldLink RX3 9 "LotRules$Machine" "setUps" "[I", .fieldLink RX3 18 "LotRules$Item" "lots" "[I", .methodLink RX5 124 yX3_setsUp, .instanceMethod yX3_setsUp, .selects RX3 yX3_setsUp yX3_setsUp, .code yX3_setsUp cX3_setsUp 3 (some .boolean)] ++ wsX50 ++ wsX20 ++ wsX30)
def wsX5_holdPrices_r1 : List Cond := [Cond.fieldLink RX5 33 "LotRules" "itemCount" "I", Cond.fieldLink RX5 20 "LotRules" "last" "I", Cond.fieldLink RX5 26 "LotRules" "items" "[LLotRules$Item;", Cond.fieldLink RX5 71 "LotRules$Item" "numbers" "[I", Cond.fieldLink RX5 108 "LotRules$Item" "store" "LLotRules$Store;", Cond.fieldLink RX5 112 "LotRules$Store" "stocks" "[I", Cond.methodLink RX5 17 Lib.Math.max.name, Cond.static Lib.Math.max.name, Cond.initialized "java/lang/Math", Cond.code Lib.Math.max.name Lib.Math.max.code 2 (some .int), Cond.methodLink RX5 105 yX5_runItem, Cond.instanceMethod yX5_runItem, Cond.selects RX5 yX5_runItem yX5_runItem, Cond.initialized RX5, Cond.code yX5_runItem cX5_runItem 4 none, Cond.methodLink RX5 173 yX4_begin, Cond.instanceMethod yX4_begin, Cond.selects RX4 yX4_begin yX4_begin, Cond.initialized RX4, Cond.code yX4_begin cX4_begin 2 none, Cond.fieldLink RX4 7 "LotRules$Store" "stocks" "[I", Cond.fieldLink RX4 16 "LotRules$Store" "left" "[I", Cond.methodLink RX5 176 yX2_coming, Cond.instanceMethod yX2_coming]
def wsX5_holdPrices_r2 : List Cond := [Cond.selects RX2 yX2_coming yX2_coming, Cond.initialized RX2, Cond.code yX2_coming cX2_coming 3 (some .int), Cond.fieldLink RX2 9 "LotRules$Item" "numbers" "[I", Cond.fieldLink RX2 18 "LotRules$Item" "lots" "[I", Cond.methodLink RX5 97 yX5_grossOf, Cond.instanceMethod yX5_grossOf, Cond.selects RX5 yX5_grossOf yX5_grossOf, Cond.code yX5_grossOf cX5_grossOf 5 (some .int), Cond.fieldLink RX5 84 "LotRules$Item" "needs" "[I", Cond.fieldLink RX5 91 "LotRules$Item" "timesPartOf" "[I", Cond.fieldLink RX5 94 "LotRules$Item" "lots" "[I", Cond.methodLink RX5 180 yX4_pass, Cond.instanceMethod yX4_pass, Cond.selects RX4 yX4_pass yX4_pass, Cond.code yX4_pass cX4_pass 5 none, Cond.fieldLink RX4 13 "LotRules$Store" "losses" "[I", Cond.methodLink RX4 19 yX4_owedAt, Cond.instanceMethod yX4_owedAt, Cond.selects RX4 yX4_owedAt yX4_owedAt, Cond.code yX4_owedAt cX4_owedAt 2 (some .int), Cond.methodLink RX4 30 Lib.Math.max.name, Cond.methodLink RX4 23 yX4_take, Cond.instanceMethod yX4_take]
def wsX5_holdPrices_r3 : List Cond := [Cond.selects RX4 yX4_take yX4_take, Cond.code yX4_take cX4_take 6 none, Cond.methodLink RX4 36 Lib.Math.min.name, Cond.static Lib.Math.min.name, Cond.code Lib.Math.min.name Lib.Math.min.code 2 (some .int), Cond.methodLink RX4 27 yX4_spoil, Cond.instanceMethod yX4_spoil, Cond.selects RX4 yX4_spoil yX4_spoil, Cond.code yX4_spoil cX4_spoil 3 (some .int)]
def wsX5_holdPrices : List Cond := .code yX5_holdPrices cX5_holdPrices 5 (some .long) :: ((wsX5_holdPrices_r1 ++ (wsX5_holdPrices_r2 ++ wsX5_holdPrices_r3)) ++ wsX50 ++ wsX20 ++ wsX40)
def wsX5_overOf : List Cond := .code yX5_overOf cX5_overOf 2 (some .long) :: ([.fieldLink RX5 36 "LotRules" "capacities" "[I", .methodLink RX5 184 Lib.MathLoose.max_long.x, .static Lib.MathLoose.max_long.x, .initialized "java/lang/Math", .code Lib.MathLoose.max_long.x Lib.MathLoose.max_long.code 4 (some .long), .methodLink RX5 130 yX5_timeOf, .instanceMethod yX5_timeOf, .selects RX5 yX5_timeOf yX5_timeOf, .initialized RX5, .code yX5_timeOf cX5_timeOf 5 (some .long), .fieldLink RX5 33 "LotRules" "itemCount" "I", .fieldLink RX5 26 "LotRules" "items" "[LLotRules$Item;", .fieldLink RX5 94 "LotRules$Item" "lots" "[I", .fieldLink RX5 71 "LotRules$Item" "numbers" "[I", .fieldLink RX5 49 "LotRules" "machine" "LLotRules$Machine;", .methodLink RX5 124 yX3_setsUp, .instanceMethod yX3_setsUp, .selects RX3 yX3_setsUp yX3_setsUp, .initialized RX3, .code yX3_setsUp cX3_setsUp 3 (some .boolean), .fieldLink RX3 9 "LotRules$Machine" "setUps" "[I"] ++ wsX50 ++ wsX20 ++ wsX30)
def wsX5_overPrices_r1 : List Cond := [Cond.fieldLink RX5 49 "LotRules" "machine" "LLotRules$Machine;", Cond.fieldLink RX5 26 "LotRules" "items" "[LLotRules$Item;", Cond.fieldLink RX5 33 "LotRules" "itemCount" "I", Cond.fieldLink RX5 20 "LotRules" "last" "I", Cond.fieldLink RX5 43 "LotRules" "overs" "[I", Cond.methodLink RX5 120 yX3_follow, Cond.instanceMethod yX3_follow, Cond.selects RX3 yX3_follow yX3_follow, Cond.initialized RX3, Cond.code yX3_follow cX3_follow 6 none, Cond.fieldLink RX3 15 "LotRules$Machine" "standing" "[I", Cond.fieldLink RX3 9 "LotRules$Machine" "setUps" "[I", Cond.fieldLink RX3 18 "LotRules$Item" "lots" "[I", Cond.methodLink RX5 197 yX5_overOf, Cond.instanceMethod yX5_overOf, Cond.selects RX5 yX5_overOf yX5_overOf, Cond.initialized RX5, Cond.code yX5_overOf cX5_overOf 2 (some .long), Cond.fieldLink RX5 36 "LotRules" "capacities" "[I", Cond.methodLink RX5 184 Lib.MathLoose.max_long.x, Cond.static Lib.MathLoose.max_long.x, Cond.initialized "java/lang/Math", Cond.code Lib.MathLoose.max_long.x Lib.MathLoose.max_long.code 4 (some .long), Cond.methodLink RX5 130 yX5_timeOf]
def wsX5_overPrices_r2 : List Cond := [Cond.instanceMethod yX5_timeOf, Cond.selects RX5 yX5_timeOf yX5_timeOf, Cond.code yX5_timeOf cX5_timeOf 5 (some .long), Cond.fieldLink RX5 94 "LotRules$Item" "lots" "[I", Cond.fieldLink RX5 71 "LotRules$Item" "numbers" "[I", Cond.methodLink RX5 124 yX3_setsUp, Cond.instanceMethod yX3_setsUp, Cond.selects RX3 yX3_setsUp yX3_setsUp, Cond.code yX3_setsUp cX3_setsUp 3 (some .boolean)]
def wsX5_overPrices : List Cond := .code yX5_overPrices cX5_overPrices 4 (some .long) :: ((wsX5_overPrices_r1 ++ wsX5_overPrices_r2) ++ wsX50 ++ wsX30 ++ wsX20)
def wsX5_priceOf_r1 : List Cond := [Cond.methodLink RX5 187 yX5_setUpPrices, Cond.instanceMethod yX5_setUpPrices, Cond.selects RX5 yX5_setUpPrices yX5_setUpPrices, Cond.initialized RX5, Cond.code yX5_setUpPrices cX5_setUpPrices 5 (some .long), Cond.fieldLink RX5 49 "LotRules" "machine" "LLotRules$Machine;", Cond.fieldLink RX5 26 "LotRules" "items" "[LLotRules$Item;", Cond.fieldLink RX5 33 "LotRules" "itemCount" "I", Cond.fieldLink RX5 20 "LotRules" "last" "I", Cond.fieldLink RX5 71 "LotRules$Item" "numbers" "[I", Cond.methodLink RX5 120 yX3_follow, Cond.instanceMethod yX3_follow, Cond.selects RX3 yX3_follow yX3_follow, Cond.initialized RX3, Cond.code yX3_follow cX3_follow 6 none, Cond.fieldLink RX3 15 "LotRules$Machine" "standing" "[I", Cond.fieldLink RX3 9 "LotRules$Machine" "setUps" "[I", Cond.fieldLink RX3 18 "LotRules$Item" "lots" "[I", Cond.methodLink RX5 124 yX3_setsUp, Cond.instanceMethod yX3_setsUp, Cond.selects RX3 yX3_setsUp yX3_setsUp, Cond.code yX3_setsUp cX3_setsUp 3 (some .boolean), Cond.methodLink RX5 191 yX5_holdPrices, Cond.instanceMethod yX5_holdPrices]
def wsX5_priceOf_r2 : List Cond := [Cond.selects RX5 yX5_holdPrices yX5_holdPrices, Cond.code yX5_holdPrices cX5_holdPrices 5 (some .long), Cond.fieldLink RX5 108 "LotRules$Item" "store" "LLotRules$Store;", Cond.fieldLink RX5 112 "LotRules$Store" "stocks" "[I", Cond.methodLink RX5 17 Lib.Math.max.name, Cond.static Lib.Math.max.name, Cond.initialized "java/lang/Math", Cond.code Lib.Math.max.name Lib.Math.max.code 2 (some .int), Cond.methodLink RX5 105 yX5_runItem, Cond.instanceMethod yX5_runItem, Cond.selects RX5 yX5_runItem yX5_runItem, Cond.code yX5_runItem cX5_runItem 4 none, Cond.methodLink RX5 173 yX4_begin, Cond.instanceMethod yX4_begin, Cond.selects RX4 yX4_begin yX4_begin, Cond.initialized RX4, Cond.code yX4_begin cX4_begin 2 none, Cond.fieldLink RX4 7 "LotRules$Store" "stocks" "[I", Cond.fieldLink RX4 16 "LotRules$Store" "left" "[I", Cond.methodLink RX5 176 yX2_coming, Cond.instanceMethod yX2_coming, Cond.selects RX2 yX2_coming yX2_coming, Cond.initialized RX2, Cond.code yX2_coming cX2_coming 3 (some .int)]
def wsX5_priceOf_r3 : List Cond := [Cond.fieldLink RX2 9 "LotRules$Item" "numbers" "[I", Cond.fieldLink RX2 18 "LotRules$Item" "lots" "[I", Cond.methodLink RX5 97 yX5_grossOf, Cond.instanceMethod yX5_grossOf, Cond.selects RX5 yX5_grossOf yX5_grossOf, Cond.code yX5_grossOf cX5_grossOf 5 (some .int), Cond.fieldLink RX5 84 "LotRules$Item" "needs" "[I", Cond.fieldLink RX5 91 "LotRules$Item" "timesPartOf" "[I", Cond.fieldLink RX5 94 "LotRules$Item" "lots" "[I", Cond.methodLink RX5 180 yX4_pass, Cond.instanceMethod yX4_pass, Cond.selects RX4 yX4_pass yX4_pass, Cond.code yX4_pass cX4_pass 5 none, Cond.fieldLink RX4 13 "LotRules$Store" "losses" "[I", Cond.methodLink RX4 19 yX4_owedAt, Cond.instanceMethod yX4_owedAt, Cond.selects RX4 yX4_owedAt yX4_owedAt, Cond.code yX4_owedAt cX4_owedAt 2 (some .int), Cond.methodLink RX4 30 Lib.Math.max.name, Cond.methodLink RX4 23 yX4_take, Cond.instanceMethod yX4_take, Cond.selects RX4 yX4_take yX4_take, Cond.code yX4_take cX4_take 6 none, Cond.methodLink RX4 36 Lib.Math.min.name]
def wsX5_priceOf_r4 : List Cond := [Cond.static Lib.Math.min.name, Cond.code Lib.Math.min.name Lib.Math.min.code 2 (some .int), Cond.methodLink RX4 27 yX4_spoil, Cond.instanceMethod yX4_spoil, Cond.selects RX4 yX4_spoil yX4_spoil, Cond.code yX4_spoil cX4_spoil 3 (some .int), Cond.methodLink RX5 194 yX5_overPrices, Cond.instanceMethod yX5_overPrices, Cond.selects RX5 yX5_overPrices yX5_overPrices, Cond.code yX5_overPrices cX5_overPrices 4 (some .long), Cond.fieldLink RX5 43 "LotRules" "overs" "[I", Cond.methodLink RX5 197 yX5_overOf, Cond.instanceMethod yX5_overOf, Cond.selects RX5 yX5_overOf yX5_overOf, Cond.code yX5_overOf cX5_overOf 2 (some .long), Cond.fieldLink RX5 36 "LotRules" "capacities" "[I", Cond.methodLink RX5 184 Lib.MathLoose.max_long.x, Cond.static Lib.MathLoose.max_long.x, Cond.code Lib.MathLoose.max_long.x Lib.MathLoose.max_long.code 4 (some .long), Cond.methodLink RX5 130 yX5_timeOf, Cond.instanceMethod yX5_timeOf, Cond.selects RX5 yX5_timeOf yX5_timeOf, Cond.code yX5_timeOf cX5_timeOf 5 (some .long)]
def wsX5_priceOf : List Cond := .code yX5_priceOf cX5_priceOf 2 (some .long) :: ((wsX5_priceOf_r1 ++ (wsX5_priceOf_r2 ++ (wsX5_priceOf_r3 ++ wsX5_priceOf_r4))) ++ wsX50 ++ wsX20 ++ wsX30 ++ wsX40)
def wsX5_price_r1 : List Cond := [Cond.constantLong RX5 103 (-9223372036854775808), Cond.methodLink RX5 134 yX5_isPrice, Cond.static yX5_isPrice, Cond.initialized RX5, Cond.code yX5_isPrice cX5_isPrice 1 (some .boolean), Cond.methodLink RX5 137 yX5_priceOf, Cond.instanceMethod yX5_priceOf, Cond.selects RX5 yX5_priceOf yX5_priceOf, Cond.code yX5_priceOf cX5_priceOf 2 (some .long), Cond.methodLink RX5 187 yX5_setUpPrices, Cond.instanceMethod yX5_setUpPrices, Cond.selects RX5 yX5_setUpPrices yX5_setUpPrices, Cond.code yX5_setUpPrices cX5_setUpPrices 5 (some .long), Cond.fieldLink RX5 49 "LotRules" "machine" "LLotRules$Machine;", Cond.fieldLink RX5 26 "LotRules" "items" "[LLotRules$Item;", Cond.fieldLink RX5 33 "LotRules" "itemCount" "I", Cond.fieldLink RX5 20 "LotRules" "last" "I", Cond.fieldLink RX5 71 "LotRules$Item" "numbers" "[I", Cond.methodLink RX5 120 yX3_follow, Cond.instanceMethod yX3_follow, Cond.selects RX3 yX3_follow yX3_follow, Cond.initialized RX3, Cond.code yX3_follow cX3_follow 6 none, Cond.fieldLink RX3 15 "LotRules$Machine" "standing" "[I"]
def wsX5_price_r2 : List Cond := [Cond.fieldLink RX3 9 "LotRules$Machine" "setUps" "[I", Cond.fieldLink RX3 18 "LotRules$Item" "lots" "[I", Cond.methodLink RX5 124 yX3_setsUp, Cond.instanceMethod yX3_setsUp, Cond.selects RX3 yX3_setsUp yX3_setsUp, Cond.code yX3_setsUp cX3_setsUp 3 (some .boolean), Cond.methodLink RX5 191 yX5_holdPrices, Cond.instanceMethod yX5_holdPrices, Cond.selects RX5 yX5_holdPrices yX5_holdPrices, Cond.code yX5_holdPrices cX5_holdPrices 5 (some .long), Cond.fieldLink RX5 108 "LotRules$Item" "store" "LLotRules$Store;", Cond.fieldLink RX5 112 "LotRules$Store" "stocks" "[I", Cond.methodLink RX5 17 Lib.Math.max.name, Cond.static Lib.Math.max.name, Cond.initialized "java/lang/Math", Cond.code Lib.Math.max.name Lib.Math.max.code 2 (some .int), Cond.methodLink RX5 105 yX5_runItem, Cond.instanceMethod yX5_runItem, Cond.selects RX5 yX5_runItem yX5_runItem, Cond.code yX5_runItem cX5_runItem 4 none, Cond.methodLink RX5 173 yX4_begin, Cond.instanceMethod yX4_begin, Cond.selects RX4 yX4_begin yX4_begin, Cond.initialized RX4]
def wsX5_price_r3 : List Cond := [Cond.code yX4_begin cX4_begin 2 none, Cond.fieldLink RX4 7 "LotRules$Store" "stocks" "[I", Cond.fieldLink RX4 16 "LotRules$Store" "left" "[I", Cond.methodLink RX5 176 yX2_coming, Cond.instanceMethod yX2_coming, Cond.selects RX2 yX2_coming yX2_coming, Cond.initialized RX2, Cond.code yX2_coming cX2_coming 3 (some .int), Cond.fieldLink RX2 9 "LotRules$Item" "numbers" "[I", Cond.fieldLink RX2 18 "LotRules$Item" "lots" "[I", Cond.methodLink RX5 97 yX5_grossOf, Cond.instanceMethod yX5_grossOf, Cond.selects RX5 yX5_grossOf yX5_grossOf, Cond.code yX5_grossOf cX5_grossOf 5 (some .int), Cond.fieldLink RX5 84 "LotRules$Item" "needs" "[I", Cond.fieldLink RX5 91 "LotRules$Item" "timesPartOf" "[I", Cond.fieldLink RX5 94 "LotRules$Item" "lots" "[I", Cond.methodLink RX5 180 yX4_pass, Cond.instanceMethod yX4_pass, Cond.selects RX4 yX4_pass yX4_pass, Cond.code yX4_pass cX4_pass 5 none, Cond.fieldLink RX4 13 "LotRules$Store" "losses" "[I", Cond.methodLink RX4 19 yX4_owedAt, Cond.instanceMethod yX4_owedAt]
def wsX5_price_r4 : List Cond := [Cond.selects RX4 yX4_owedAt yX4_owedAt, Cond.code yX4_owedAt cX4_owedAt 2 (some .int), Cond.methodLink RX4 30 Lib.Math.max.name, Cond.methodLink RX4 23 yX4_take, Cond.instanceMethod yX4_take, Cond.selects RX4 yX4_take yX4_take, Cond.code yX4_take cX4_take 6 none, Cond.methodLink RX4 36 Lib.Math.min.name, Cond.static Lib.Math.min.name, Cond.code Lib.Math.min.name Lib.Math.min.code 2 (some .int), Cond.methodLink RX4 27 yX4_spoil, Cond.instanceMethod yX4_spoil, Cond.selects RX4 yX4_spoil yX4_spoil, Cond.code yX4_spoil cX4_spoil 3 (some .int), Cond.methodLink RX5 194 yX5_overPrices, Cond.instanceMethod yX5_overPrices, Cond.selects RX5 yX5_overPrices yX5_overPrices, Cond.code yX5_overPrices cX5_overPrices 4 (some .long), Cond.fieldLink RX5 43 "LotRules" "overs" "[I", Cond.methodLink RX5 197 yX5_overOf, Cond.instanceMethod yX5_overOf, Cond.selects RX5 yX5_overOf yX5_overOf, Cond.code yX5_overOf cX5_overOf 2 (some .long), Cond.fieldLink RX5 36 "LotRules" "capacities" "[I"]
def wsX5_price_r5 : List Cond := [Cond.methodLink RX5 184 Lib.MathLoose.max_long.x, Cond.static Lib.MathLoose.max_long.x, Cond.code Lib.MathLoose.max_long.x Lib.MathLoose.max_long.code 4 (some .long), Cond.methodLink RX5 130 yX5_timeOf, Cond.instanceMethod yX5_timeOf, Cond.selects RX5 yX5_timeOf yX5_timeOf, Cond.code yX5_timeOf cX5_timeOf 5 (some .long)]
def wsX5_price : List Cond := .code yX5_price cX5_price 2 (some .long) :: ((wsX5_price_r1 ++ (wsX5_price_r2 ++ (wsX5_price_r3 ++ (wsX5_price_r4 ++ wsX5_price_r5)))) ++ wsX50 ++ wsX20 ++ wsX30 ++ wsX40)
def wsX5_findOwing : List Cond := .code yX5_findOwing cX5_findOwing 4 none :: ([.fieldLink RX5 33 "LotRules" "itemCount" "I", .fieldLink RX5 26 "LotRules" "items" "[LLotRules$Item;", .fieldLink RX5 108 "LotRules$Item" "store" "LLotRules$Store;", .fieldLink RX5 56 "LotRules" "found" "LLotRules$FaultList;", .methodLink RX5 209 yX4_owedAt, .instanceMethod yX4_owedAt, .selects RX4 yX4_owedAt yX4_owedAt, .initialized RX4, .code yX4_owedAt cX4_owedAt 2 (some .int), .fieldLink RX4 7 "LotRules$Store" "stocks" "[I", .methodLink RX4 30 Lib.Math.max.name, .static Lib.Math.max.name, .initialized "java/lang/Math", .code Lib.Math.max.name Lib.Math.max.code 2 (some .int), .methodLink RX5 212 yX1_put, .instanceMethod yX1_put, .selects RX1 yX1_put yX1_put, .initialized RX1, .code yX1_put cX1_put 6 none, .fieldLink RX1 9 "LotRules$FaultList" "size" "I", .fieldLink RX1 15 "LotRules$FaultList" "cells" "[I"] ++ wsX50 ++ wsX20 ++ wsX40 ++ wsX10)
def wsX5_findBelowLeast : List Cond := .code yX5_findBelowLeast cX5_findBelowLeast 5 none :: ([.fieldLink RX5 33 "LotRules" "itemCount" "I", .fieldLink RX5 26 "LotRules" "items" "[LLotRules$Item;", .fieldLink RX5 94 "LotRules$Item" "lots" "[I", .fieldLink RX5 71 "LotRules$Item" "numbers" "[I", .fieldLink RX5 56 "LotRules" "found" "LLotRules$FaultList;", .methodLink RX5 212 yX1_put, .instanceMethod yX1_put, .selects RX1 yX1_put yX1_put, .initialized RX1, .code yX1_put cX1_put 6 none, .fieldLink RX1 9 "LotRules$FaultList" "size" "I", .fieldLink RX1 15 "LotRules$FaultList" "cells" "[I"] ++ wsX50 ++ wsX20 ++ wsX10)
def wsX5_findAboveMostOver_r1 : List Cond := [Cond.fieldLink RX5 43 "LotRules" "overs" "[I", Cond.fieldLink RX5 56 "LotRules" "found" "LLotRules$FaultList;", Cond.methodLink RX5 197 yX5_overOf, Cond.instanceMethod yX5_overOf, Cond.selects RX5 yX5_overOf yX5_overOf, Cond.initialized RX5, Cond.code yX5_overOf cX5_overOf 2 (some .long), Cond.fieldLink RX5 36 "LotRules" "capacities" "[I", Cond.methodLink RX5 184 Lib.MathLoose.max_long.x, Cond.static Lib.MathLoose.max_long.x, Cond.initialized "java/lang/Math", Cond.code Lib.MathLoose.max_long.x Lib.MathLoose.max_long.code 4 (some .long), Cond.methodLink RX5 130 yX5_timeOf, Cond.instanceMethod yX5_timeOf, Cond.selects RX5 yX5_timeOf yX5_timeOf, Cond.code yX5_timeOf cX5_timeOf 5 (some .long), Cond.fieldLink RX5 33 "LotRules" "itemCount" "I", Cond.fieldLink RX5 26 "LotRules" "items" "[LLotRules$Item;", Cond.fieldLink RX5 94 "LotRules$Item" "lots" "[I", Cond.fieldLink RX5 71 "LotRules$Item" "numbers" "[I", Cond.fieldLink RX5 49 "LotRules" "machine" "LLotRules$Machine;", Cond.methodLink RX5 124 yX3_setsUp, Cond.instanceMethod yX3_setsUp, Cond.selects RX3 yX3_setsUp yX3_setsUp]
def wsX5_findAboveMostOver_r2 : List Cond := [Cond.initialized RX3, Cond.code yX3_setsUp cX3_setsUp 3 (some .boolean), Cond.fieldLink RX3 9 "LotRules$Machine" "setUps" "[I", Cond.methodLink RX5 212 yX1_put, Cond.instanceMethod yX1_put, Cond.selects RX1 yX1_put yX1_put, Cond.initialized RX1, Cond.code yX1_put cX1_put 6 none, Cond.fieldLink RX1 9 "LotRules$FaultList" "size" "I", Cond.fieldLink RX1 15 "LotRules$FaultList" "cells" "[I"]
def wsX5_findAboveMostOver : List Cond := .code yX5_findAboveMostOver cX5_findAboveMostOver 4 none :: ((wsX5_findAboveMostOver_r1 ++ wsX5_findAboveMostOver_r2) ++ wsX50 ++ wsX20 ++ wsX30 ++ wsX10)
def wsX5_findFaults_r1 : List Cond := [Cond.fieldLink RX5 33 "LotRules" "itemCount" "I", Cond.fieldLink RX5 49 "LotRules" "machine" "LLotRules$Machine;", Cond.fieldLink RX5 26 "LotRules" "items" "[LLotRules$Item;", Cond.fieldLink RX5 56 "LotRules" "found" "LLotRules$FaultList;", Cond.fieldLink RX5 143 "LotRules$FaultList" "size" "I", Cond.fieldLink RX5 20 "LotRules" "last" "I", Cond.methodLink RX5 105 yX5_runItem, Cond.instanceMethod yX5_runItem, Cond.selects RX5 yX5_runItem yX5_runItem, Cond.initialized RX5, Cond.code yX5_runItem cX5_runItem 4 none, Cond.fieldLink RX5 108 "LotRules$Item" "store" "LLotRules$Store;", Cond.fieldLink RX5 71 "LotRules$Item" "numbers" "[I", Cond.methodLink RX5 173 yX4_begin, Cond.instanceMethod yX4_begin, Cond.selects RX4 yX4_begin yX4_begin, Cond.initialized RX4, Cond.code yX4_begin cX4_begin 2 none, Cond.fieldLink RX4 7 "LotRules$Store" "stocks" "[I", Cond.fieldLink RX4 16 "LotRules$Store" "left" "[I", Cond.methodLink RX5 176 yX2_coming, Cond.instanceMethod yX2_coming, Cond.selects RX2 yX2_coming yX2_coming, Cond.initialized RX2]
def wsX5_findFaults_r2 : List Cond := [Cond.code yX2_coming cX2_coming 3 (some .int), Cond.fieldLink RX2 9 "LotRules$Item" "numbers" "[I", Cond.fieldLink RX2 18 "LotRules$Item" "lots" "[I", Cond.methodLink RX5 97 yX5_grossOf, Cond.instanceMethod yX5_grossOf, Cond.selects RX5 yX5_grossOf yX5_grossOf, Cond.code yX5_grossOf cX5_grossOf 5 (some .int), Cond.fieldLink RX5 84 "LotRules$Item" "needs" "[I", Cond.fieldLink RX5 91 "LotRules$Item" "timesPartOf" "[I", Cond.fieldLink RX5 94 "LotRules$Item" "lots" "[I", Cond.methodLink RX5 180 yX4_pass, Cond.instanceMethod yX4_pass, Cond.selects RX4 yX4_pass yX4_pass, Cond.code yX4_pass cX4_pass 5 none, Cond.fieldLink RX4 13 "LotRules$Store" "losses" "[I", Cond.methodLink RX4 19 yX4_owedAt, Cond.instanceMethod yX4_owedAt, Cond.selects RX4 yX4_owedAt yX4_owedAt, Cond.code yX4_owedAt cX4_owedAt 2 (some .int), Cond.methodLink RX4 30 Lib.Math.max.name, Cond.static Lib.Math.max.name, Cond.initialized "java/lang/Math", Cond.code Lib.Math.max.name Lib.Math.max.code 2 (some .int), Cond.methodLink RX4 23 yX4_take]
def wsX5_findFaults_r3 : List Cond := [Cond.instanceMethod yX4_take, Cond.selects RX4 yX4_take yX4_take, Cond.code yX4_take cX4_take 6 none, Cond.methodLink RX4 36 Lib.Math.min.name, Cond.static Lib.Math.min.name, Cond.code Lib.Math.min.name Lib.Math.min.code 2 (some .int), Cond.methodLink RX4 27 yX4_spoil, Cond.instanceMethod yX4_spoil, Cond.selects RX4 yX4_spoil yX4_spoil, Cond.code yX4_spoil cX4_spoil 3 (some .int), Cond.methodLink RX5 120 yX3_follow, Cond.instanceMethod yX3_follow, Cond.selects RX3 yX3_follow yX3_follow, Cond.initialized RX3, Cond.code yX3_follow cX3_follow 6 none, Cond.fieldLink RX3 15 "LotRules$Machine" "standing" "[I", Cond.fieldLink RX3 9 "LotRules$Machine" "setUps" "[I", Cond.fieldLink RX3 18 "LotRules$Item" "lots" "[I", Cond.methodLink RX5 200 yX5_findOwing, Cond.instanceMethod yX5_findOwing, Cond.selects RX5 yX5_findOwing yX5_findOwing, Cond.code yX5_findOwing cX5_findOwing 4 none, Cond.methodLink RX5 209 yX4_owedAt, Cond.methodLink RX5 212 yX1_put]
def wsX5_findFaults_r4 : List Cond := [Cond.instanceMethod yX1_put, Cond.selects RX1 yX1_put yX1_put, Cond.initialized RX1, Cond.code yX1_put cX1_put 6 none, Cond.fieldLink RX1 9 "LotRules$FaultList" "size" "I", Cond.fieldLink RX1 15 "LotRules$FaultList" "cells" "[I", Cond.methodLink RX5 203 yX5_findBelowLeast, Cond.instanceMethod yX5_findBelowLeast, Cond.selects RX5 yX5_findBelowLeast yX5_findBelowLeast, Cond.code yX5_findBelowLeast cX5_findBelowLeast 5 none, Cond.methodLink RX5 206 yX5_findAboveMostOver, Cond.instanceMethod yX5_findAboveMostOver, Cond.selects RX5 yX5_findAboveMostOver yX5_findAboveMostOver, Cond.code yX5_findAboveMostOver cX5_findAboveMostOver 4 none, Cond.fieldLink RX5 43 "LotRules" "overs" "[I", Cond.methodLink RX5 197 yX5_overOf, Cond.instanceMethod yX5_overOf, Cond.selects RX5 yX5_overOf yX5_overOf, Cond.code yX5_overOf cX5_overOf 2 (some .long), Cond.fieldLink RX5 36 "LotRules" "capacities" "[I", Cond.methodLink RX5 184 Lib.MathLoose.max_long.x, Cond.static Lib.MathLoose.max_long.x, Cond.code Lib.MathLoose.max_long.x Lib.MathLoose.max_long.code 4 (some .long), Cond.methodLink RX5 130 yX5_timeOf]
def wsX5_findFaults_r5 : List Cond := [Cond.instanceMethod yX5_timeOf, Cond.selects RX5 yX5_timeOf yX5_timeOf, Cond.code yX5_timeOf cX5_timeOf 5 (some .long), Cond.methodLink RX5 124 yX3_setsUp, Cond.instanceMethod yX3_setsUp, Cond.selects RX3 yX3_setsUp yX3_setsUp, Cond.code yX3_setsUp cX3_setsUp 3 (some .boolean)]
def wsX5_findFaults : List Cond := .code yX5_findFaults cX5_findFaults 2 none :: ((wsX5_findFaults_r1 ++ (wsX5_findFaults_r2 ++ (wsX5_findFaults_r3 ++ (wsX5_findFaults_r4 ++ wsX5_findFaults_r5)))) ++ wsX50 ++ wsX10 ++ wsX20 ++ wsX40 ++ wsX30)
def wsX5_faults_r1 : List Cond := [Cond.fieldLink RX5 56 "LotRules" "found" "LLotRules$FaultList;", Cond.fieldLink RX5 143 "LotRules$FaultList" "size" "I", Cond.methodLink RX5 140 yX5_findFaults, Cond.instanceMethod yX5_findFaults, Cond.selects RX5 yX5_findFaults yX5_findFaults, Cond.initialized RX5, Cond.code yX5_findFaults cX5_findFaults 2 none, Cond.fieldLink RX5 33 "LotRules" "itemCount" "I", Cond.fieldLink RX5 49 "LotRules" "machine" "LLotRules$Machine;", Cond.fieldLink RX5 26 "LotRules" "items" "[LLotRules$Item;", Cond.fieldLink RX5 20 "LotRules" "last" "I", Cond.methodLink RX5 105 yX5_runItem, Cond.instanceMethod yX5_runItem, Cond.selects RX5 yX5_runItem yX5_runItem, Cond.code yX5_runItem cX5_runItem 4 none, Cond.fieldLink RX5 108 "LotRules$Item" "store" "LLotRules$Store;", Cond.fieldLink RX5 71 "LotRules$Item" "numbers" "[I", Cond.methodLink RX5 173 yX4_begin, Cond.instanceMethod yX4_begin, Cond.selects RX4 yX4_begin yX4_begin, Cond.initialized RX4, Cond.code yX4_begin cX4_begin 2 none, Cond.fieldLink RX4 7 "LotRules$Store" "stocks" "[I", Cond.fieldLink RX4 16 "LotRules$Store" "left" "[I"]
def wsX5_faults_r2 : List Cond := [Cond.methodLink RX5 176 yX2_coming, Cond.instanceMethod yX2_coming, Cond.selects RX2 yX2_coming yX2_coming, Cond.initialized RX2, Cond.code yX2_coming cX2_coming 3 (some .int), Cond.fieldLink RX2 9 "LotRules$Item" "numbers" "[I", Cond.fieldLink RX2 18 "LotRules$Item" "lots" "[I", Cond.methodLink RX5 97 yX5_grossOf, Cond.instanceMethod yX5_grossOf, Cond.selects RX5 yX5_grossOf yX5_grossOf, Cond.code yX5_grossOf cX5_grossOf 5 (some .int), Cond.fieldLink RX5 84 "LotRules$Item" "needs" "[I", Cond.fieldLink RX5 91 "LotRules$Item" "timesPartOf" "[I", Cond.fieldLink RX5 94 "LotRules$Item" "lots" "[I", Cond.methodLink RX5 180 yX4_pass, Cond.instanceMethod yX4_pass, Cond.selects RX4 yX4_pass yX4_pass, Cond.code yX4_pass cX4_pass 5 none, Cond.fieldLink RX4 13 "LotRules$Store" "losses" "[I", Cond.methodLink RX4 19 yX4_owedAt, Cond.instanceMethod yX4_owedAt, Cond.selects RX4 yX4_owedAt yX4_owedAt, Cond.code yX4_owedAt cX4_owedAt 2 (some .int), Cond.methodLink RX4 30 Lib.Math.max.name]
def wsX5_faults_r3 : List Cond := [Cond.static Lib.Math.max.name, Cond.initialized "java/lang/Math", Cond.code Lib.Math.max.name Lib.Math.max.code 2 (some .int), Cond.methodLink RX4 23 yX4_take, Cond.instanceMethod yX4_take, Cond.selects RX4 yX4_take yX4_take, Cond.code yX4_take cX4_take 6 none, Cond.methodLink RX4 36 Lib.Math.min.name, Cond.static Lib.Math.min.name, Cond.code Lib.Math.min.name Lib.Math.min.code 2 (some .int), Cond.methodLink RX4 27 yX4_spoil, Cond.instanceMethod yX4_spoil, Cond.selects RX4 yX4_spoil yX4_spoil, Cond.code yX4_spoil cX4_spoil 3 (some .int), Cond.methodLink RX5 120 yX3_follow, Cond.instanceMethod yX3_follow, Cond.selects RX3 yX3_follow yX3_follow, Cond.initialized RX3, Cond.code yX3_follow cX3_follow 6 none, Cond.fieldLink RX3 15 "LotRules$Machine" "standing" "[I", Cond.fieldLink RX3 9 "LotRules$Machine" "setUps" "[I", Cond.fieldLink RX3 18 "LotRules$Item" "lots" "[I", Cond.methodLink RX5 200 yX5_findOwing, Cond.instanceMethod yX5_findOwing]
def wsX5_faults_r4 : List Cond := [Cond.selects RX5 yX5_findOwing yX5_findOwing, Cond.code yX5_findOwing cX5_findOwing 4 none, Cond.methodLink RX5 209 yX4_owedAt, Cond.methodLink RX5 212 yX1_put, Cond.instanceMethod yX1_put, Cond.selects RX1 yX1_put yX1_put, Cond.initialized RX1, Cond.code yX1_put cX1_put 6 none, Cond.fieldLink RX1 9 "LotRules$FaultList" "size" "I", Cond.fieldLink RX1 15 "LotRules$FaultList" "cells" "[I", Cond.methodLink RX5 203 yX5_findBelowLeast, Cond.instanceMethod yX5_findBelowLeast, Cond.selects RX5 yX5_findBelowLeast yX5_findBelowLeast, Cond.code yX5_findBelowLeast cX5_findBelowLeast 5 none, Cond.methodLink RX5 206 yX5_findAboveMostOver, Cond.instanceMethod yX5_findAboveMostOver, Cond.selects RX5 yX5_findAboveMostOver yX5_findAboveMostOver, Cond.code yX5_findAboveMostOver cX5_findAboveMostOver 4 none, Cond.fieldLink RX5 43 "LotRules" "overs" "[I", Cond.methodLink RX5 197 yX5_overOf, Cond.instanceMethod yX5_overOf, Cond.selects RX5 yX5_overOf yX5_overOf, Cond.code yX5_overOf cX5_overOf 2 (some .long), Cond.fieldLink RX5 36 "LotRules" "capacities" "[I"]
def wsX5_faults_r5 : List Cond := [Cond.methodLink RX5 184 Lib.MathLoose.max_long.x, Cond.static Lib.MathLoose.max_long.x, Cond.code Lib.MathLoose.max_long.x Lib.MathLoose.max_long.code 4 (some .long), Cond.methodLink RX5 130 yX5_timeOf, Cond.instanceMethod yX5_timeOf, Cond.selects RX5 yX5_timeOf yX5_timeOf, Cond.code yX5_timeOf cX5_timeOf 5 (some .long), Cond.methodLink RX5 124 yX3_setsUp, Cond.instanceMethod yX3_setsUp, Cond.selects RX3 yX3_setsUp yX3_setsUp, Cond.code yX3_setsUp cX3_setsUp 3 (some .boolean)]
def wsX5_faults : List Cond := .code yX5_faults cX5_faults 1 (some .int) :: ((wsX5_faults_r1 ++ (wsX5_faults_r2 ++ (wsX5_faults_r3 ++ (wsX5_faults_r4 ++ wsX5_faults_r5)))) ++ wsX50 ++ wsX10 ++ wsX20 ++ wsX40 ++ wsX30)
def wsX5_fault_r1 : List Cond := [Cond.fieldLink RX5 56 "LotRules" "found" "LLotRules$FaultList;", Cond.fieldLink RX5 143 "LotRules$FaultList" "size" "I", Cond.methodLink RX5 140 yX5_findFaults, Cond.instanceMethod yX5_findFaults, Cond.selects RX5 yX5_findFaults yX5_findFaults, Cond.initialized RX5, Cond.code yX5_findFaults cX5_findFaults 2 none, Cond.fieldLink RX5 33 "LotRules" "itemCount" "I", Cond.fieldLink RX5 49 "LotRules" "machine" "LLotRules$Machine;", Cond.fieldLink RX5 26 "LotRules" "items" "[LLotRules$Item;", Cond.fieldLink RX5 20 "LotRules" "last" "I", Cond.methodLink RX5 105 yX5_runItem, Cond.instanceMethod yX5_runItem, Cond.selects RX5 yX5_runItem yX5_runItem, Cond.code yX5_runItem cX5_runItem 4 none, Cond.fieldLink RX5 108 "LotRules$Item" "store" "LLotRules$Store;", Cond.fieldLink RX5 71 "LotRules$Item" "numbers" "[I", Cond.methodLink RX5 173 yX4_begin, Cond.instanceMethod yX4_begin, Cond.selects RX4 yX4_begin yX4_begin, Cond.initialized RX4, Cond.code yX4_begin cX4_begin 2 none, Cond.fieldLink RX4 7 "LotRules$Store" "stocks" "[I", Cond.fieldLink RX4 16 "LotRules$Store" "left" "[I"]
def wsX5_fault_r2 : List Cond := [Cond.methodLink RX5 176 yX2_coming, Cond.instanceMethod yX2_coming, Cond.selects RX2 yX2_coming yX2_coming, Cond.initialized RX2, Cond.code yX2_coming cX2_coming 3 (some .int), Cond.fieldLink RX2 9 "LotRules$Item" "numbers" "[I", Cond.fieldLink RX2 18 "LotRules$Item" "lots" "[I", Cond.methodLink RX5 97 yX5_grossOf, Cond.instanceMethod yX5_grossOf, Cond.selects RX5 yX5_grossOf yX5_grossOf, Cond.code yX5_grossOf cX5_grossOf 5 (some .int), Cond.fieldLink RX5 84 "LotRules$Item" "needs" "[I", Cond.fieldLink RX5 91 "LotRules$Item" "timesPartOf" "[I", Cond.fieldLink RX5 94 "LotRules$Item" "lots" "[I", Cond.methodLink RX5 180 yX4_pass, Cond.instanceMethod yX4_pass, Cond.selects RX4 yX4_pass yX4_pass, Cond.code yX4_pass cX4_pass 5 none, Cond.fieldLink RX4 13 "LotRules$Store" "losses" "[I", Cond.methodLink RX4 19 yX4_owedAt, Cond.instanceMethod yX4_owedAt, Cond.selects RX4 yX4_owedAt yX4_owedAt, Cond.code yX4_owedAt cX4_owedAt 2 (some .int), Cond.methodLink RX4 30 Lib.Math.max.name]
def wsX5_fault_r3 : List Cond := [Cond.static Lib.Math.max.name, Cond.initialized "java/lang/Math", Cond.code Lib.Math.max.name Lib.Math.max.code 2 (some .int), Cond.methodLink RX4 23 yX4_take, Cond.instanceMethod yX4_take, Cond.selects RX4 yX4_take yX4_take, Cond.code yX4_take cX4_take 6 none, Cond.methodLink RX4 36 Lib.Math.min.name, Cond.static Lib.Math.min.name, Cond.code Lib.Math.min.name Lib.Math.min.code 2 (some .int), Cond.methodLink RX4 27 yX4_spoil, Cond.instanceMethod yX4_spoil, Cond.selects RX4 yX4_spoil yX4_spoil, Cond.code yX4_spoil cX4_spoil 3 (some .int), Cond.methodLink RX5 120 yX3_follow, Cond.instanceMethod yX3_follow, Cond.selects RX3 yX3_follow yX3_follow, Cond.initialized RX3, Cond.code yX3_follow cX3_follow 6 none, Cond.fieldLink RX3 15 "LotRules$Machine" "standing" "[I", Cond.fieldLink RX3 9 "LotRules$Machine" "setUps" "[I", Cond.fieldLink RX3 18 "LotRules$Item" "lots" "[I", Cond.methodLink RX5 200 yX5_findOwing, Cond.instanceMethod yX5_findOwing]
def wsX5_fault_r4 : List Cond := [Cond.selects RX5 yX5_findOwing yX5_findOwing, Cond.code yX5_findOwing cX5_findOwing 4 none, Cond.methodLink RX5 209 yX4_owedAt, Cond.methodLink RX5 212 yX1_put, Cond.instanceMethod yX1_put, Cond.selects RX1 yX1_put yX1_put, Cond.initialized RX1, Cond.code yX1_put cX1_put 6 none, Cond.fieldLink RX1 9 "LotRules$FaultList" "size" "I", Cond.fieldLink RX1 15 "LotRules$FaultList" "cells" "[I", Cond.methodLink RX5 203 yX5_findBelowLeast, Cond.instanceMethod yX5_findBelowLeast, Cond.selects RX5 yX5_findBelowLeast yX5_findBelowLeast, Cond.code yX5_findBelowLeast cX5_findBelowLeast 5 none, Cond.methodLink RX5 206 yX5_findAboveMostOver, Cond.instanceMethod yX5_findAboveMostOver, Cond.selects RX5 yX5_findAboveMostOver yX5_findAboveMostOver, Cond.code yX5_findAboveMostOver cX5_findAboveMostOver 4 none, Cond.fieldLink RX5 43 "LotRules" "overs" "[I", Cond.methodLink RX5 197 yX5_overOf, Cond.instanceMethod yX5_overOf, Cond.selects RX5 yX5_overOf yX5_overOf, Cond.code yX5_overOf cX5_overOf 2 (some .long), Cond.fieldLink RX5 36 "LotRules" "capacities" "[I"]
def wsX5_fault_r5 : List Cond := [Cond.methodLink RX5 184 Lib.MathLoose.max_long.x, Cond.static Lib.MathLoose.max_long.x, Cond.code Lib.MathLoose.max_long.x Lib.MathLoose.max_long.code 4 (some .long), Cond.methodLink RX5 130 yX5_timeOf, Cond.instanceMethod yX5_timeOf, Cond.selects RX5 yX5_timeOf yX5_timeOf, Cond.code yX5_timeOf cX5_timeOf 5 (some .long), Cond.methodLink RX5 124 yX3_setsUp, Cond.instanceMethod yX3_setsUp, Cond.selects RX3 yX3_setsUp yX3_setsUp, Cond.code yX3_setsUp cX3_setsUp 3 (some .boolean), Cond.methodLink RX5 146 yX1_cell, Cond.instanceMethod yX1_cell, Cond.selects RX1 yX1_cell yX1_cell, Cond.code yX1_cell cX1_cell 3 (some .int)]
def wsX5_fault : List Cond := .code yX5_fault cX5_fault 3 (some .int) :: ((wsX5_fault_r1 ++ (wsX5_fault_r2 ++ (wsX5_fault_r3 ++ (wsX5_fault_r4 ++ wsX5_fault_r5)))) ++ wsX50 ++ wsX10 ++ wsX20 ++ wsX40 ++ wsX30)
def wsX5_best_r1 : List Cond := [Cond.constantLong RX5 103 (-9223372036854775808), Cond.fieldLink RX5 63 "LotRules" "alone" "LLotRules$Alone;", Cond.fieldLink RX5 26 "LotRules" "items" "[LLotRules$Item;", Cond.fieldLink RX5 153 "LotRules$Alone" "costs" "[J", Cond.methodLink RX5 67 yX5_isItem, Cond.instanceMethod yX5_isItem, Cond.selects RX5 yX5_isItem yX5_isItem, Cond.initialized RX5, Cond.code yX5_isItem cX5_isItem 2 (some .boolean), Cond.fieldLink RX5 33 "LotRules" "itemCount" "I", Cond.methodLink RX5 149 yX0_plan, Cond.instanceMethod yX0_plan, Cond.selects RX0 yX0_plan yX0_plan, Cond.initialized RX0, Cond.code yX0_plan cX0_plan 3 none, Cond.fieldLink RX0 29 "LotRules$Item" "needs" "[I", Cond.fieldLink RX0 34 "LotRules$Item" "numbers" "[I", Cond.fieldLink RX0 9 "LotRules$Alone" "last" "I", Cond.methodLink RX0 37 yX0_findNets, Cond.instanceMethod yX0_findNets, Cond.selects RX0 yX0_findNets yX0_findNets, Cond.code yX0_findNets cX0_findNets 6 none, Cond.methodLink RX0 48 Lib.Math.min.name, Cond.static Lib.Math.min.name]
def wsX5_best_r2 : List Cond := [Cond.initialized "java/lang/Math", Cond.code Lib.Math.min.name Lib.Math.min.code 2 (some .int), Cond.fieldLink RX0 15 "LotRules$Alone" "nets" "[I", Cond.methodLink RX0 41 yX0_choose, Cond.instanceMethod yX0_choose, Cond.selects RX0 yX0_choose yX0_choose, Cond.code yX0_choose cX0_choose 15 none, Cond.fieldLink RX0 19 "LotRules$Alone" "costs" "[J", Cond.constantLong RX0 56 (9223372036854775807), Cond.fieldLink RX0 23 "LotRules$Alone" "untils" "[I", Cond.methodLink RX0 45 yX0_followChoices, Cond.instanceMethod yX0_followChoices, Cond.selects RX0 yX0_followChoices yX0_followChoices, Cond.code yX0_followChoices cX0_followChoices 3 none, Cond.fieldLink RX0 26 "LotRules$Alone" "amounts" "[I", Cond.methodLink RX0 61 Lib.Math.max.name, Cond.static Lib.Math.max.name, Cond.code Lib.Math.max.name Lib.Math.max.code 2 (some .int), Cond.methodLink RX0 58 yX0_sumOfNets, Cond.instanceMethod yX0_sumOfNets, Cond.selects RX0 yX0_sumOfNets yX0_sumOfNets, Cond.code yX0_sumOfNets cX0_sumOfNets 5 (some .int)]
def wsX5_best : List Cond := .code yX5_best cX5_best 2 (some .long) :: ((wsX5_best_r1 ++ wsX5_best_r2) ++ wsX50 ++ wsX00 ++ wsX20)
def wsX5_lot_r1 : List Cond := [Cond.fieldLink RX5 63 "LotRules" "alone" "LLotRules$Alone;", Cond.fieldLink RX5 26 "LotRules" "items" "[LLotRules$Item;", Cond.fieldLink RX5 157 "LotRules$Alone" "amounts" "[I", Cond.methodLink RX5 67 yX5_isItem, Cond.instanceMethod yX5_isItem, Cond.selects RX5 yX5_isItem yX5_isItem, Cond.initialized RX5, Cond.code yX5_isItem cX5_isItem 2 (some .boolean), Cond.fieldLink RX5 33 "LotRules" "itemCount" "I", Cond.methodLink RX5 81 yX5_isPeriod, Cond.instanceMethod yX5_isPeriod, Cond.selects RX5 yX5_isPeriod yX5_isPeriod, Cond.code yX5_isPeriod cX5_isPeriod 2 (some .boolean), Cond.fieldLink RX5 20 "LotRules" "last" "I", Cond.methodLink RX5 149 yX0_plan, Cond.instanceMethod yX0_plan, Cond.selects RX0 yX0_plan yX0_plan, Cond.initialized RX0, Cond.code yX0_plan cX0_plan 3 none, Cond.fieldLink RX0 29 "LotRules$Item" "needs" "[I", Cond.fieldLink RX0 34 "LotRules$Item" "numbers" "[I", Cond.fieldLink RX0 9 "LotRules$Alone" "last" "I", Cond.methodLink RX0 37 yX0_findNets, Cond.instanceMethod yX0_findNets]
def wsX5_lot_r2 : List Cond := [Cond.selects RX0 yX0_findNets yX0_findNets, Cond.code yX0_findNets cX0_findNets 6 none, Cond.methodLink RX0 48 Lib.Math.min.name, Cond.static Lib.Math.min.name, Cond.initialized "java/lang/Math", Cond.code Lib.Math.min.name Lib.Math.min.code 2 (some .int), Cond.fieldLink RX0 15 "LotRules$Alone" "nets" "[I", Cond.methodLink RX0 41 yX0_choose, Cond.instanceMethod yX0_choose, Cond.selects RX0 yX0_choose yX0_choose, Cond.code yX0_choose cX0_choose 15 none, Cond.fieldLink RX0 19 "LotRules$Alone" "costs" "[J", Cond.constantLong RX0 56 (9223372036854775807), Cond.fieldLink RX0 23 "LotRules$Alone" "untils" "[I", Cond.methodLink RX0 45 yX0_followChoices, Cond.instanceMethod yX0_followChoices, Cond.selects RX0 yX0_followChoices yX0_followChoices, Cond.code yX0_followChoices cX0_followChoices 3 none, Cond.fieldLink RX0 26 "LotRules$Alone" "amounts" "[I", Cond.methodLink RX0 61 Lib.Math.max.name, Cond.static Lib.Math.max.name, Cond.code Lib.Math.max.name Lib.Math.max.code 2 (some .int), Cond.methodLink RX0 58 yX0_sumOfNets, Cond.instanceMethod yX0_sumOfNets]
def wsX5_lot_r3 : List Cond := [Cond.selects RX0 yX0_sumOfNets yX0_sumOfNets, Cond.code yX0_sumOfNets cX0_sumOfNets 5 (some .int)]
def wsX5_lot : List Cond := .code yX5_lot cX5_lot 3 (some .int) :: ((wsX5_lot_r1 ++ (wsX5_lot_r2 ++ wsX5_lot_r3)) ++ wsX50 ++ wsX00 ++ wsX20)
def wsX5_from_r1 : List Cond := [Cond.fieldLink RX5 20 "LotRules" "last" "I", Cond.constantLong RX5 103 (-9223372036854775808), Cond.fieldLink RX5 63 "LotRules" "alone" "LLotRules$Alone;", Cond.fieldLink RX5 26 "LotRules" "items" "[LLotRules$Item;", Cond.fieldLink RX5 153 "LotRules$Alone" "costs" "[J", Cond.methodLink RX5 67 yX5_isItem, Cond.instanceMethod yX5_isItem, Cond.selects RX5 yX5_isItem yX5_isItem, Cond.initialized RX5, Cond.code yX5_isItem cX5_isItem 2 (some .boolean), Cond.fieldLink RX5 33 "LotRules" "itemCount" "I", Cond.methodLink RX5 149 yX0_plan, Cond.instanceMethod yX0_plan, Cond.selects RX0 yX0_plan yX0_plan, Cond.initialized RX0, Cond.code yX0_plan cX0_plan 3 none, Cond.fieldLink RX0 29 "LotRules$Item" "needs" "[I", Cond.fieldLink RX0 34 "LotRules$Item" "numbers" "[I", Cond.fieldLink RX0 9 "LotRules$Alone" "last" "I", Cond.methodLink RX0 37 yX0_findNets, Cond.instanceMethod yX0_findNets, Cond.selects RX0 yX0_findNets yX0_findNets, Cond.code yX0_findNets cX0_findNets 6 none, Cond.methodLink RX0 48 Lib.Math.min.name]
def wsX5_from_r2 : List Cond := [Cond.static Lib.Math.min.name, Cond.initialized "java/lang/Math", Cond.code Lib.Math.min.name Lib.Math.min.code 2 (some .int), Cond.fieldLink RX0 15 "LotRules$Alone" "nets" "[I", Cond.methodLink RX0 41 yX0_choose, Cond.instanceMethod yX0_choose, Cond.selects RX0 yX0_choose yX0_choose, Cond.code yX0_choose cX0_choose 15 none, Cond.fieldLink RX0 19 "LotRules$Alone" "costs" "[J", Cond.constantLong RX0 56 (9223372036854775807), Cond.fieldLink RX0 23 "LotRules$Alone" "untils" "[I", Cond.methodLink RX0 45 yX0_followChoices, Cond.instanceMethod yX0_followChoices, Cond.selects RX0 yX0_followChoices yX0_followChoices, Cond.code yX0_followChoices cX0_followChoices 3 none, Cond.fieldLink RX0 26 "LotRules$Alone" "amounts" "[I", Cond.methodLink RX0 61 Lib.Math.max.name, Cond.static Lib.Math.max.name, Cond.code Lib.Math.max.name Lib.Math.max.code 2 (some .int), Cond.methodLink RX0 58 yX0_sumOfNets, Cond.instanceMethod yX0_sumOfNets, Cond.selects RX0 yX0_sumOfNets yX0_sumOfNets, Cond.code yX0_sumOfNets cX0_sumOfNets 5 (some .int)]
def wsX5_from : List Cond := .code yX5_from cX5_from 3 (some .long) :: ((wsX5_from_r1 ++ wsX5_from_r2) ++ wsX50 ++ wsX00 ++ wsX20)
def wsX5_share_r1 : List Cond := [Cond.classLink RX5 160 "java/lang/ArithmeticException", Cond.initialized "java/lang/ArithmeticException", Cond.constantLong RX5 103 (-9223372036854775808), Cond.constantLong RX5 167 (1000), Cond.methodLink RX5 134 yX5_isPrice, Cond.static yX5_isPrice, Cond.initialized RX5, Cond.code yX5_isPrice cX5_isPrice 1 (some .boolean), Cond.methodLink RX5 137 yX5_priceOf, Cond.instanceMethod yX5_priceOf, Cond.selects RX5 yX5_priceOf yX5_priceOf, Cond.code yX5_priceOf cX5_priceOf 2 (some .long), Cond.methodLink RX5 187 yX5_setUpPrices, Cond.instanceMethod yX5_setUpPrices, Cond.selects RX5 yX5_setUpPrices yX5_setUpPrices, Cond.code yX5_setUpPrices cX5_setUpPrices 5 (some .long), Cond.fieldLink RX5 49 "LotRules" "machine" "LLotRules$Machine;", Cond.fieldLink RX5 26 "LotRules" "items" "[LLotRules$Item;", Cond.fieldLink RX5 33 "LotRules" "itemCount" "I", Cond.fieldLink RX5 20 "LotRules" "last" "I", Cond.fieldLink RX5 71 "LotRules$Item" "numbers" "[I", Cond.methodLink RX5 120 yX3_follow, Cond.instanceMethod yX3_follow, Cond.selects RX3 yX3_follow yX3_follow]
def wsX5_share_r2 : List Cond := [Cond.initialized RX3, Cond.code yX3_follow cX3_follow 6 none, Cond.fieldLink RX3 15 "LotRules$Machine" "standing" "[I", Cond.fieldLink RX3 9 "LotRules$Machine" "setUps" "[I", Cond.fieldLink RX3 18 "LotRules$Item" "lots" "[I", Cond.methodLink RX5 124 yX3_setsUp, Cond.instanceMethod yX3_setsUp, Cond.selects RX3 yX3_setsUp yX3_setsUp, Cond.code yX3_setsUp cX3_setsUp 3 (some .boolean), Cond.methodLink RX5 191 yX5_holdPrices, Cond.instanceMethod yX5_holdPrices, Cond.selects RX5 yX5_holdPrices yX5_holdPrices, Cond.code yX5_holdPrices cX5_holdPrices 5 (some .long), Cond.fieldLink RX5 108 "LotRules$Item" "store" "LLotRules$Store;", Cond.fieldLink RX5 112 "LotRules$Store" "stocks" "[I", Cond.methodLink RX5 17 Lib.Math.max.name, Cond.static Lib.Math.max.name, Cond.initialized "java/lang/Math", Cond.code Lib.Math.max.name Lib.Math.max.code 2 (some .int), Cond.methodLink RX5 105 yX5_runItem, Cond.instanceMethod yX5_runItem, Cond.selects RX5 yX5_runItem yX5_runItem, Cond.code yX5_runItem cX5_runItem 4 none, Cond.methodLink RX5 173 yX4_begin]
def wsX5_share_r3 : List Cond := [Cond.instanceMethod yX4_begin, Cond.selects RX4 yX4_begin yX4_begin, Cond.initialized RX4, Cond.code yX4_begin cX4_begin 2 none, Cond.fieldLink RX4 7 "LotRules$Store" "stocks" "[I", Cond.fieldLink RX4 16 "LotRules$Store" "left" "[I", Cond.methodLink RX5 176 yX2_coming, Cond.instanceMethod yX2_coming, Cond.selects RX2 yX2_coming yX2_coming, Cond.initialized RX2, Cond.code yX2_coming cX2_coming 3 (some .int), Cond.fieldLink RX2 9 "LotRules$Item" "numbers" "[I", Cond.fieldLink RX2 18 "LotRules$Item" "lots" "[I", Cond.methodLink RX5 97 yX5_grossOf, Cond.instanceMethod yX5_grossOf, Cond.selects RX5 yX5_grossOf yX5_grossOf, Cond.code yX5_grossOf cX5_grossOf 5 (some .int), Cond.fieldLink RX5 84 "LotRules$Item" "needs" "[I", Cond.fieldLink RX5 91 "LotRules$Item" "timesPartOf" "[I", Cond.fieldLink RX5 94 "LotRules$Item" "lots" "[I", Cond.methodLink RX5 180 yX4_pass, Cond.instanceMethod yX4_pass, Cond.selects RX4 yX4_pass yX4_pass, Cond.code yX4_pass cX4_pass 5 none]
def wsX5_share_r4 : List Cond := [Cond.fieldLink RX4 13 "LotRules$Store" "losses" "[I", Cond.methodLink RX4 19 yX4_owedAt, Cond.instanceMethod yX4_owedAt, Cond.selects RX4 yX4_owedAt yX4_owedAt, Cond.code yX4_owedAt cX4_owedAt 2 (some .int), Cond.methodLink RX4 30 Lib.Math.max.name, Cond.methodLink RX4 23 yX4_take, Cond.instanceMethod yX4_take, Cond.selects RX4 yX4_take yX4_take, Cond.code yX4_take cX4_take 6 none, Cond.methodLink RX4 36 Lib.Math.min.name, Cond.static Lib.Math.min.name, Cond.code Lib.Math.min.name Lib.Math.min.code 2 (some .int), Cond.methodLink RX4 27 yX4_spoil, Cond.instanceMethod yX4_spoil, Cond.selects RX4 yX4_spoil yX4_spoil, Cond.code yX4_spoil cX4_spoil 3 (some .int), Cond.methodLink RX5 194 yX5_overPrices, Cond.instanceMethod yX5_overPrices, Cond.selects RX5 yX5_overPrices yX5_overPrices, Cond.code yX5_overPrices cX5_overPrices 4 (some .long), Cond.fieldLink RX5 43 "LotRules" "overs" "[I", Cond.methodLink RX5 197 yX5_overOf, Cond.instanceMethod yX5_overOf]
def wsX5_share_r5 : List Cond := [Cond.selects RX5 yX5_overOf yX5_overOf, Cond.code yX5_overOf cX5_overOf 2 (some .long), Cond.fieldLink RX5 36 "LotRules" "capacities" "[I", Cond.methodLink RX5 184 Lib.MathLoose.max_long.x, Cond.static Lib.MathLoose.max_long.x, Cond.code Lib.MathLoose.max_long.x Lib.MathLoose.max_long.code 4 (some .long), Cond.methodLink RX5 130 yX5_timeOf, Cond.instanceMethod yX5_timeOf, Cond.selects RX5 yX5_timeOf yX5_timeOf, Cond.code yX5_timeOf cX5_timeOf 5 (some .long)]
def wsX5_share : List Cond := .code yX5_share cX5_share 5 (some .long) :: ((wsX5_share_r1 ++ (wsX5_share_r2 ++ (wsX5_share_r3 ++ (wsX5_share_r4 ++ wsX5_share_r5)))) ++ wsX50 ++ wsX20 ++ wsX30 ++ wsX40 ++ (vx_atS RX5 164 "java/lang/ArithmeticException" ["java/lang/RuntimeException", "java/lang/Exception"]).filter goodWord)
def wsX6_init_r1 : List Cond := [Cond.methodLink RX6 1 objectInit, Cond.instanceMethod objectInit, Cond.code objectInit ⟨#[0xb1]⟩ 1 none, Cond.arrayClass .int, Cond.fieldLink RX6 7 "LotRulesModel" "number" "[I", Cond.fieldLink RX6 13 "LotRulesModel" "needs" "[I", Cond.fieldLink RX6 16 "LotRulesModel" "lots" "[I", Cond.fieldLink RX6 19 "LotRulesModel" "times" "[I", Cond.fieldLink RX6 22 "LotRulesModel" "room" "[I", Cond.arrayClass .boolean, Cond.fieldLink RX6 25 "LotRulesModel" "reached" "[Z", Cond.arrayClass .long, Cond.fieldLink RX6 29 "LotRulesModel" "left" "[J", Cond.fieldLink RX6 33 "LotRulesModel" "owes" "[J", Cond.fieldLink RX6 36 "LotRulesModel" "gone" "[J", Cond.fieldLink RX6 39 "LotRulesModel" "there" "[J", Cond.fieldLink RX6 42 "LotRulesModel" "stood" "[I", Cond.fieldLink RX6 45 "LotRulesModel" "setUp" "[Z", Cond.fieldLink RX6 48 "LotRulesModel" "kind" "[I", Cond.fieldLink RX6 51 "LotRulesModel" "when" "[I", Cond.fieldLink RX6 54 "LotRulesModel" "whose" "[I", Cond.fieldLink RX6 57 "LotRulesModel" "by" "[J", Cond.fieldLink RX6 60 "LotRulesModel" "owedBy" "[J", Cond.fieldLink RX6 63 "LotRulesModel" "net" "[I"]
def wsX6_init_r2 : List Cond := [Cond.fieldLink RX6 66 "LotRulesModel" "least" "[J", Cond.fieldLink RX6 69 "LotRulesModel" "most" "I"]
def wsX6_init : List Cond := .code yX6_init cX6_init 3 none :: ((wsX6_init_r1 ++ wsX6_init_r2) ++ wsX60)
def wsX6_thrown : List Cond := .code yX6_thrown cX6_thrown 1 (some .int) :: ([.fieldLink RX6 73 "LotRulesModel" "thrown" "I"] ++ wsX60)
def wsX6_in : List Cond := .code yX6_in cX6_in 3 (some .boolean) :: ([])
def wsX6_isItem : List Cond := .code yX6_isItem cX6_isItem 2 (some .boolean) :: ([.fieldLink RX6 76 "LotRulesModel" "items" "I", .methodLink RX6 79 yX6_in, .static yX6_in, .initialized RX6, .code yX6_in cX6_in 3 (some .boolean)] ++ wsX60)
def wsX6_isPeriod : List Cond := .code yX6_isPeriod cX6_isPeriod 2 (some .boolean) :: ([.fieldLink RX6 69 "LotRulesModel" "most" "I", .methodLink RX6 79 yX6_in, .static yX6_in, .initialized RX6, .code yX6_in cX6_in 3 (some .boolean)] ++ wsX60)
def wsX6_item : List Cond := .code yX6_item cX6_item 1 (some .int) :: ([.fieldLink RX6 73 "LotRulesModel" "thrown" "I", .fieldLink RX6 76 "LotRulesModel" "items" "I"] ++ wsX60)
def wsX6_bound : List Cond := .code yX6_bound cX6_bound 1 (some .int) :: ([])
def wsX6_set : List Cond := .code yX6_set cX6_set 5 (some .int) :: ([.fieldLink RX6 73 "LotRulesModel" "thrown" "I", .fieldLink RX6 7 "LotRulesModel" "number" "[I", .methodLink RX6 83 yX6_isItem, .instanceMethod yX6_isItem, .selects RX6 yX6_isItem yX6_isItem, .initialized RX6, .code yX6_isItem cX6_isItem 2 (some .boolean), .fieldLink RX6 76 "LotRulesModel" "items" "I", .methodLink RX6 79 yX6_in, .static yX6_in, .code yX6_in cX6_in 3 (some .boolean), .methodLink RX6 87 yX6_bound, .static yX6_bound, .code yX6_bound cX6_bound 1 (some .int)] ++ wsX60)
def wsX6_need : List Cond := .code yX6_need cX6_need 5 (some .int) :: ([.fieldLink RX6 73 "LotRulesModel" "thrown" "I", .fieldLink RX6 13 "LotRulesModel" "needs" "[I", .methodLink RX6 83 yX6_isItem, .instanceMethod yX6_isItem, .selects RX6 yX6_isItem yX6_isItem, .initialized RX6, .code yX6_isItem cX6_isItem 2 (some .boolean), .fieldLink RX6 76 "LotRulesModel" "items" "I", .methodLink RX6 79 yX6_in, .static yX6_in, .code yX6_in cX6_in 3 (some .boolean), .methodLink RX6 91 yX6_isPeriod, .instanceMethod yX6_isPeriod, .selects RX6 yX6_isPeriod yX6_isPeriod, .code yX6_isPeriod cX6_isPeriod 2 (some .boolean), .fieldLink RX6 69 "LotRulesModel" "most" "I"] ++ wsX60)
def wsX6_isWithin : List Cond := .code yX6_isWithin cX6_isWithin 6 (some .boolean) :: ([.fieldLink RX6 25 "LotRulesModel" "reached" "[Z", .fieldLink RX6 76 "LotRulesModel" "items" "I", .fieldLink RX6 19 "LotRulesModel" "times" "[I"] ++ wsX60)
def wsX6_part : List Cond := .code yX6_part cX6_part 5 (some .int) :: ([.fieldLink RX6 73 "LotRulesModel" "thrown" "I", .fieldLink RX6 19 "LotRulesModel" "times" "[I", .methodLink RX6 83 yX6_isItem, .instanceMethod yX6_isItem, .selects RX6 yX6_isItem yX6_isItem, .initialized RX6, .code yX6_isItem cX6_isItem 2 (some .boolean), .fieldLink RX6 76 "LotRulesModel" "items" "I", .methodLink RX6 79 yX6_in, .static yX6_in, .code yX6_in cX6_in 3 (some .boolean), .methodLink RX6 94 yX6_isWithin, .instanceMethod yX6_isWithin, .selects RX6 yX6_isWithin yX6_isWithin, .code yX6_isWithin cX6_isWithin 6 (some .boolean), .fieldLink RX6 25 "LotRulesModel" "reached" "[Z"] ++ wsX60)
def wsX6_make : List Cond := .code yX6_make cX6_make 5 (some .int) :: ([.fieldLink RX6 73 "LotRulesModel" "thrown" "I", .fieldLink RX6 16 "LotRulesModel" "lots" "[I", .methodLink RX6 83 yX6_isItem, .instanceMethod yX6_isItem, .selects RX6 yX6_isItem yX6_isItem, .initialized RX6, .code yX6_isItem cX6_isItem 2 (some .boolean), .fieldLink RX6 76 "LotRulesModel" "items" "I", .methodLink RX6 79 yX6_in, .static yX6_in, .code yX6_in cX6_in 3 (some .boolean), .methodLink RX6 91 yX6_isPeriod, .instanceMethod yX6_isPeriod, .selects RX6 yX6_isPeriod yX6_isPeriod, .code yX6_isPeriod cX6_isPeriod 2 (some .boolean), .fieldLink RX6 69 "LotRulesModel" "most" "I"] ++ wsX60)
def wsX6_capacity : List Cond := .code yX6_capacity cX6_capacity 4 (some .int) :: ([.fieldLink RX6 73 "LotRulesModel" "thrown" "I", .fieldLink RX6 22 "LotRulesModel" "room" "[I", .methodLink RX6 91 yX6_isPeriod, .instanceMethod yX6_isPeriod, .selects RX6 yX6_isPeriod yX6_isPeriod, .initialized RX6, .code yX6_isPeriod cX6_isPeriod 2 (some .boolean), .fieldLink RX6 69 "LotRulesModel" "most" "I", .methodLink RX6 79 yX6_in, .static yX6_in, .code yX6_in cX6_in 3 (some .boolean)] ++ wsX60)
def wsX6_over : List Cond := .code yX6_over cX6_over 4 (some .int) :: ([.fieldLink RX6 73 "LotRulesModel" "thrown" "I", .fieldLink RX6 98 "LotRulesModel" "overPrice" "I", .fieldLink RX6 101 "LotRulesModel" "mostOver" "I", .methodLink RX6 79 yX6_in, .static yX6_in, .initialized RX6, .code yX6_in cX6_in 3 (some .boolean)] ++ wsX60)
def wsX6_grossOf : List Cond := .code yX6_grossOf cX6_grossOf 5 (some .int) :: ([.fieldLink RX6 13 "LotRulesModel" "needs" "[I", .fieldLink RX6 76 "LotRulesModel" "items" "I", .fieldLink RX6 19 "LotRulesModel" "times" "[I", .fieldLink RX6 16 "LotRulesModel" "lots" "[I"] ++ wsX60)
def wsX6_gross : List Cond := .code yX6_gross cX6_gross 3 (some .int) :: ([.fieldLink RX6 73 "LotRulesModel" "thrown" "I", .methodLink RX6 83 yX6_isItem, .instanceMethod yX6_isItem, .selects RX6 yX6_isItem yX6_isItem, .initialized RX6, .code yX6_isItem cX6_isItem 2 (some .boolean), .fieldLink RX6 76 "LotRulesModel" "items" "I", .methodLink RX6 79 yX6_in, .static yX6_in, .code yX6_in cX6_in 3 (some .boolean), .methodLink RX6 91 yX6_isPeriod, .instanceMethod yX6_isPeriod, .selects RX6 yX6_isPeriod yX6_isPeriod, .code yX6_isPeriod cX6_isPeriod 2 (some .boolean), .fieldLink RX6 69 "LotRulesModel" "most" "I", .methodLink RX6 104 yX6_grossOf, .instanceMethod yX6_grossOf, .selects RX6 yX6_grossOf yX6_grossOf, .code yX6_grossOf cX6_grossOf 5 (some .int), .fieldLink RX6 13 "LotRulesModel" "needs" "[I", .fieldLink RX6 19 "LotRulesModel" "times" "[I", .fieldLink RX6 16 "LotRulesModel" "lots" "[I"] ++ wsX60)
def wsX6_run : List Cond := .code yX6_run cX6_run 12 none :: ([.fieldLink RX6 7 "LotRulesModel" "number" "[I", .fieldLink RX6 29 "LotRulesModel" "left" "[J", .fieldLink RX6 33 "LotRulesModel" "owes" "[J", .fieldLink RX6 36 "LotRulesModel" "gone" "[J", .fieldLink RX6 39 "LotRulesModel" "there" "[J", .fieldLink RX6 69 "LotRulesModel" "most" "I", .fieldLink RX6 16 "LotRulesModel" "lots" "[I", .methodLink RX6 104 yX6_grossOf, .instanceMethod yX6_grossOf, .selects RX6 yX6_grossOf yX6_grossOf, .initialized RX6, .code yX6_grossOf cX6_grossOf 5 (some .int), .fieldLink RX6 13 "LotRulesModel" "needs" "[I", .fieldLink RX6 76 "LotRulesModel" "items" "I", .fieldLink RX6 19 "LotRulesModel" "times" "[I"] ++ wsX60)
def wsX6_stock_r1 : List Cond := [Cond.fieldLink RX6 73 "LotRulesModel" "thrown" "I", Cond.fieldLink RX6 69 "LotRulesModel" "most" "I", Cond.constantLong RX6 108 (-9223372036854775808), Cond.fieldLink RX6 39 "LotRulesModel" "there" "[J", Cond.fieldLink RX6 33 "LotRulesModel" "owes" "[J", Cond.methodLink RX6 83 yX6_isItem, Cond.instanceMethod yX6_isItem, Cond.selects RX6 yX6_isItem yX6_isItem, Cond.initialized RX6, Cond.code yX6_isItem cX6_isItem 2 (some .boolean), Cond.fieldLink RX6 76 "LotRulesModel" "items" "I", Cond.methodLink RX6 79 yX6_in, Cond.static yX6_in, Cond.code yX6_in cX6_in 3 (some .boolean), Cond.methodLink RX6 110 yX6_run, Cond.instanceMethod yX6_run, Cond.selects RX6 yX6_run yX6_run, Cond.code yX6_run cX6_run 12 none, Cond.fieldLink RX6 7 "LotRulesModel" "number" "[I", Cond.fieldLink RX6 29 "LotRulesModel" "left" "[J", Cond.fieldLink RX6 36 "LotRulesModel" "gone" "[J", Cond.fieldLink RX6 16 "LotRulesModel" "lots" "[I", Cond.methodLink RX6 104 yX6_grossOf, Cond.instanceMethod yX6_grossOf]
def wsX6_stock_r2 : List Cond := [Cond.selects RX6 yX6_grossOf yX6_grossOf, Cond.code yX6_grossOf cX6_grossOf 5 (some .int), Cond.fieldLink RX6 13 "LotRulesModel" "needs" "[I", Cond.fieldLink RX6 19 "LotRulesModel" "times" "[I"]
def wsX6_stock : List Cond := .code yX6_stock cX6_stock 3 (some .long) :: ((wsX6_stock_r1 ++ wsX6_stock_r2) ++ wsX60)
def wsX6_spoilt_r1 : List Cond := [Cond.fieldLink RX6 73 "LotRulesModel" "thrown" "I", Cond.fieldLink RX6 36 "LotRulesModel" "gone" "[J", Cond.methodLink RX6 83 yX6_isItem, Cond.instanceMethod yX6_isItem, Cond.selects RX6 yX6_isItem yX6_isItem, Cond.initialized RX6, Cond.code yX6_isItem cX6_isItem 2 (some .boolean), Cond.fieldLink RX6 76 "LotRulesModel" "items" "I", Cond.methodLink RX6 79 yX6_in, Cond.static yX6_in, Cond.code yX6_in cX6_in 3 (some .boolean), Cond.methodLink RX6 91 yX6_isPeriod, Cond.instanceMethod yX6_isPeriod, Cond.selects RX6 yX6_isPeriod yX6_isPeriod, Cond.code yX6_isPeriod cX6_isPeriod 2 (some .boolean), Cond.fieldLink RX6 69 "LotRulesModel" "most" "I", Cond.methodLink RX6 110 yX6_run, Cond.instanceMethod yX6_run, Cond.selects RX6 yX6_run yX6_run, Cond.code yX6_run cX6_run 12 none, Cond.fieldLink RX6 7 "LotRulesModel" "number" "[I", Cond.fieldLink RX6 29 "LotRulesModel" "left" "[J", Cond.fieldLink RX6 33 "LotRulesModel" "owes" "[J", Cond.fieldLink RX6 39 "LotRulesModel" "there" "[J"]
def wsX6_spoilt_r2 : List Cond := [Cond.fieldLink RX6 16 "LotRulesModel" "lots" "[I", Cond.methodLink RX6 104 yX6_grossOf, Cond.instanceMethod yX6_grossOf, Cond.selects RX6 yX6_grossOf yX6_grossOf, Cond.code yX6_grossOf cX6_grossOf 5 (some .int), Cond.fieldLink RX6 13 "LotRulesModel" "needs" "[I", Cond.fieldLink RX6 19 "LotRulesModel" "times" "[I"]
def wsX6_spoilt : List Cond := .code yX6_spoilt cX6_spoilt 3 (some .int) :: ((wsX6_spoilt_r1 ++ wsX6_spoilt_r2) ++ wsX60)
def wsX6_machine : List Cond := .code yX6_machine cX6_machine 4 none :: ([.fieldLink RX6 42 "LotRulesModel" "stood" "[I", .fieldLink RX6 69 "LotRulesModel" "most" "I", .fieldLink RX6 76 "LotRulesModel" "items" "I", .fieldLink RX6 16 "LotRulesModel" "lots" "[I", .fieldLink RX6 45 "LotRulesModel" "setUp" "[Z"] ++ wsX60)
def wsX6_isSetUp : List Cond := .code yX6_isSetUp cX6_isSetUp 3 (some .int) :: ([.fieldLink RX6 73 "LotRulesModel" "thrown" "I", .fieldLink RX6 45 "LotRulesModel" "setUp" "[Z", .methodLink RX6 83 yX6_isItem, .instanceMethod yX6_isItem, .selects RX6 yX6_isItem yX6_isItem, .initialized RX6, .code yX6_isItem cX6_isItem 2 (some .boolean), .fieldLink RX6 76 "LotRulesModel" "items" "I", .methodLink RX6 79 yX6_in, .static yX6_in, .code yX6_in cX6_in 3 (some .boolean), .methodLink RX6 91 yX6_isPeriod, .instanceMethod yX6_isPeriod, .selects RX6 yX6_isPeriod yX6_isPeriod, .code yX6_isPeriod cX6_isPeriod 2 (some .boolean), .fieldLink RX6 69 "LotRulesModel" "most" "I", .methodLink RX6 114 yX6_machine, .instanceMethod yX6_machine, .selects RX6 yX6_machine yX6_machine, .code yX6_machine cX6_machine 4 none, .fieldLink RX6 42 "LotRulesModel" "stood" "[I", .fieldLink RX6 16 "LotRulesModel" "lots" "[I"] ++ wsX60)
def wsX6_stands : List Cond := .code yX6_stands cX6_stands 2 (some .int) :: ([.fieldLink RX6 73 "LotRulesModel" "thrown" "I", .fieldLink RX6 69 "LotRulesModel" "most" "I", .fieldLink RX6 42 "LotRulesModel" "stood" "[I", .methodLink RX6 79 yX6_in, .static yX6_in, .initialized RX6, .code yX6_in cX6_in 3 (some .boolean), .methodLink RX6 114 yX6_machine, .instanceMethod yX6_machine, .selects RX6 yX6_machine yX6_machine, .code yX6_machine cX6_machine 4 none, .fieldLink RX6 76 "LotRulesModel" "items" "I", .fieldLink RX6 16 "LotRulesModel" "lots" "[I", .fieldLink RX6 45 "LotRulesModel" "setUp" "[Z"] ++ wsX60)
def wsX6_timeOf : List Cond := .code yX6_timeOf cX6_timeOf 5 (some .long) :: ([.fieldLink RX6 76 "LotRulesModel" "items" "I", .fieldLink RX6 16 "LotRulesModel" "lots" "[I", .fieldLink RX6 7 "LotRulesModel" "number" "[I", .fieldLink RX6 45 "LotRulesModel" "setUp" "[Z", .methodLink RX6 114 yX6_machine, .instanceMethod yX6_machine, .selects RX6 yX6_machine yX6_machine, .initialized RX6, .code yX6_machine cX6_machine 4 none, .fieldLink RX6 42 "LotRulesModel" "stood" "[I", .fieldLink RX6 69 "LotRulesModel" "most" "I"] ++ wsX60)
def wsX6_overOf : List Cond := .code yX6_overOf cX6_overOf 4 (some .long) :: ([.fieldLink RX6 22 "LotRulesModel" "room" "[I", .methodLink RX6 117 yX6_timeOf, .instanceMethod yX6_timeOf, .selects RX6 yX6_timeOf yX6_timeOf, .initialized RX6, .code yX6_timeOf cX6_timeOf 5 (some .long), .fieldLink RX6 76 "LotRulesModel" "items" "I", .fieldLink RX6 16 "LotRulesModel" "lots" "[I", .fieldLink RX6 7 "LotRulesModel" "number" "[I", .fieldLink RX6 45 "LotRulesModel" "setUp" "[Z", .methodLink RX6 114 yX6_machine, .instanceMethod yX6_machine, .selects RX6 yX6_machine yX6_machine, .code yX6_machine cX6_machine 4 none, .fieldLink RX6 42 "LotRulesModel" "stood" "[I", .fieldLink RX6 69 "LotRulesModel" "most" "I"] ++ wsX60)
def wsX6_time : List Cond := .code yX6_time cX6_time 2 (some .long) :: ([.fieldLink RX6 73 "LotRulesModel" "thrown" "I", .constantLong RX6 108 (-9223372036854775808), .methodLink RX6 91 yX6_isPeriod, .instanceMethod yX6_isPeriod, .selects RX6 yX6_isPeriod yX6_isPeriod, .initialized RX6, .code yX6_isPeriod cX6_isPeriod 2 (some .boolean), .fieldLink RX6 69 "LotRulesModel" "most" "I", .methodLink RX6 79 yX6_in, .static yX6_in, .code yX6_in cX6_in 3 (some .boolean), .methodLink RX6 117 yX6_timeOf, .instanceMethod yX6_timeOf, .selects RX6 yX6_timeOf yX6_timeOf, .code yX6_timeOf cX6_timeOf 5 (some .long), .fieldLink RX6 76 "LotRulesModel" "items" "I", .fieldLink RX6 16 "LotRulesModel" "lots" "[I", .fieldLink RX6 7 "LotRulesModel" "number" "[I", .fieldLink RX6 45 "LotRulesModel" "setUp" "[Z", .methodLink RX6 114 yX6_machine, .instanceMethod yX6_machine, .selects RX6 yX6_machine yX6_machine, .code yX6_machine cX6_machine 4 none, .fieldLink RX6 42 "LotRulesModel" "stood" "[I"] ++ wsX60)
def wsX6_priceOf_r1 : List Cond := [Cond.fieldLink RX6 69 "LotRulesModel" "most" "I", Cond.fieldLink RX6 98 "LotRulesModel" "overPrice" "I", Cond.fieldLink RX6 76 "LotRulesModel" "items" "I", Cond.fieldLink RX6 45 "LotRulesModel" "setUp" "[Z", Cond.fieldLink RX6 7 "LotRulesModel" "number" "[I", Cond.fieldLink RX6 39 "LotRulesModel" "there" "[J", Cond.fieldLink RX6 33 "LotRulesModel" "owes" "[J", Cond.methodLink RX6 121 yX6_overOf, Cond.instanceMethod yX6_overOf, Cond.selects RX6 yX6_overOf yX6_overOf, Cond.initialized RX6, Cond.code yX6_overOf cX6_overOf 4 (some .long), Cond.fieldLink RX6 22 "LotRulesModel" "room" "[I", Cond.methodLink RX6 117 yX6_timeOf, Cond.instanceMethod yX6_timeOf, Cond.selects RX6 yX6_timeOf yX6_timeOf, Cond.code yX6_timeOf cX6_timeOf 5 (some .long), Cond.fieldLink RX6 16 "LotRulesModel" "lots" "[I", Cond.methodLink RX6 114 yX6_machine, Cond.instanceMethod yX6_machine, Cond.selects RX6 yX6_machine yX6_machine, Cond.code yX6_machine cX6_machine 4 none, Cond.fieldLink RX6 42 "LotRulesModel" "stood" "[I", Cond.methodLink RX6 110 yX6_run]
def wsX6_priceOf_r2 : List Cond := [Cond.instanceMethod yX6_run, Cond.selects RX6 yX6_run yX6_run, Cond.code yX6_run cX6_run 12 none, Cond.fieldLink RX6 29 "LotRulesModel" "left" "[J", Cond.fieldLink RX6 36 "LotRulesModel" "gone" "[J", Cond.methodLink RX6 104 yX6_grossOf, Cond.instanceMethod yX6_grossOf, Cond.selects RX6 yX6_grossOf yX6_grossOf, Cond.code yX6_grossOf cX6_grossOf 5 (some .int), Cond.fieldLink RX6 13 "LotRulesModel" "needs" "[I", Cond.fieldLink RX6 19 "LotRulesModel" "times" "[I"]
def wsX6_priceOf : List Cond := .code yX6_priceOf cX6_priceOf 8 (some .long) :: ((wsX6_priceOf_r1 ++ wsX6_priceOf_r2) ++ wsX60)
def wsX6_price_r1 : List Cond := [Cond.fieldLink RX6 73 "LotRulesModel" "thrown" "I", Cond.constantLong RX6 108 (-9223372036854775808), Cond.methodLink RX6 79 yX6_in, Cond.static yX6_in, Cond.initialized RX6, Cond.code yX6_in cX6_in 3 (some .boolean), Cond.methodLink RX6 124 yX6_priceOf, Cond.instanceMethod yX6_priceOf, Cond.selects RX6 yX6_priceOf yX6_priceOf, Cond.code yX6_priceOf cX6_priceOf 8 (some .long), Cond.fieldLink RX6 69 "LotRulesModel" "most" "I", Cond.fieldLink RX6 98 "LotRulesModel" "overPrice" "I", Cond.fieldLink RX6 76 "LotRulesModel" "items" "I", Cond.fieldLink RX6 45 "LotRulesModel" "setUp" "[Z", Cond.fieldLink RX6 7 "LotRulesModel" "number" "[I", Cond.fieldLink RX6 39 "LotRulesModel" "there" "[J", Cond.fieldLink RX6 33 "LotRulesModel" "owes" "[J", Cond.methodLink RX6 121 yX6_overOf, Cond.instanceMethod yX6_overOf, Cond.selects RX6 yX6_overOf yX6_overOf, Cond.code yX6_overOf cX6_overOf 4 (some .long), Cond.fieldLink RX6 22 "LotRulesModel" "room" "[I", Cond.methodLink RX6 117 yX6_timeOf, Cond.instanceMethod yX6_timeOf]
def wsX6_price_r2 : List Cond := [Cond.selects RX6 yX6_timeOf yX6_timeOf, Cond.code yX6_timeOf cX6_timeOf 5 (some .long), Cond.fieldLink RX6 16 "LotRulesModel" "lots" "[I", Cond.methodLink RX6 114 yX6_machine, Cond.instanceMethod yX6_machine, Cond.selects RX6 yX6_machine yX6_machine, Cond.code yX6_machine cX6_machine 4 none, Cond.fieldLink RX6 42 "LotRulesModel" "stood" "[I", Cond.methodLink RX6 110 yX6_run, Cond.instanceMethod yX6_run, Cond.selects RX6 yX6_run yX6_run, Cond.code yX6_run cX6_run 12 none, Cond.fieldLink RX6 29 "LotRulesModel" "left" "[J", Cond.fieldLink RX6 36 "LotRulesModel" "gone" "[J", Cond.methodLink RX6 104 yX6_grossOf, Cond.instanceMethod yX6_grossOf, Cond.selects RX6 yX6_grossOf yX6_grossOf, Cond.code yX6_grossOf cX6_grossOf 5 (some .int), Cond.fieldLink RX6 13 "LotRulesModel" "needs" "[I", Cond.fieldLink RX6 19 "LotRulesModel" "times" "[I"]
def wsX6_price : List Cond := .code yX6_price cX6_price 2 (some .long) :: ((wsX6_price_r1 ++ wsX6_price_r2) ++ wsX60)
def wsX6_share_r1 : List Cond := [Cond.fieldLink RX6 73 "LotRulesModel" "thrown" "I", Cond.constantLong RX6 108 (-9223372036854775808), Cond.constantLong RX6 127 (1000), Cond.methodLink RX6 79 yX6_in, Cond.static yX6_in, Cond.initialized RX6, Cond.code yX6_in cX6_in 3 (some .boolean), Cond.methodLink RX6 124 yX6_priceOf, Cond.instanceMethod yX6_priceOf, Cond.selects RX6 yX6_priceOf yX6_priceOf, Cond.code yX6_priceOf cX6_priceOf 8 (some .long), Cond.fieldLink RX6 69 "LotRulesModel" "most" "I", Cond.fieldLink RX6 98 "LotRulesModel" "overPrice" "I", Cond.fieldLink RX6 76 "LotRulesModel" "items" "I", Cond.fieldLink RX6 45 "LotRulesModel" "setUp" "[Z", Cond.fieldLink RX6 7 "LotRulesModel" "number" "[I", Cond.fieldLink RX6 39 "LotRulesModel" "there" "[J", Cond.fieldLink RX6 33 "LotRulesModel" "owes" "[J", Cond.methodLink RX6 121 yX6_overOf, Cond.instanceMethod yX6_overOf, Cond.selects RX6 yX6_overOf yX6_overOf, Cond.code yX6_overOf cX6_overOf 4 (some .long), Cond.fieldLink RX6 22 "LotRulesModel" "room" "[I", Cond.methodLink RX6 117 yX6_timeOf]
def wsX6_share_r2 : List Cond := [Cond.instanceMethod yX6_timeOf, Cond.selects RX6 yX6_timeOf yX6_timeOf, Cond.code yX6_timeOf cX6_timeOf 5 (some .long), Cond.fieldLink RX6 16 "LotRulesModel" "lots" "[I", Cond.methodLink RX6 114 yX6_machine, Cond.instanceMethod yX6_machine, Cond.selects RX6 yX6_machine yX6_machine, Cond.code yX6_machine cX6_machine 4 none, Cond.fieldLink RX6 42 "LotRulesModel" "stood" "[I", Cond.methodLink RX6 110 yX6_run, Cond.instanceMethod yX6_run, Cond.selects RX6 yX6_run yX6_run, Cond.code yX6_run cX6_run 12 none, Cond.fieldLink RX6 29 "LotRulesModel" "left" "[J", Cond.fieldLink RX6 36 "LotRulesModel" "gone" "[J", Cond.methodLink RX6 104 yX6_grossOf, Cond.instanceMethod yX6_grossOf, Cond.selects RX6 yX6_grossOf yX6_grossOf, Cond.code yX6_grossOf cX6_grossOf 5 (some .int), Cond.fieldLink RX6 13 "LotRulesModel" "needs" "[I", Cond.fieldLink RX6 19 "LotRulesModel" "times" "[I"]
def wsX6_share : List Cond := .code yX6_share cX6_share 5 (some .long) :: ((wsX6_share_r1 ++ wsX6_share_r2) ++ wsX60)
def wsX6_note : List Cond := .code yX6_note cX6_note 6 none :: ([.fieldLink RX6 48 "LotRulesModel" "kind" "[I", .fieldLink RX6 129 "LotRulesModel" "many" "I", .fieldLink RX6 51 "LotRulesModel" "when" "[I", .fieldLink RX6 54 "LotRulesModel" "whose" "[I", .fieldLink RX6 57 "LotRulesModel" "by" "[J"] ++ wsX60)
def wsX6_find_r1 : List Cond := [Cond.fieldLink RX6 129 "LotRulesModel" "many" "I", Cond.fieldLink RX6 76 "LotRulesModel" "items" "I", Cond.fieldLink RX6 69 "LotRulesModel" "most" "I", Cond.fieldLink RX6 60 "LotRulesModel" "owedBy" "[J", Cond.fieldLink RX6 33 "LotRulesModel" "owes" "[J", Cond.fieldLink RX6 16 "LotRulesModel" "lots" "[I", Cond.fieldLink RX6 7 "LotRulesModel" "number" "[I", Cond.fieldLink RX6 101 "LotRulesModel" "mostOver" "I", Cond.methodLink RX6 110 yX6_run, Cond.instanceMethod yX6_run, Cond.selects RX6 yX6_run yX6_run, Cond.initialized RX6, Cond.code yX6_run cX6_run 12 none, Cond.fieldLink RX6 29 "LotRulesModel" "left" "[J", Cond.fieldLink RX6 36 "LotRulesModel" "gone" "[J", Cond.fieldLink RX6 39 "LotRulesModel" "there" "[J", Cond.methodLink RX6 104 yX6_grossOf, Cond.instanceMethod yX6_grossOf, Cond.selects RX6 yX6_grossOf yX6_grossOf, Cond.code yX6_grossOf cX6_grossOf 5 (some .int), Cond.fieldLink RX6 13 "LotRulesModel" "needs" "[I", Cond.fieldLink RX6 19 "LotRulesModel" "times" "[I", Cond.methodLink RX6 132 yX6_note, Cond.instanceMethod yX6_note]
def wsX6_find_r2 : List Cond := [Cond.selects RX6 yX6_note yX6_note, Cond.code yX6_note cX6_note 6 none, Cond.fieldLink RX6 48 "LotRulesModel" "kind" "[I", Cond.fieldLink RX6 51 "LotRulesModel" "when" "[I", Cond.fieldLink RX6 54 "LotRulesModel" "whose" "[I", Cond.fieldLink RX6 57 "LotRulesModel" "by" "[J", Cond.methodLink RX6 121 yX6_overOf, Cond.instanceMethod yX6_overOf, Cond.selects RX6 yX6_overOf yX6_overOf, Cond.code yX6_overOf cX6_overOf 4 (some .long), Cond.fieldLink RX6 22 "LotRulesModel" "room" "[I", Cond.methodLink RX6 117 yX6_timeOf, Cond.instanceMethod yX6_timeOf, Cond.selects RX6 yX6_timeOf yX6_timeOf, Cond.code yX6_timeOf cX6_timeOf 5 (some .long), Cond.fieldLink RX6 45 "LotRulesModel" "setUp" "[Z", Cond.methodLink RX6 114 yX6_machine, Cond.instanceMethod yX6_machine, Cond.selects RX6 yX6_machine yX6_machine, Cond.code yX6_machine cX6_machine 4 none, Cond.fieldLink RX6 42 "LotRulesModel" "stood" "[I"]
def wsX6_find : List Cond := .code yX6_find cX6_find 4 none :: ((wsX6_find_r1 ++ wsX6_find_r2) ++ wsX60)
def wsX6_faults_r1 : List Cond := [Cond.fieldLink RX6 73 "LotRulesModel" "thrown" "I", Cond.fieldLink RX6 129 "LotRulesModel" "many" "I", Cond.methodLink RX6 136 yX6_find, Cond.instanceMethod yX6_find, Cond.selects RX6 yX6_find yX6_find, Cond.initialized RX6, Cond.code yX6_find cX6_find 4 none, Cond.fieldLink RX6 76 "LotRulesModel" "items" "I", Cond.fieldLink RX6 69 "LotRulesModel" "most" "I", Cond.fieldLink RX6 60 "LotRulesModel" "owedBy" "[J", Cond.fieldLink RX6 33 "LotRulesModel" "owes" "[J", Cond.fieldLink RX6 16 "LotRulesModel" "lots" "[I", Cond.fieldLink RX6 7 "LotRulesModel" "number" "[I", Cond.fieldLink RX6 101 "LotRulesModel" "mostOver" "I", Cond.methodLink RX6 110 yX6_run, Cond.instanceMethod yX6_run, Cond.selects RX6 yX6_run yX6_run, Cond.code yX6_run cX6_run 12 none, Cond.fieldLink RX6 29 "LotRulesModel" "left" "[J", Cond.fieldLink RX6 36 "LotRulesModel" "gone" "[J", Cond.fieldLink RX6 39 "LotRulesModel" "there" "[J", Cond.methodLink RX6 104 yX6_grossOf, Cond.instanceMethod yX6_grossOf, Cond.selects RX6 yX6_grossOf yX6_grossOf]
def wsX6_faults_r2 : List Cond := [Cond.code yX6_grossOf cX6_grossOf 5 (some .int), Cond.fieldLink RX6 13 "LotRulesModel" "needs" "[I", Cond.fieldLink RX6 19 "LotRulesModel" "times" "[I", Cond.methodLink RX6 132 yX6_note, Cond.instanceMethod yX6_note, Cond.selects RX6 yX6_note yX6_note, Cond.code yX6_note cX6_note 6 none, Cond.fieldLink RX6 48 "LotRulesModel" "kind" "[I", Cond.fieldLink RX6 51 "LotRulesModel" "when" "[I", Cond.fieldLink RX6 54 "LotRulesModel" "whose" "[I", Cond.fieldLink RX6 57 "LotRulesModel" "by" "[J", Cond.methodLink RX6 121 yX6_overOf, Cond.instanceMethod yX6_overOf, Cond.selects RX6 yX6_overOf yX6_overOf, Cond.code yX6_overOf cX6_overOf 4 (some .long), Cond.fieldLink RX6 22 "LotRulesModel" "room" "[I", Cond.methodLink RX6 117 yX6_timeOf, Cond.instanceMethod yX6_timeOf, Cond.selects RX6 yX6_timeOf yX6_timeOf, Cond.code yX6_timeOf cX6_timeOf 5 (some .long), Cond.fieldLink RX6 45 "LotRulesModel" "setUp" "[Z", Cond.methodLink RX6 114 yX6_machine, Cond.instanceMethod yX6_machine, Cond.selects RX6 yX6_machine yX6_machine]
def wsX6_faults_r3 : List Cond := [Cond.code yX6_machine cX6_machine 4 none, Cond.fieldLink RX6 42 "LotRulesModel" "stood" "[I"]
def wsX6_faults : List Cond := .code yX6_faults cX6_faults 1 (some .int) :: ((wsX6_faults_r1 ++ (wsX6_faults_r2 ++ wsX6_faults_r3)) ++ wsX60)
def wsX6_fault_r1 : List Cond := [Cond.fieldLink RX6 73 "LotRulesModel" "thrown" "I", Cond.fieldLink RX6 129 "LotRulesModel" "many" "I", Cond.fieldLink RX6 48 "LotRulesModel" "kind" "[I", Cond.fieldLink RX6 51 "LotRulesModel" "when" "[I", Cond.fieldLink RX6 54 "LotRulesModel" "whose" "[I", Cond.fieldLink RX6 57 "LotRulesModel" "by" "[J", Cond.methodLink RX6 136 yX6_find, Cond.instanceMethod yX6_find, Cond.selects RX6 yX6_find yX6_find, Cond.initialized RX6, Cond.code yX6_find cX6_find 4 none, Cond.fieldLink RX6 76 "LotRulesModel" "items" "I", Cond.fieldLink RX6 69 "LotRulesModel" "most" "I", Cond.fieldLink RX6 60 "LotRulesModel" "owedBy" "[J", Cond.fieldLink RX6 33 "LotRulesModel" "owes" "[J", Cond.fieldLink RX6 16 "LotRulesModel" "lots" "[I", Cond.fieldLink RX6 7 "LotRulesModel" "number" "[I", Cond.fieldLink RX6 101 "LotRulesModel" "mostOver" "I", Cond.methodLink RX6 110 yX6_run, Cond.instanceMethod yX6_run, Cond.selects RX6 yX6_run yX6_run, Cond.code yX6_run cX6_run 12 none, Cond.fieldLink RX6 29 "LotRulesModel" "left" "[J", Cond.fieldLink RX6 36 "LotRulesModel" "gone" "[J"]
def wsX6_fault_r2 : List Cond := [Cond.fieldLink RX6 39 "LotRulesModel" "there" "[J", Cond.methodLink RX6 104 yX6_grossOf, Cond.instanceMethod yX6_grossOf, Cond.selects RX6 yX6_grossOf yX6_grossOf, Cond.code yX6_grossOf cX6_grossOf 5 (some .int), Cond.fieldLink RX6 13 "LotRulesModel" "needs" "[I", Cond.fieldLink RX6 19 "LotRulesModel" "times" "[I", Cond.methodLink RX6 132 yX6_note, Cond.instanceMethod yX6_note, Cond.selects RX6 yX6_note yX6_note, Cond.code yX6_note cX6_note 6 none, Cond.methodLink RX6 121 yX6_overOf, Cond.instanceMethod yX6_overOf, Cond.selects RX6 yX6_overOf yX6_overOf, Cond.code yX6_overOf cX6_overOf 4 (some .long), Cond.fieldLink RX6 22 "LotRulesModel" "room" "[I", Cond.methodLink RX6 117 yX6_timeOf, Cond.instanceMethod yX6_timeOf, Cond.selects RX6 yX6_timeOf yX6_timeOf, Cond.code yX6_timeOf cX6_timeOf 5 (some .long), Cond.fieldLink RX6 45 "LotRulesModel" "setUp" "[Z", Cond.methodLink RX6 114 yX6_machine, Cond.instanceMethod yX6_machine, Cond.selects RX6 yX6_machine yX6_machine]
def wsX6_fault_r3 : List Cond := [Cond.code yX6_machine cX6_machine 4 none, Cond.fieldLink RX6 42 "LotRulesModel" "stood" "[I", Cond.methodLink RX6 79 yX6_in, Cond.static yX6_in, Cond.code yX6_in cX6_in 3 (some .boolean)]
def wsX6_fault : List Cond := .code yX6_fault cX6_fault 3 (some .int) :: ((wsX6_fault_r1 ++ (wsX6_fault_r2 ++ wsX6_fault_r3)) ++ wsX60)
def wsX6_last : List Cond := .code yX6_last cX6_last 4 (some .int) :: ([.fieldLink RX6 7 "LotRulesModel" "number" "[I", .fieldLink RX6 69 "LotRulesModel" "most" "I"] ++ wsX60)
def wsX6_priceTo : List Cond := .code yX6_priceTo cX6_priceTo 7 (some .long) :: ([.fieldLink RX6 7 "LotRulesModel" "number" "[I", .fieldLink RX6 66 "LotRulesModel" "least" "[J", .fieldLink RX6 63 "LotRulesModel" "net" "[I"] ++ wsX60)
def wsX6_alone : List Cond := .code yX6_alone cX6_alone 7 none :: ([.fieldLink RX6 7 "LotRulesModel" "number" "[I", .fieldLink RX6 69 "LotRulesModel" "most" "I", .fieldLink RX6 13 "LotRulesModel" "needs" "[I", .fieldLink RX6 63 "LotRulesModel" "net" "[I", .fieldLink RX6 66 "LotRulesModel" "least" "[J", .constantLong RX6 108 (-9223372036854775808), .methodLink RX6 139 yX6_last, .instanceMethod yX6_last, .selects RX6 yX6_last yX6_last, .initialized RX6, .code yX6_last cX6_last 4 (some .int), .methodLink RX6 142 yX6_priceTo, .instanceMethod yX6_priceTo, .selects RX6 yX6_priceTo yX6_priceTo, .code yX6_priceTo cX6_priceTo 7 (some .long)] ++ wsX60)
def wsX6_best_r1 : List Cond := [Cond.fieldLink RX6 73 "LotRulesModel" "thrown" "I", Cond.constantLong RX6 108 (-9223372036854775808), Cond.fieldLink RX6 66 "LotRulesModel" "least" "[J", Cond.methodLink RX6 83 yX6_isItem, Cond.instanceMethod yX6_isItem, Cond.selects RX6 yX6_isItem yX6_isItem, Cond.initialized RX6, Cond.code yX6_isItem cX6_isItem 2 (some .boolean), Cond.fieldLink RX6 76 "LotRulesModel" "items" "I", Cond.methodLink RX6 79 yX6_in, Cond.static yX6_in, Cond.code yX6_in cX6_in 3 (some .boolean), Cond.methodLink RX6 146 yX6_alone, Cond.instanceMethod yX6_alone, Cond.selects RX6 yX6_alone yX6_alone, Cond.code yX6_alone cX6_alone 7 none, Cond.fieldLink RX6 7 "LotRulesModel" "number" "[I", Cond.fieldLink RX6 69 "LotRulesModel" "most" "I", Cond.fieldLink RX6 13 "LotRulesModel" "needs" "[I", Cond.fieldLink RX6 63 "LotRulesModel" "net" "[I", Cond.methodLink RX6 139 yX6_last, Cond.instanceMethod yX6_last, Cond.selects RX6 yX6_last yX6_last, Cond.code yX6_last cX6_last 4 (some .int)]
def wsX6_best_r2 : List Cond := [Cond.methodLink RX6 142 yX6_priceTo, Cond.instanceMethod yX6_priceTo, Cond.selects RX6 yX6_priceTo yX6_priceTo, Cond.code yX6_priceTo cX6_priceTo 7 (some .long)]
def wsX6_best : List Cond := .code yX6_best cX6_best 2 (some .long) :: ((wsX6_best_r1 ++ wsX6_best_r2) ++ wsX60)
def wsX6_lot_r1 : List Cond := [Cond.fieldLink RX6 73 "LotRulesModel" "thrown" "I", Cond.fieldLink RX6 63 "LotRulesModel" "net" "[I", Cond.fieldLink RX6 66 "LotRulesModel" "least" "[J", Cond.methodLink RX6 83 yX6_isItem, Cond.instanceMethod yX6_isItem, Cond.selects RX6 yX6_isItem yX6_isItem, Cond.initialized RX6, Cond.code yX6_isItem cX6_isItem 2 (some .boolean), Cond.fieldLink RX6 76 "LotRulesModel" "items" "I", Cond.methodLink RX6 79 yX6_in, Cond.static yX6_in, Cond.code yX6_in cX6_in 3 (some .boolean), Cond.methodLink RX6 91 yX6_isPeriod, Cond.instanceMethod yX6_isPeriod, Cond.selects RX6 yX6_isPeriod yX6_isPeriod, Cond.code yX6_isPeriod cX6_isPeriod 2 (some .boolean), Cond.fieldLink RX6 69 "LotRulesModel" "most" "I", Cond.methodLink RX6 146 yX6_alone, Cond.instanceMethod yX6_alone, Cond.selects RX6 yX6_alone yX6_alone, Cond.code yX6_alone cX6_alone 7 none, Cond.fieldLink RX6 7 "LotRulesModel" "number" "[I", Cond.fieldLink RX6 13 "LotRulesModel" "needs" "[I", Cond.constantLong RX6 108 (-9223372036854775808)]
def wsX6_lot_r2 : List Cond := [Cond.methodLink RX6 139 yX6_last, Cond.instanceMethod yX6_last, Cond.selects RX6 yX6_last yX6_last, Cond.code yX6_last cX6_last 4 (some .int), Cond.methodLink RX6 142 yX6_priceTo, Cond.instanceMethod yX6_priceTo, Cond.selects RX6 yX6_priceTo yX6_priceTo, Cond.code yX6_priceTo cX6_priceTo 7 (some .long)]
def wsX6_lot : List Cond := .code yX6_lot cX6_lot 7 (some .int) :: ((wsX6_lot_r1 ++ wsX6_lot_r2) ++ wsX60)
def wsX6_from_r1 : List Cond := [Cond.fieldLink RX6 73 "LotRulesModel" "thrown" "I", Cond.fieldLink RX6 69 "LotRulesModel" "most" "I", Cond.constantLong RX6 108 (-9223372036854775808), Cond.fieldLink RX6 66 "LotRulesModel" "least" "[J", Cond.methodLink RX6 83 yX6_isItem, Cond.instanceMethod yX6_isItem, Cond.selects RX6 yX6_isItem yX6_isItem, Cond.initialized RX6, Cond.code yX6_isItem cX6_isItem 2 (some .boolean), Cond.fieldLink RX6 76 "LotRulesModel" "items" "I", Cond.methodLink RX6 79 yX6_in, Cond.static yX6_in, Cond.code yX6_in cX6_in 3 (some .boolean), Cond.methodLink RX6 146 yX6_alone, Cond.instanceMethod yX6_alone, Cond.selects RX6 yX6_alone yX6_alone, Cond.code yX6_alone cX6_alone 7 none, Cond.fieldLink RX6 7 "LotRulesModel" "number" "[I", Cond.fieldLink RX6 13 "LotRulesModel" "needs" "[I", Cond.fieldLink RX6 63 "LotRulesModel" "net" "[I", Cond.methodLink RX6 139 yX6_last, Cond.instanceMethod yX6_last, Cond.selects RX6 yX6_last yX6_last, Cond.code yX6_last cX6_last 4 (some .int)]
def wsX6_from_r2 : List Cond := [Cond.methodLink RX6 142 yX6_priceTo, Cond.instanceMethod yX6_priceTo, Cond.selects RX6 yX6_priceTo yX6_priceTo, Cond.code yX6_priceTo cX6_priceTo 7 (some .long)]
def wsX6_from : List Cond := .code yX6_from cX6_from 3 (some .long) :: ((wsX6_from_r1 ++ wsX6_from_r2) ++ wsX60)
def wsJ9_max_7cf53 : List Cond := .code yJ9_max_7cf53 cJ9_max_7cf53 2 (some .int) :: ([])
def wsJ9_max_f86c9 : List Cond := .code yJ9_max_f86c9 cJ9_max_f86c9 4 (some .long) :: ([])
def wsJ9_min_7cf53 : List Cond := .code yJ9_min_7cf53 cJ9_min_7cf53 2 (some .int) :: ([])
def wsL_cell : List Cond := .code yL_cell cL_cell 2 (some .int) :: ([])
def wsL_share_r1 : List Cond := [Cond.classLink RL 13 "java/lang/ArithmeticException", Cond.methodLink RL 7 yX5_share, Cond.instanceMethod yX5_share, Cond.selects RX5 yX5_share yX5_share, Cond.initialized RX5, Cond.code yX5_share cX5_share 5 (some .long), Cond.classLink RX5 160 "java/lang/ArithmeticException", Cond.initialized "java/lang/ArithmeticException", Cond.constantLong RX5 103 (-9223372036854775808), Cond.constantLong RX5 167 (1000), Cond.methodLink RX5 134 yX5_isPrice, Cond.static yX5_isPrice, Cond.code yX5_isPrice cX5_isPrice 1 (some .boolean), Cond.methodLink RX5 137 yX5_priceOf, Cond.instanceMethod yX5_priceOf, Cond.selects RX5 yX5_priceOf yX5_priceOf, Cond.code yX5_priceOf cX5_priceOf 2 (some .long), Cond.methodLink RX5 187 yX5_setUpPrices, Cond.instanceMethod yX5_setUpPrices, Cond.selects RX5 yX5_setUpPrices yX5_setUpPrices, Cond.code yX5_setUpPrices cX5_setUpPrices 5 (some .long), Cond.fieldLink RX5 49 "LotRules" "machine" "LLotRules$Machine;", Cond.fieldLink RX5 26 "LotRules" "items" "[LLotRules$Item;", Cond.fieldLink RX5 33 "LotRules" "itemCount" "I"]
def wsL_share_r2 : List Cond := [Cond.fieldLink RX5 20 "LotRules" "last" "I", Cond.fieldLink RX5 71 "LotRules$Item" "numbers" "[I", Cond.methodLink RX5 120 yX3_follow, Cond.instanceMethod yX3_follow, Cond.selects RX3 yX3_follow yX3_follow, Cond.initialized RX3, Cond.code yX3_follow cX3_follow 6 none, Cond.fieldLink RX3 15 "LotRules$Machine" "standing" "[I", Cond.fieldLink RX3 9 "LotRules$Machine" "setUps" "[I", Cond.fieldLink RX3 18 "LotRules$Item" "lots" "[I", Cond.methodLink RX5 124 yX3_setsUp, Cond.instanceMethod yX3_setsUp, Cond.selects RX3 yX3_setsUp yX3_setsUp, Cond.code yX3_setsUp cX3_setsUp 3 (some .boolean), Cond.methodLink RX5 191 yX5_holdPrices, Cond.instanceMethod yX5_holdPrices, Cond.selects RX5 yX5_holdPrices yX5_holdPrices, Cond.code yX5_holdPrices cX5_holdPrices 5 (some .long), Cond.fieldLink RX5 108 "LotRules$Item" "store" "LLotRules$Store;", Cond.fieldLink RX5 112 "LotRules$Store" "stocks" "[I", Cond.methodLink RX5 17 Lib.Math.max.name, Cond.static Lib.Math.max.name, Cond.initialized "java/lang/Math", Cond.code Lib.Math.max.name Lib.Math.max.code 2 (some .int)]
def wsL_share_r3 : List Cond := [Cond.methodLink RX5 105 yX5_runItem, Cond.instanceMethod yX5_runItem, Cond.selects RX5 yX5_runItem yX5_runItem, Cond.code yX5_runItem cX5_runItem 4 none, Cond.methodLink RX5 173 yX4_begin, Cond.instanceMethod yX4_begin, Cond.selects RX4 yX4_begin yX4_begin, Cond.initialized RX4, Cond.code yX4_begin cX4_begin 2 none, Cond.fieldLink RX4 7 "LotRules$Store" "stocks" "[I", Cond.fieldLink RX4 16 "LotRules$Store" "left" "[I", Cond.methodLink RX5 176 yX2_coming, Cond.instanceMethod yX2_coming, Cond.selects RX2 yX2_coming yX2_coming, Cond.initialized RX2, Cond.code yX2_coming cX2_coming 3 (some .int), Cond.fieldLink RX2 9 "LotRules$Item" "numbers" "[I", Cond.fieldLink RX2 18 "LotRules$Item" "lots" "[I", Cond.methodLink RX5 97 yX5_grossOf, Cond.instanceMethod yX5_grossOf, Cond.selects RX5 yX5_grossOf yX5_grossOf, Cond.code yX5_grossOf cX5_grossOf 5 (some .int), Cond.fieldLink RX5 84 "LotRules$Item" "needs" "[I", Cond.fieldLink RX5 91 "LotRules$Item" "timesPartOf" "[I"]
def wsL_share_r4 : List Cond := [Cond.fieldLink RX5 94 "LotRules$Item" "lots" "[I", Cond.methodLink RX5 180 yX4_pass, Cond.instanceMethod yX4_pass, Cond.selects RX4 yX4_pass yX4_pass, Cond.code yX4_pass cX4_pass 5 none, Cond.fieldLink RX4 13 "LotRules$Store" "losses" "[I", Cond.methodLink RX4 19 yX4_owedAt, Cond.instanceMethod yX4_owedAt, Cond.selects RX4 yX4_owedAt yX4_owedAt, Cond.code yX4_owedAt cX4_owedAt 2 (some .int), Cond.methodLink RX4 30 Lib.Math.max.name, Cond.methodLink RX4 23 yX4_take, Cond.instanceMethod yX4_take, Cond.selects RX4 yX4_take yX4_take, Cond.code yX4_take cX4_take 6 none, Cond.methodLink RX4 36 Lib.Math.min.name, Cond.static Lib.Math.min.name, Cond.code Lib.Math.min.name Lib.Math.min.code 2 (some .int), Cond.methodLink RX4 27 yX4_spoil, Cond.instanceMethod yX4_spoil, Cond.selects RX4 yX4_spoil yX4_spoil, Cond.code yX4_spoil cX4_spoil 3 (some .int), Cond.methodLink RX5 194 yX5_overPrices, Cond.instanceMethod yX5_overPrices]
def wsL_share_r5 : List Cond := [Cond.selects RX5 yX5_overPrices yX5_overPrices, Cond.code yX5_overPrices cX5_overPrices 4 (some .long), Cond.fieldLink RX5 43 "LotRules" "overs" "[I", Cond.methodLink RX5 197 yX5_overOf, Cond.instanceMethod yX5_overOf, Cond.selects RX5 yX5_overOf yX5_overOf, Cond.code yX5_overOf cX5_overOf 2 (some .long), Cond.fieldLink RX5 36 "LotRules" "capacities" "[I", Cond.methodLink RX5 184 Lib.MathLoose.max_long.x, Cond.static Lib.MathLoose.max_long.x, Cond.code Lib.MathLoose.max_long.x Lib.MathLoose.max_long.code 4 (some .long), Cond.methodLink RX5 130 yX5_timeOf, Cond.instanceMethod yX5_timeOf, Cond.selects RX5 yX5_timeOf yX5_timeOf, Cond.code yX5_timeOf cX5_timeOf 5 (some .long)]
def wsL_share : List Cond := .codeWith yL_share cL_share 5 (some .int) [(0, 9, 12, 13)] :: ((wsL_share_r1 ++ (wsL_share_r2 ++ (wsL_share_r3 ++ (wsL_share_r4 ++ wsL_share_r5)))) ++ wsX50 ++ wsX20 ++ wsX30 ++ wsX40 ++ (vx_atS RX5 164 "java/lang/ArithmeticException" ["java/lang/RuntimeException", "java/lang/Exception"]).filter goodWord)
def wsL_law0_r1 : List Cond := [Cond.classLink RL 8 RX5, Cond.instantiable RX5 8, Cond.initialized RX5, Cond.classLink RL 24 RX6, Cond.instantiable RX6 25, Cond.initialized RX6, Cond.arrayClass .long, Cond.methodLink RL 15 yL_cell, Cond.static yL_cell, Cond.initialized RL, Cond.code yL_cell cL_cell 2 (some .int), Cond.methodLink RL 21 yX5_init, Cond.instanceMethod yX5_init, Cond.code yX5_init cX5_init 3 none, Cond.methodLink RX5 3 objectInit, Cond.instanceMethod objectInit, Cond.code objectInit ⟨#[0xb1]⟩ 1 none, Cond.methodLink RX5 11 Lib.Math.min.name, Cond.static Lib.Math.min.name, Cond.initialized "java/lang/Math", Cond.code Lib.Math.min.name Lib.Math.min.code 2 (some .int), Cond.methodLink RX5 17 Lib.Math.max.name, Cond.static Lib.Math.max.name, Cond.code Lib.Math.max.name Lib.Math.max.code 2 (some .int)]
def wsL_law0_r2 : List Cond := [Cond.fieldLink RX5 20 "LotRules" "last" "I", Cond.classLink RX5 24 RX2, Cond.fieldLink RX5 26 "LotRules" "items" "[LLotRules$Item;", Cond.instantiable RX2 5, Cond.initialized RX2, Cond.fieldLink RX5 33 "LotRules" "itemCount" "I", Cond.arrayClass .int, Cond.fieldLink RX5 36 "LotRules" "capacities" "[I", Cond.fieldLink RX5 40 "LotRules" "MOST_OF_OVER" "[I", Cond.fieldLink RX5 43 "LotRules" "overs" "[I", Cond.classLink RX5 46 RX3, Cond.instantiable RX3 2, Cond.initialized RX3, Cond.fieldLink RX5 49 "LotRules" "machine" "LLotRules$Machine;", Cond.classLink RX5 53 RX1, Cond.instantiable RX1 2, Cond.initialized RX1, Cond.fieldLink RX5 56 "LotRules" "found" "LLotRules$FaultList;", Cond.classLink RX5 60 RX0, Cond.instantiable RX0 5, Cond.initialized RX0, Cond.fieldLink RX5 63 "LotRules" "alone" "LLotRules$Alone;", Cond.methodLink RX5 30 yX2_init, Cond.instanceMethod yX2_init]
def wsL_law0_r3 : List Cond := [Cond.code yX2_init cX2_init 2 none, Cond.methodLink RX2 3 objectInit, Cond.fieldLink RX2 9 "LotRules$Item" "numbers" "[I", Cond.fieldLink RX2 15 "LotRules$Item" "needs" "[I", Cond.fieldLink RX2 18 "LotRules$Item" "lots" "[I", Cond.fieldLink RX2 21 "LotRules$Item" "timesPartOf" "[I", Cond.classLink RX2 24 RX4, Cond.instantiable RX4 3, Cond.initialized RX4, Cond.fieldLink RX2 29 "LotRules$Item" "store" "LLotRules$Store;", Cond.methodLink RX2 26 yX4_init, Cond.instanceMethod yX4_init, Cond.code yX4_init cX4_init 2 none, Cond.methodLink RX4 1 objectInit, Cond.fieldLink RX4 7 "LotRules$Store" "stocks" "[I", Cond.fieldLink RX4 13 "LotRules$Store" "losses" "[I", Cond.fieldLink RX4 16 "LotRules$Store" "left" "[I", Cond.methodLink RX5 48 yX3_init, Cond.instanceMethod yX3_init, Cond.code yX3_init cX3_init 2 none, Cond.methodLink RX3 3 objectInit, Cond.fieldLink RX3 9 "LotRules$Machine" "setUps" "[I", Cond.fieldLink RX3 15 "LotRules$Machine" "standing" "[I", Cond.methodLink RX5 55 yX1_init]
def wsL_law0_r4 : List Cond := [Cond.instanceMethod yX1_init, Cond.code yX1_init cX1_init 2 none, Cond.methodLink RX1 3 objectInit, Cond.fieldLink RX1 9 "LotRules$FaultList" "size" "I", Cond.fieldLink RX1 15 "LotRules$FaultList" "cells" "[I", Cond.methodLink RX5 62 yX0_init, Cond.instanceMethod yX0_init, Cond.code yX0_init cX0_init 2 none, Cond.methodLink RX0 3 objectInit, Cond.fieldLink RX0 9 "LotRules$Alone" "last" "I", Cond.fieldLink RX0 15 "LotRules$Alone" "nets" "[I", Cond.fieldLink RX0 19 "LotRules$Alone" "costs" "[J", Cond.fieldLink RX0 23 "LotRules$Alone" "untils" "[I", Cond.fieldLink RX0 26 "LotRules$Alone" "amounts" "[I", Cond.methodLink RL 26 yX6_init, Cond.instanceMethod yX6_init, Cond.code yX6_init cX6_init 3 none, Cond.methodLink RX6 1 objectInit, Cond.fieldLink RX6 7 "LotRulesModel" "number" "[I", Cond.fieldLink RX6 13 "LotRulesModel" "needs" "[I", Cond.fieldLink RX6 16 "LotRulesModel" "lots" "[I", Cond.fieldLink RX6 19 "LotRulesModel" "times" "[I", Cond.fieldLink RX6 22 "LotRulesModel" "room" "[I", Cond.arrayClass .boolean]
def wsL_law0_r5 : List Cond := [Cond.fieldLink RX6 25 "LotRulesModel" "reached" "[Z", Cond.fieldLink RX6 29 "LotRulesModel" "left" "[J", Cond.fieldLink RX6 33 "LotRulesModel" "owes" "[J", Cond.fieldLink RX6 36 "LotRulesModel" "gone" "[J", Cond.fieldLink RX6 39 "LotRulesModel" "there" "[J", Cond.fieldLink RX6 42 "LotRulesModel" "stood" "[I", Cond.fieldLink RX6 45 "LotRulesModel" "setUp" "[Z", Cond.fieldLink RX6 48 "LotRulesModel" "kind" "[I", Cond.fieldLink RX6 51 "LotRulesModel" "when" "[I", Cond.fieldLink RX6 54 "LotRulesModel" "whose" "[I", Cond.fieldLink RX6 57 "LotRulesModel" "by" "[J", Cond.fieldLink RX6 60 "LotRulesModel" "owedBy" "[J", Cond.fieldLink RX6 63 "LotRulesModel" "net" "[I", Cond.fieldLink RX6 66 "LotRulesModel" "least" "[J", Cond.fieldLink RX6 69 "LotRulesModel" "most" "I", Cond.methodLink RL 27 yX5_item, Cond.instanceMethod yX5_item, Cond.selects RX5 yX5_item yX5_item, Cond.code yX5_item cX5_item 1 (some .int), Cond.methodLink RL 31 yX6_item, Cond.instanceMethod yX6_item, Cond.selects RX6 yX6_item yX6_item, Cond.code yX6_item cX6_item 1 (some .int), Cond.fieldLink RX6 73 "LotRulesModel" "thrown" "I"]
def wsL_law0_r6 : List Cond := [Cond.fieldLink RX6 76 "LotRulesModel" "items" "I", Cond.methodLink RL 32 yX5_set, Cond.instanceMethod yX5_set, Cond.selects RX5 yX5_set yX5_set, Cond.code yX5_set cX5_set 4 (some .int), Cond.fieldLink RX5 71 "LotRules$Item" "numbers" "[I", Cond.fieldLink RX5 74 "LotRules" "MOST_OF_NUMBER" "[I", Cond.methodLink RX5 67 yX5_isItem, Cond.instanceMethod yX5_isItem, Cond.selects RX5 yX5_isItem yX5_isItem, Cond.code yX5_isItem cX5_isItem 2 (some .boolean), Cond.methodLink RX5 77 yX5_replace, Cond.static yX5_replace, Cond.code yX5_replace cX5_replace 5 (some .int), Cond.methodLink RL 36 yX6_set, Cond.instanceMethod yX6_set, Cond.selects RX6 yX6_set yX6_set, Cond.code yX6_set cX6_set 5 (some .int), Cond.methodLink RX6 83 yX6_isItem, Cond.instanceMethod yX6_isItem, Cond.selects RX6 yX6_isItem yX6_isItem, Cond.code yX6_isItem cX6_isItem 2 (some .boolean), Cond.methodLink RX6 79 yX6_in, Cond.static yX6_in]
def wsL_law0_r7 : List Cond := [Cond.code yX6_in cX6_in 3 (some .boolean), Cond.methodLink RX6 87 yX6_bound, Cond.static yX6_bound, Cond.code yX6_bound cX6_bound 1 (some .int), Cond.methodLink RL 37 yX5_need, Cond.instanceMethod yX5_need, Cond.selects RX5 yX5_need yX5_need, Cond.code yX5_need cX5_need 4 (some .int), Cond.fieldLink RX5 84 "LotRules$Item" "needs" "[I", Cond.methodLink RX5 81 yX5_isPeriod, Cond.instanceMethod yX5_isPeriod, Cond.selects RX5 yX5_isPeriod yX5_isPeriod, Cond.code yX5_isPeriod cX5_isPeriod 2 (some .boolean), Cond.methodLink RL 40 yX6_need, Cond.instanceMethod yX6_need, Cond.selects RX6 yX6_need yX6_need, Cond.code yX6_need cX6_need 5 (some .int), Cond.methodLink RX6 91 yX6_isPeriod, Cond.instanceMethod yX6_isPeriod, Cond.selects RX6 yX6_isPeriod yX6_isPeriod, Cond.code yX6_isPeriod cX6_isPeriod 2 (some .boolean), Cond.methodLink RL 41 yX5_part, Cond.instanceMethod yX5_part, Cond.selects RX5 yX5_part yX5_part]
def wsL_law0_r8 : List Cond := [Cond.code yX5_part cX5_part 4 (some .int), Cond.fieldLink RX5 91 "LotRules$Item" "timesPartOf" "[I", Cond.methodLink RX5 87 yX5_goesInto, Cond.instanceMethod yX5_goesInto, Cond.selects RX5 yX5_goesInto yX5_goesInto, Cond.code yX5_goesInto cX5_goesInto 6 (some .boolean), Cond.methodLink RX5 169 yX2_wholes, Cond.instanceMethod yX2_wholes, Cond.selects RX2 yX2_wholes yX2_wholes, Cond.code yX2_wholes cX2_wholes 3 (some .int), Cond.methodLink RL 44 yX6_part, Cond.instanceMethod yX6_part, Cond.selects RX6 yX6_part yX6_part, Cond.code yX6_part cX6_part 5 (some .int), Cond.methodLink RX6 94 yX6_isWithin, Cond.instanceMethod yX6_isWithin, Cond.selects RX6 yX6_isWithin yX6_isWithin, Cond.code yX6_isWithin cX6_isWithin 6 (some .boolean), Cond.methodLink RL 45 yX5_make, Cond.instanceMethod yX5_make, Cond.selects RX5 yX5_make yX5_make, Cond.code yX5_make cX5_make 4 (some .int), Cond.fieldLink RX5 94 "LotRules$Item" "lots" "[I", Cond.methodLink RL 48 yX6_make]
def wsL_law0_r9 : List Cond := [Cond.instanceMethod yX6_make, Cond.selects RX6 yX6_make yX6_make, Cond.code yX6_make cX6_make 5 (some .int), Cond.methodLink RL 49 yX5_capacity, Cond.instanceMethod yX5_capacity, Cond.selects RX5 yX5_capacity yX5_capacity, Cond.code yX5_capacity cX5_capacity 3 (some .int), Cond.methodLink RL 53 yX6_capacity, Cond.instanceMethod yX6_capacity, Cond.selects RX6 yX6_capacity yX6_capacity, Cond.code yX6_capacity cX6_capacity 4 (some .int), Cond.methodLink RL 54 yX5_over, Cond.instanceMethod yX5_over, Cond.selects RX5 yX5_over yX5_over, Cond.code yX5_over cX5_over 3 (some .int), Cond.methodLink RL 57 yX6_over, Cond.instanceMethod yX6_over, Cond.selects RX6 yX6_over yX6_over, Cond.code yX6_over cX6_over 4 (some .int), Cond.fieldLink RX6 98 "LotRulesModel" "overPrice" "I", Cond.fieldLink RX6 101 "LotRulesModel" "mostOver" "I", Cond.methodLink RL 58 yX5_gross, Cond.instanceMethod yX5_gross, Cond.selects RX5 yX5_gross yX5_gross]
def wsL_law0_r10 : List Cond := [Cond.code yX5_gross cX5_gross 3 (some .int), Cond.methodLink RX5 97 yX5_grossOf, Cond.instanceMethod yX5_grossOf, Cond.selects RX5 yX5_grossOf yX5_grossOf, Cond.code yX5_grossOf cX5_grossOf 5 (some .int), Cond.methodLink RL 61 yX6_gross, Cond.instanceMethod yX6_gross, Cond.selects RX6 yX6_gross yX6_gross, Cond.code yX6_gross cX6_gross 3 (some .int), Cond.methodLink RX6 104 yX6_grossOf, Cond.instanceMethod yX6_grossOf, Cond.selects RX6 yX6_grossOf yX6_grossOf, Cond.code yX6_grossOf cX6_grossOf 5 (some .int), Cond.methodLink RL 62 yX5_stock, Cond.instanceMethod yX5_stock, Cond.selects RX5 yX5_stock yX5_stock, Cond.code yX5_stock cX5_stock 3 (some .long), Cond.constantLong RX5 103 (-9223372036854775808), Cond.fieldLink RX5 108 "LotRules$Item" "store" "LLotRules$Store;", Cond.fieldLink RX5 112 "LotRules$Store" "stocks" "[I", Cond.methodLink RX5 100 yX5_isPeriodOrBeginning, Cond.instanceMethod yX5_isPeriodOrBeginning, Cond.selects RX5 yX5_isPeriodOrBeginning yX5_isPeriodOrBeginning, Cond.code yX5_isPeriodOrBeginning cX5_isPeriodOrBeginning 2 (some .boolean)]
def wsL_law0_r11 : List Cond := [Cond.methodLink RX5 105 yX5_runItem, Cond.instanceMethod yX5_runItem, Cond.selects RX5 yX5_runItem yX5_runItem, Cond.code yX5_runItem cX5_runItem 4 none, Cond.methodLink RX5 173 yX4_begin, Cond.instanceMethod yX4_begin, Cond.selects RX4 yX4_begin yX4_begin, Cond.code yX4_begin cX4_begin 2 none, Cond.methodLink RX5 176 yX2_coming, Cond.instanceMethod yX2_coming, Cond.selects RX2 yX2_coming yX2_coming, Cond.code yX2_coming cX2_coming 3 (some .int), Cond.methodLink RX5 180 yX4_pass, Cond.instanceMethod yX4_pass, Cond.selects RX4 yX4_pass yX4_pass, Cond.code yX4_pass cX4_pass 5 none, Cond.methodLink RX4 19 yX4_owedAt, Cond.instanceMethod yX4_owedAt, Cond.selects RX4 yX4_owedAt yX4_owedAt, Cond.code yX4_owedAt cX4_owedAt 2 (some .int), Cond.methodLink RX4 30 Lib.Math.max.name, Cond.methodLink RX4 23 yX4_take, Cond.instanceMethod yX4_take, Cond.selects RX4 yX4_take yX4_take]
def wsL_law0_r12 : List Cond := [Cond.code yX4_take cX4_take 6 none, Cond.methodLink RX4 36 Lib.Math.min.name, Cond.methodLink RX4 27 yX4_spoil, Cond.instanceMethod yX4_spoil, Cond.selects RX4 yX4_spoil yX4_spoil, Cond.code yX4_spoil cX4_spoil 3 (some .int), Cond.methodLink RL 65 yX6_stock, Cond.instanceMethod yX6_stock, Cond.selects RX6 yX6_stock yX6_stock, Cond.code yX6_stock cX6_stock 3 (some .long), Cond.constantLong RX6 108 (-9223372036854775808), Cond.methodLink RX6 110 yX6_run, Cond.instanceMethod yX6_run, Cond.selects RX6 yX6_run yX6_run, Cond.code yX6_run cX6_run 12 none, Cond.methodLink RL 66 yX5_spoilt, Cond.instanceMethod yX5_spoilt, Cond.selects RX5 yX5_spoilt yX5_spoilt, Cond.code yX5_spoilt cX5_spoilt 3 (some .int), Cond.fieldLink RX5 117 "LotRules$Store" "losses" "[I", Cond.methodLink RL 69 yX6_spoilt, Cond.instanceMethod yX6_spoilt, Cond.selects RX6 yX6_spoilt yX6_spoilt, Cond.code yX6_spoilt cX6_spoilt 3 (some .int)]
def wsL_law0_r13 : List Cond := [Cond.methodLink RL 70 yX5_isSetUp, Cond.instanceMethod yX5_isSetUp, Cond.selects RX5 yX5_isSetUp yX5_isSetUp, Cond.code yX5_isSetUp cX5_isSetUp 3 (some .int), Cond.methodLink RX5 120 yX3_follow, Cond.instanceMethod yX3_follow, Cond.selects RX3 yX3_follow yX3_follow, Cond.code yX3_follow cX3_follow 6 none, Cond.fieldLink RX3 18 "LotRules$Item" "lots" "[I", Cond.methodLink RX5 124 yX3_setsUp, Cond.instanceMethod yX3_setsUp, Cond.selects RX3 yX3_setsUp yX3_setsUp, Cond.code yX3_setsUp cX3_setsUp 3 (some .boolean), Cond.methodLink RL 73 yX6_isSetUp, Cond.instanceMethod yX6_isSetUp, Cond.selects RX6 yX6_isSetUp yX6_isSetUp, Cond.code yX6_isSetUp cX6_isSetUp 3 (some .int), Cond.methodLink RX6 114 yX6_machine, Cond.instanceMethod yX6_machine, Cond.selects RX6 yX6_machine yX6_machine, Cond.code yX6_machine cX6_machine 4 none, Cond.methodLink RL 74 yX5_stands, Cond.instanceMethod yX5_stands, Cond.selects RX5 yX5_stands yX5_stands]
def wsL_law0_r14 : List Cond := [Cond.code yX5_stands cX5_stands 2 (some .int), Cond.fieldLink RX5 127 "LotRules$Machine" "standing" "[I", Cond.methodLink RL 78 yX6_stands, Cond.instanceMethod yX6_stands, Cond.selects RX6 yX6_stands yX6_stands, Cond.code yX6_stands cX6_stands 2 (some .int), Cond.methodLink RL 79 yX5_time, Cond.instanceMethod yX5_time, Cond.selects RX5 yX5_time yX5_time, Cond.code yX5_time cX5_time 2 (some .long), Cond.methodLink RX5 130 yX5_timeOf, Cond.instanceMethod yX5_timeOf, Cond.selects RX5 yX5_timeOf yX5_timeOf, Cond.code yX5_timeOf cX5_timeOf 5 (some .long), Cond.methodLink RL 83 yX6_time, Cond.instanceMethod yX6_time, Cond.selects RX6 yX6_time yX6_time, Cond.code yX6_time cX6_time 2 (some .long), Cond.methodLink RX6 117 yX6_timeOf, Cond.instanceMethod yX6_timeOf, Cond.selects RX6 yX6_timeOf yX6_timeOf, Cond.code yX6_timeOf cX6_timeOf 5 (some .long), Cond.methodLink RL 84 yX5_price, Cond.instanceMethod yX5_price]
def wsL_law0_r15 : List Cond := [Cond.selects RX5 yX5_price yX5_price, Cond.code yX5_price cX5_price 2 (some .long), Cond.methodLink RX5 134 yX5_isPrice, Cond.static yX5_isPrice, Cond.code yX5_isPrice cX5_isPrice 1 (some .boolean), Cond.methodLink RX5 137 yX5_priceOf, Cond.instanceMethod yX5_priceOf, Cond.selects RX5 yX5_priceOf yX5_priceOf, Cond.code yX5_priceOf cX5_priceOf 2 (some .long), Cond.methodLink RX5 187 yX5_setUpPrices, Cond.instanceMethod yX5_setUpPrices, Cond.selects RX5 yX5_setUpPrices yX5_setUpPrices, Cond.code yX5_setUpPrices cX5_setUpPrices 5 (some .long), Cond.methodLink RX5 191 yX5_holdPrices, Cond.instanceMethod yX5_holdPrices, Cond.selects RX5 yX5_holdPrices yX5_holdPrices, Cond.code yX5_holdPrices cX5_holdPrices 5 (some .long), Cond.methodLink RX5 194 yX5_overPrices, Cond.instanceMethod yX5_overPrices, Cond.selects RX5 yX5_overPrices yX5_overPrices, Cond.code yX5_overPrices cX5_overPrices 4 (some .long), Cond.methodLink RX5 197 yX5_overOf, Cond.instanceMethod yX5_overOf, Cond.selects RX5 yX5_overOf yX5_overOf]
def wsL_law0_r16 : List Cond := [Cond.code yX5_overOf cX5_overOf 2 (some .long), Cond.methodLink RX5 184 Lib.MathLoose.max_long.x, Cond.static Lib.MathLoose.max_long.x, Cond.code Lib.MathLoose.max_long.x Lib.MathLoose.max_long.code 4 (some .long), Cond.methodLink RL 87 yX6_price, Cond.instanceMethod yX6_price, Cond.selects RX6 yX6_price yX6_price, Cond.code yX6_price cX6_price 2 (some .long), Cond.methodLink RX6 124 yX6_priceOf, Cond.instanceMethod yX6_priceOf, Cond.selects RX6 yX6_priceOf yX6_priceOf, Cond.code yX6_priceOf cX6_priceOf 8 (some .long), Cond.methodLink RX6 121 yX6_overOf, Cond.instanceMethod yX6_overOf, Cond.selects RX6 yX6_overOf yX6_overOf, Cond.code yX6_overOf cX6_overOf 4 (some .long), Cond.methodLink RL 88 yX5_faults, Cond.instanceMethod yX5_faults, Cond.selects RX5 yX5_faults yX5_faults, Cond.code yX5_faults cX5_faults 1 (some .int), Cond.fieldLink RX5 143 "LotRules$FaultList" "size" "I", Cond.methodLink RX5 140 yX5_findFaults, Cond.instanceMethod yX5_findFaults, Cond.selects RX5 yX5_findFaults yX5_findFaults]
def wsL_law0_r17 : List Cond := [Cond.code yX5_findFaults cX5_findFaults 2 none, Cond.methodLink RX5 200 yX5_findOwing, Cond.instanceMethod yX5_findOwing, Cond.selects RX5 yX5_findOwing yX5_findOwing, Cond.code yX5_findOwing cX5_findOwing 4 none, Cond.methodLink RX5 209 yX4_owedAt, Cond.methodLink RX5 212 yX1_put, Cond.instanceMethod yX1_put, Cond.selects RX1 yX1_put yX1_put, Cond.code yX1_put cX1_put 6 none, Cond.methodLink RX5 203 yX5_findBelowLeast, Cond.instanceMethod yX5_findBelowLeast, Cond.selects RX5 yX5_findBelowLeast yX5_findBelowLeast, Cond.code yX5_findBelowLeast cX5_findBelowLeast 5 none, Cond.methodLink RX5 206 yX5_findAboveMostOver, Cond.instanceMethod yX5_findAboveMostOver, Cond.selects RX5 yX5_findAboveMostOver yX5_findAboveMostOver, Cond.code yX5_findAboveMostOver cX5_findAboveMostOver 4 none, Cond.methodLink RL 91 yX6_faults, Cond.instanceMethod yX6_faults, Cond.selects RX6 yX6_faults yX6_faults, Cond.code yX6_faults cX6_faults 1 (some .int), Cond.fieldLink RX6 129 "LotRulesModel" "many" "I", Cond.methodLink RX6 136 yX6_find]
def wsL_law0_r18 : List Cond := [Cond.instanceMethod yX6_find, Cond.selects RX6 yX6_find yX6_find, Cond.code yX6_find cX6_find 4 none, Cond.methodLink RX6 132 yX6_note, Cond.instanceMethod yX6_note, Cond.selects RX6 yX6_note yX6_note, Cond.code yX6_note cX6_note 6 none, Cond.methodLink RL 92 yX5_fault, Cond.instanceMethod yX5_fault, Cond.selects RX5 yX5_fault yX5_fault, Cond.code yX5_fault cX5_fault 3 (some .int), Cond.methodLink RX5 146 yX1_cell, Cond.instanceMethod yX1_cell, Cond.selects RX1 yX1_cell yX1_cell, Cond.code yX1_cell cX1_cell 3 (some .int), Cond.methodLink RL 95 yX6_fault, Cond.instanceMethod yX6_fault, Cond.selects RX6 yX6_fault yX6_fault, Cond.code yX6_fault cX6_fault 3 (some .int), Cond.methodLink RL 96 yX5_best, Cond.instanceMethod yX5_best, Cond.selects RX5 yX5_best yX5_best, Cond.code yX5_best cX5_best 2 (some .long), Cond.fieldLink RX5 153 "LotRules$Alone" "costs" "[J"]
def wsL_law0_r19 : List Cond := [Cond.methodLink RX5 149 yX0_plan, Cond.instanceMethod yX0_plan, Cond.selects RX0 yX0_plan yX0_plan, Cond.code yX0_plan cX0_plan 3 none, Cond.fieldLink RX0 29 "LotRules$Item" "needs" "[I", Cond.fieldLink RX0 34 "LotRules$Item" "numbers" "[I", Cond.methodLink RX0 37 yX0_findNets, Cond.instanceMethod yX0_findNets, Cond.selects RX0 yX0_findNets yX0_findNets, Cond.code yX0_findNets cX0_findNets 6 none, Cond.methodLink RX0 48 Lib.Math.min.name, Cond.methodLink RX0 41 yX0_choose, Cond.instanceMethod yX0_choose, Cond.selects RX0 yX0_choose yX0_choose, Cond.code yX0_choose cX0_choose 15 none, Cond.constantLong RX0 56 (9223372036854775807), Cond.methodLink RX0 45 yX0_followChoices, Cond.instanceMethod yX0_followChoices, Cond.selects RX0 yX0_followChoices yX0_followChoices, Cond.code yX0_followChoices cX0_followChoices 3 none, Cond.methodLink RX0 61 Lib.Math.max.name, Cond.methodLink RX0 58 yX0_sumOfNets, Cond.instanceMethod yX0_sumOfNets, Cond.selects RX0 yX0_sumOfNets yX0_sumOfNets]
def wsL_law0_r20 : List Cond := [Cond.code yX0_sumOfNets cX0_sumOfNets 5 (some .int), Cond.methodLink RL 99 yX6_best, Cond.instanceMethod yX6_best, Cond.selects RX6 yX6_best yX6_best, Cond.code yX6_best cX6_best 2 (some .long), Cond.methodLink RX6 146 yX6_alone, Cond.instanceMethod yX6_alone, Cond.selects RX6 yX6_alone yX6_alone, Cond.code yX6_alone cX6_alone 7 none, Cond.methodLink RX6 139 yX6_last, Cond.instanceMethod yX6_last, Cond.selects RX6 yX6_last yX6_last, Cond.code yX6_last cX6_last 4 (some .int), Cond.methodLink RX6 142 yX6_priceTo, Cond.instanceMethod yX6_priceTo, Cond.selects RX6 yX6_priceTo yX6_priceTo, Cond.code yX6_priceTo cX6_priceTo 7 (some .long), Cond.methodLink RL 100 yX5_lot, Cond.instanceMethod yX5_lot, Cond.selects RX5 yX5_lot yX5_lot, Cond.code yX5_lot cX5_lot 3 (some .int), Cond.fieldLink RX5 157 "LotRules$Alone" "amounts" "[I", Cond.methodLink RL 103 yX6_lot, Cond.instanceMethod yX6_lot]
def wsL_law0_r21 : List Cond := [Cond.selects RX6 yX6_lot yX6_lot, Cond.code yX6_lot cX6_lot 7 (some .int), Cond.methodLink RL 104 yX5_from, Cond.instanceMethod yX5_from, Cond.selects RX5 yX5_from yX5_from, Cond.code yX5_from cX5_from 3 (some .long), Cond.methodLink RL 107 yX6_from, Cond.instanceMethod yX6_from, Cond.selects RX6 yX6_from yX6_from, Cond.code yX6_from cX6_from 3 (some .long), Cond.methodLink RL 108 yL_share, Cond.static yL_share, Cond.codeWith yL_share cL_share 5 (some .int) [(0, 9, 12, 13)], Cond.classLink RL 13 "java/lang/ArithmeticException", Cond.methodLink RL 7 yX5_share, Cond.instanceMethod yX5_share, Cond.selects RX5 yX5_share yX5_share, Cond.code yX5_share cX5_share 5 (some .long), Cond.classLink RX5 160 "java/lang/ArithmeticException", Cond.initialized "java/lang/ArithmeticException", Cond.constantLong RX5 167 (1000), Cond.methodLink RL 111 yX6_share, Cond.instanceMethod yX6_share, Cond.selects RX6 yX6_share yX6_share]
def wsL_law0_r22 : List Cond := [Cond.code yX6_share cX6_share 5 (some .long), Cond.constantLong RX6 127 (1000), Cond.methodLink RL 112 yX6_thrown, Cond.instanceMethod yX6_thrown, Cond.selects RX6 yX6_thrown yX6_thrown, Cond.code yX6_thrown cX6_thrown 1 (some .int)]
def wsL_law0 : List Cond := (wsL_law0_r1 ++ (wsL_law0_r2 ++ (wsL_law0_r3 ++ (wsL_law0_r4 ++ (wsL_law0_r5 ++ (wsL_law0_r6 ++ (wsL_law0_r7 ++ (wsL_law0_r8 ++ (wsL_law0_r9 ++ (wsL_law0_r10 ++ (wsL_law0_r11 ++ (wsL_law0_r12 ++ (wsL_law0_r13 ++ (wsL_law0_r14 ++ (wsL_law0_r15 ++ (wsL_law0_r16 ++ (wsL_law0_r17 ++ (wsL_law0_r18 ++ (wsL_law0_r19 ++ (wsL_law0_r20 ++ (wsL_law0_r21 ++ wsL_law0_r22))))))))))))))))))))) ++ wsX50 ++ wsX60 ++ wsX20 ++ wsX30 ++ wsX10 ++ wsX00 ++ wsX40 ++ ([] : List Cond)
def wsL_law : List Cond := wsL_law0 ++ (vx_atS RX5 164 "java/lang/ArithmeticException" ["java/lang/RuntimeException", "java/lang/Exception"]).filter goodWord
end
section
set_option maxRecDepth 20000 in
theorem wsLin_r1 : ∀ w ∈ wsL_law0_r1, w ∈ lw_tbl := fun w h => (goodIn_p wsL_law0_r1 [418, 54, 57, 60, 63] (by decide +kernel) (by decide +kernel) w h).1
set_option maxRecDepth 20000 in
theorem wsLin_r2 : ∀ w ∈ wsL_law0_r2, w ∈ lw_tbl := fun w h => (goodIn_p wsL_law0_r2 [] (by decide +kernel) (by decide +kernel) w h).1
set_option maxRecDepth 20000 in
theorem wsLin_r3 : ∀ w ∈ wsL_law0_r3, w ∈ lw_tbl := fun w h => (goodIn_p wsL_law0_r3 [69, 75, 120] (by decide +kernel) (by decide +kernel) w h).1
set_option maxRecDepth 20000 in
theorem wsLin_r4 : ∀ w ∈ wsL_law0_r4, w ∈ lw_tbl := fun w h => (goodIn_p wsL_law0_r4 [134, 148, 498] (by decide +kernel) (by decide +kernel) w h).1
set_option maxRecDepth 20000 in
theorem wsLin_r5 : ∀ w ∈ wsL_law0_r5, w ∈ lw_tbl := fun w h => (goodIn_p wsL_law0_r5 [197, 584] (by decide +kernel) (by decide +kernel) w h).1
set_option maxRecDepth 20000 in
theorem wsLin_r6 : ∀ w ∈ wsL_law0_r6, w ∈ lw_tbl := fun w h => (goodIn_p wsL_law0_r6 [201, 205, 210, 588, 592] (by decide +kernel) (by decide +kernel) w h).1
set_option maxRecDepth 20000 in
theorem wsLin_r7 : ∀ w ∈ wsL_law0_r7, w ∈ lw_tbl := fun w h => (goodIn_p wsL_law0_r7 [595, 598, 214, 218, 602, 606] (by decide +kernel) (by decide +kernel) w h).1
set_option maxRecDepth 20000 in
theorem wsLin_r8 : ∀ w ∈ wsL_law0_r8, w ∈ lw_tbl := fun w h => (goodIn_p wsL_law0_r8 [222, 226, 230, 610, 614, 234] (by decide +kernel) (by decide +kernel) w h).1
set_option maxRecDepth 20000 in
theorem wsLin_r9 : ∀ w ∈ wsL_law0_r9, w ∈ lw_tbl := fun w h => (goodIn_p wsL_law0_r9 [618, 238, 622, 242, 626] (by decide +kernel) (by decide +kernel) w h).1
set_option maxRecDepth 20000 in
theorem wsLin_r10 : ∀ w ∈ wsL_law0_r10, w ∈ lw_tbl := fun w h => (goodIn_p wsL_law0_r10 [246, 250, 630, 634, 254, 258] (by decide +kernel) (by decide +kernel) w h).1
end
section
set_option maxRecDepth 20000 in
theorem wsLin_r11 : ∀ w ∈ wsL_law0_r11, w ∈ lw_tbl := fun w h => (goodIn_p wsL_law0_r11 [263, 267, 271, 275, 279] (by decide +kernel) (by decide +kernel) w h).1
set_option maxRecDepth 20000 in
theorem wsLin_r12 : ∀ w ∈ wsL_law0_r12, w ∈ lw_tbl := fun w h => (goodIn_p wsL_law0_r12 [284, 289, 638, 643, 293, 647] (by decide +kernel) (by decide +kernel) w h).1
set_option maxRecDepth 20000 in
theorem wsLin_r13 : ∀ w ∈ wsL_law0_r13, w ∈ lw_tbl := fun w h => (goodIn_p wsL_law0_r13 [297, 301, 305, 651, 655] (by decide +kernel) (by decide +kernel) w h).1
set_option maxRecDepth 20000 in
theorem wsLin_r14 : ∀ w ∈ wsL_law0_r14, w ∈ lw_tbl := fun w h => (goodIn_p wsL_law0_r14 [309, 659, 313, 317, 663, 667] (by decide +kernel) (by decide +kernel) w h).1
set_option maxRecDepth 20000 in
theorem wsLin_r15 : ∀ w ∈ wsL_law0_r15, w ∈ lw_tbl := fun w h => (goodIn_p wsL_law0_r15 [321, 324, 328, 332, 336, 340] (by decide +kernel) (by decide +kernel) w h).1
set_option maxRecDepth 20000 in
theorem wsLin_r16 : ∀ w ∈ wsL_law0_r16, w ∈ lw_tbl := fun w h => (goodIn_p wsL_law0_r16 [344, 347, 671, 675, 679, 351] (by decide +kernel) (by decide +kernel) w h).1
set_option maxRecDepth 20000 in
theorem wsLin_r17 : ∀ w ∈ wsL_law0_r17, w ∈ lw_tbl := fun w h => (goodIn_p wsL_law0_r17 [355, 359, 364, 368, 372, 688] (by decide +kernel) (by decide +kernel) w h).1
set_option maxRecDepth 20000 in
theorem wsLin_r18 : ∀ w ∈ wsL_law0_r18, w ∈ lw_tbl := fun w h => (goodIn_p wsL_law0_r18 [692, 696, 376, 380, 700, 384] (by decide +kernel) (by decide +kernel) w h).1
set_option maxRecDepth 20000 in
theorem wsLin_r19 : ∀ w ∈ wsL_law0_r19, w ∈ lw_tbl := fun w h => (goodIn_p wsL_law0_r19 [388, 392, 397, 402] (by decide +kernel) (by decide +kernel) w h).1
set_option maxRecDepth 20000 in
theorem wsLin_r20 : ∀ w ∈ wsL_law0_r20, w ∈ lw_tbl := fun w h => (goodIn_p wsL_law0_r20 [406, 704, 708, 712, 716, 411] (by decide +kernel) (by decide +kernel) w h).1
end
section
set_option maxRecDepth 20000 in
theorem wsLin_r21 : ∀ w ∈ wsL_law0_r21, w ∈ lw_tbl := fun w h => (goodIn_p wsL_law0_r21 [720, 415, 724, 426] (by decide +kernel) (by decide +kernel) w h).1
set_option maxRecDepth 20000 in
theorem wsLin_r22 : ∀ w ∈ wsL_law0_r22, w ∈ lw_tbl := fun w h => (goodIn_p wsL_law0_r22 [683, 580] (by decide +kernel) (by decide +kernel) w h).1
set_option maxRecDepth 20000 in
theorem wsLin_wsX50 : ∀ w ∈ wsX50, w ∈ lw_tbl := by decide +kernel
set_option maxRecDepth 20000 in
theorem wsLin_wsX60 : ∀ w ∈ wsX60, w ∈ lw_tbl := by decide +kernel
set_option maxRecDepth 20000 in
theorem wsLin_wsX20 : ∀ w ∈ wsX20, w ∈ lw_tbl := by decide +kernel
set_option maxRecDepth 20000 in
theorem wsLin_wsX30 : ∀ w ∈ wsX30, w ∈ lw_tbl := by decide +kernel
set_option maxRecDepth 20000 in
theorem wsLin_wsX10 : ∀ w ∈ wsX10, w ∈ lw_tbl := by decide +kernel
set_option maxRecDepth 20000 in
theorem wsLin_wsX00 : ∀ w ∈ wsX00, w ∈ lw_tbl := by decide +kernel
set_option maxRecDepth 20000 in
theorem wsLin_wsX40 : ∀ w ∈ wsX40, w ∈ lw_tbl := by decide +kernel
theorem wsL_law_in0 : ∀ w ∈ wsL_law0, w ∈ lw_tbl := List.forall_mem_append.mpr ⟨List.forall_mem_append.mpr ⟨List.forall_mem_append.mpr ⟨List.forall_mem_append.mpr ⟨List.forall_mem_append.mpr ⟨List.forall_mem_append.mpr ⟨List.forall_mem_append.mpr ⟨List.forall_mem_append.mpr ⟨List.forall_mem_append.mpr ⟨wsLin_r1, List.forall_mem_append.mpr ⟨wsLin_r2, List.forall_mem_append.mpr ⟨wsLin_r3, List.forall_mem_append.mpr ⟨wsLin_r4, List.forall_mem_append.mpr ⟨wsLin_r5, List.forall_mem_append.mpr ⟨wsLin_r6, List.forall_mem_append.mpr ⟨wsLin_r7, List.forall_mem_append.mpr ⟨wsLin_r8, List.forall_mem_append.mpr ⟨wsLin_r9, List.forall_mem_append.mpr ⟨wsLin_r10, List.forall_mem_append.mpr ⟨wsLin_r11, List.forall_mem_append.mpr ⟨wsLin_r12, List.forall_mem_append.mpr ⟨wsLin_r13, List.forall_mem_append.mpr ⟨wsLin_r14, List.forall_mem_append.mpr ⟨wsLin_r15, List.forall_mem_append.mpr ⟨wsLin_r16, List.forall_mem_append.mpr ⟨wsLin_r17, List.forall_mem_append.mpr ⟨wsLin_r18, List.forall_mem_append.mpr ⟨wsLin_r19, List.forall_mem_append.mpr ⟨wsLin_r20, List.forall_mem_append.mpr ⟨wsLin_r21, wsLin_r22⟩⟩⟩⟩⟩⟩⟩⟩⟩⟩⟩⟩⟩⟩⟩⟩⟩⟩⟩⟩⟩, wsLin_wsX50⟩, wsLin_wsX60⟩, wsLin_wsX20⟩, wsLin_wsX30⟩, wsLin_wsX10⟩, wsLin_wsX00⟩, wsLin_wsX40⟩, fun _ h => absurd h List.not_mem_nil⟩
theorem wsL_law_x0 : ∀ w ∈ (vx_atS RX5 164 "java/lang/ArithmeticException" ["java/lang/RuntimeException", "java/lang/Exception"]).filter goodWord, w ∈ lw_tbl := by decide +kernel
theorem wsL_law_in : ∀ w ∈ wsL_law, w ∈ lw_tbl := fun w h => (List.mem_append.mp h).elim (fun h => wsL_law_in0 w h) (fun h => wsL_law_x0 w h)
theorem inlX0 : ∀ w ∈ wsX00, w ∈ wsL_law := fun _ h => List.mem_append_left _ (List.mem_append_left _ (List.mem_append_left _ (List.mem_append_right _ h)))
theorem inX0 : ∀ w ∈ wsX00, w ∈ lw_tbl := fun w h => wsL_law_in w (inlX0 w h)
theorem inlX1 : ∀ w ∈ wsX10, w ∈ wsL_law := fun _ h => List.mem_append_left _ (List.mem_append_left _ (List.mem_append_left _ (List.mem_append_left _ (List.mem_append_right _ h))))
theorem inX1 : ∀ w ∈ wsX10, w ∈ lw_tbl := fun w h => wsL_law_in w (inlX1 w h)
theorem inlX2 : ∀ w ∈ wsX20, w ∈ wsL_law := fun _ h => List.mem_append_left _ (List.mem_append_left _ (List.mem_append_left _ (List.mem_append_left _ (List.mem_append_left _ (List.mem_append_left _ (List.mem_append_right _ h))))))
theorem inX2 : ∀ w ∈ wsX20, w ∈ lw_tbl := fun w h => wsL_law_in w (inlX2 w h)
theorem inlX3 : ∀ w ∈ wsX30, w ∈ wsL_law := fun _ h => List.mem_append_left _ (List.mem_append_left _ (List.mem_append_left _ (List.mem_append_left _ (List.mem_append_left _ (List.mem_append_right _ h)))))
theorem inX3 : ∀ w ∈ wsX30, w ∈ lw_tbl := fun w h => wsL_law_in w (inlX3 w h)
theorem inlX4 : ∀ w ∈ wsX40, w ∈ wsL_law := fun _ h => List.mem_append_left _ (List.mem_append_left _ (List.mem_append_right _ h))
theorem inX4 : ∀ w ∈ wsX40, w ∈ lw_tbl := fun w h => wsL_law_in w (inlX4 w h)
theorem inlX5 : ∀ w ∈ wsX50, w ∈ wsL_law := fun _ h => List.mem_append_left _ (List.mem_append_left _ (List.mem_append_left _ (List.mem_append_left _ (List.mem_append_left _ (List.mem_append_left _ (List.mem_append_left _ (List.mem_append_left _ (List.mem_append_right _ h))))))))
theorem inX5 : ∀ w ∈ wsX50, w ∈ lw_tbl := fun w h => wsL_law_in w (inlX5 w h)
theorem inlX6 : ∀ w ∈ wsX60, w ∈ wsL_law := fun _ h => List.mem_append_left _ (List.mem_append_left _ (List.mem_append_left _ (List.mem_append_left _ (List.mem_append_left _ (List.mem_append_left _ (List.mem_append_left _ (List.mem_append_right _ h)))))))
theorem inX6 : ∀ w ∈ wsX60, w ∈ lw_tbl := fun w h => wsL_law_in w (inlX6 w h)
theorem inJ9 : ∀ w ∈ wsJ90, w ∈ lw_tbl := by decide +kernel
theorem inJ0 : ∀ w ∈ wsJ00, w ∈ lw_tbl := by decide +kernel
end
section
theorem dX0_init_0 : decode cX0_init 0 = .ok (.aload_n 0, 1) := by decide +kernel
theorem dX0_init_1 : decode cX0_init 1 = .ok (.invokespecial 3, 3) := by decide +kernel
theorem dX0_init_4 : decode cX0_init 4 = .ok (.aload_n 0, 1) := by decide +kernel
theorem dX0_init_5 : decode cX0_init 5 = .ok (.iload_n 1, 1) := by decide +kernel
theorem dX0_init_6 : decode cX0_init 6 = .ok (.putfield 9, 3) := by decide +kernel
theorem dX0_init_9 : decode cX0_init 9 = .ok (.aload_n 0, 1) := by decide +kernel
theorem dX0_init_10 : decode cX0_init 10 = .ok (.iload_n 1, 1) := by decide +kernel
theorem dX0_init_11 : decode cX0_init 11 = .ok (.iconst 1, 1) := by decide +kernel
theorem dX0_init_12 : decode cX0_init 12 = .ok (.iadd, 1) := by decide +kernel
theorem dX0_init_13 : decode cX0_init 13 = .ok (.newarray .int, 2) := by decide +kernel
theorem dX0_init_15 : decode cX0_init 15 = .ok (.putfield 15, 3) := by decide +kernel
theorem dX0_init_18 : decode cX0_init 18 = .ok (.aload_n 0, 1) := by decide +kernel
theorem dX0_init_19 : decode cX0_init 19 = .ok (.iload_n 1, 1) := by decide +kernel
theorem dX0_init_20 : decode cX0_init 20 = .ok (.iconst 2, 1) := by decide +kernel
theorem dX0_init_21 : decode cX0_init 21 = .ok (.iadd, 1) := by decide +kernel
theorem dX0_init_22 : decode cX0_init 22 = .ok (.newarray .long, 2) := by decide +kernel
theorem dX0_init_24 : decode cX0_init 24 = .ok (.putfield 19, 3) := by decide +kernel
theorem dX0_init_27 : decode cX0_init 27 = .ok (.aload_n 0, 1) := by decide +kernel
theorem dX0_init_28 : decode cX0_init 28 = .ok (.iload_n 1, 1) := by decide +kernel
theorem dX0_init_29 : decode cX0_init 29 = .ok (.iconst 1, 1) := by decide +kernel
theorem dX0_init_30 : decode cX0_init 30 = .ok (.iadd, 1) := by decide +kernel
theorem dX0_init_31 : decode cX0_init 31 = .ok (.newarray .int, 2) := by decide +kernel
theorem dX0_init_33 : decode cX0_init 33 = .ok (.putfield 23, 3) := by decide +kernel
theorem dX0_init_36 : decode cX0_init 36 = .ok (.aload_n 0, 1) := by decide +kernel
theorem dX0_init_37 : decode cX0_init 37 = .ok (.iload_n 1, 1) := by decide +kernel
theorem dX0_init_38 : decode cX0_init 38 = .ok (.iconst 1, 1) := by decide +kernel
theorem dX0_init_39 : decode cX0_init 39 = .ok (.iadd, 1) := by decide +kernel
theorem dX0_init_40 : decode cX0_init 40 = .ok (.newarray .int, 2) := by decide +kernel
theorem dX0_init_42 : decode cX0_init 42 = .ok (.putfield 26, 3) := by decide +kernel
theorem dX0_init_45 : decode cX0_init 45 = .ok (.return_, 1) := by decide +kernel
set_option maxRecDepth 20000 in
theorem ggX0_plan_X0_findNets : GoodIn wsX0_plan wsX0_findNets := goodIn_r _ [8, 3, 9, 10, 11, 12, 13, 38, 39, 40, 41, 42] (by decide +kernel) (by decide +kernel)
set_option maxRecDepth 20000 in
theorem gX0_plan_X0_findNets : GoodIn wsX0_plan (wsV RX0 37 RX0 yX0_findNets wsX0_findNets) := goodIn_app (goodIn_of _ (by decide +kernel)) ggX0_plan_X0_findNets
set_option maxRecDepth 20000 in
theorem ggX0_plan_X0_choose : GoodIn wsX0_plan wsX0_choose := goodIn_r _ [17, 13, 18, 19, 3, 9, 10, 11, 12, 20, 38, 39, 40, 41, 42] (by decide +kernel) (by decide +kernel)
set_option maxRecDepth 20000 in
theorem gX0_plan_X0_choose : GoodIn wsX0_plan (wsV RX0 41 RX0 yX0_choose wsX0_choose) := goodIn_app (goodIn_of _ (by decide +kernel)) ggX0_plan_X0_choose
set_option maxRecDepth 20000 in
theorem ggX0_plan_X0_followChoices : GoodIn wsX0_plan wsX0_followChoices := goodIn_r _ [24, 3, 25, 20, 26, 27, 11, 28, 29, 30, 31, 7, 32, 13, 38, 39, 40, 41, 42] (by decide +kernel) (by decide +kernel)
set_option maxRecDepth 20000 in
theorem gX0_plan_X0_followChoices : GoodIn wsX0_plan (wsV RX0 45 RX0 yX0_followChoices wsX0_followChoices) := goodIn_app (goodIn_of _ (by decide +kernel)) ggX0_plan_X0_followChoices
theorem dX0_plan_0 : decode cX0_plan 0 = .ok (.aload_n 0, 1) := by decide +kernel
theorem dX0_plan_1 : decode cX0_plan 1 = .ok (.aload_n 1, 1) := by decide +kernel
theorem dX0_plan_2 : decode cX0_plan 2 = .ok (.getfield 29, 3) := by decide +kernel
theorem dX0_plan_5 : decode cX0_plan 5 = .ok (.aload_n 1, 1) := by decide +kernel
theorem dX0_plan_6 : decode cX0_plan 6 = .ok (.getfield 34, 3) := by decide +kernel
theorem dX0_plan_9 : decode cX0_plan 9 = .ok (.iconst 4, 1) := by decide +kernel
theorem dX0_plan_10 : decode cX0_plan 10 = .ok (.iaload, 1) := by decide +kernel
theorem dX0_plan_11 : decode cX0_plan 11 = .ok (.invokevirtual 37, 3) := by decide +kernel
theorem dX0_plan_14 : decode cX0_plan 14 = .ok (.aload_n 0, 1) := by decide +kernel
theorem dX0_plan_15 : decode cX0_plan 15 = .ok (.getfield 9, 3) := by decide +kernel
theorem dX0_plan_18 : decode cX0_plan 18 = .ok (.istore_n 2, 1) := by decide +kernel
theorem dX0_plan_19 : decode cX0_plan 19 = .ok (.iload_n 2, 1) := by decide +kernel
theorem dX0_plan_20 : decode cX0_plan 20 = .ok (.iconst 1, 1) := by decide +kernel
theorem dX0_plan_21 : decode cX0_plan 21 = .ok (.if_icmp .lt 32, 3) := by decide +kernel
theorem dX0_plan_24 : decode cX0_plan 24 = .ok (.aload_n 0, 1) := by decide +kernel
theorem dX0_plan_25 : decode cX0_plan 25 = .ok (.iload_n 2, 1) := by decide +kernel
theorem dX0_plan_26 : decode cX0_plan 26 = .ok (.aload_n 1, 1) := by decide +kernel
theorem dX0_plan_27 : decode cX0_plan 27 = .ok (.getfield 34, 3) := by decide +kernel
theorem dX0_plan_30 : decode cX0_plan 30 = .ok (.iconst 0, 1) := by decide +kernel
theorem dX0_plan_31 : decode cX0_plan 31 = .ok (.iaload, 1) := by decide +kernel
theorem dX0_plan_32 : decode cX0_plan 32 = .ok (.aload_n 1, 1) := by decide +kernel
theorem dX0_plan_33 : decode cX0_plan 33 = .ok (.getfield 34, 3) := by decide +kernel
theorem dX0_plan_36 : decode cX0_plan 36 = .ok (.iconst 1, 1) := by decide +kernel
theorem dX0_plan_37 : decode cX0_plan 37 = .ok (.iaload, 1) := by decide +kernel
theorem dX0_plan_38 : decode cX0_plan 38 = .ok (.aload_n 1, 1) := by decide +kernel
theorem dX0_plan_39 : decode cX0_plan 39 = .ok (.getfield 34, 3) := by decide +kernel
theorem dX0_plan_42 : decode cX0_plan 42 = .ok (.iconst 3, 1) := by decide +kernel
theorem dX0_plan_43 : decode cX0_plan 43 = .ok (.iaload, 1) := by decide +kernel
theorem dX0_plan_44 : decode cX0_plan 44 = .ok (.invokevirtual 41, 3) := by decide +kernel
theorem dX0_plan_47 : decode cX0_plan 47 = .ok (.iinc 2 (-1), 3) := by decide +kernel
theorem dX0_plan_50 : decode cX0_plan 50 = .ok (.goto (-31), 3) := by decide +kernel
theorem dX0_plan_53 : decode cX0_plan 53 = .ok (.aload_n 0, 1) := by decide +kernel
theorem dX0_plan_54 : decode cX0_plan 54 = .ok (.invokevirtual 45, 3) := by decide +kernel
theorem dX0_plan_57 : decode cX0_plan 57 = .ok (.return_, 1) := by decide +kernel
theorem dX0_findNets_0 : decode cX0_findNets 0 = .ok (.iload_n 2, 1) := by decide +kernel
theorem dX0_findNets_1 : decode cX0_findNets 1 = .ok (.istore_n 3, 1) := by decide +kernel
theorem dX0_findNets_2 : decode cX0_findNets 2 = .ok (.iconst 1, 1) := by decide +kernel
theorem dX0_findNets_3 : decode cX0_findNets 3 = .ok (.istore 4, 2) := by decide +kernel
theorem dX0_findNets_5 : decode cX0_findNets 5 = .ok (.iload 4, 2) := by decide +kernel
theorem dX0_findNets_7 : decode cX0_findNets 7 = .ok (.aload_n 0, 1) := by decide +kernel
theorem dX0_findNets_8 : decode cX0_findNets 8 = .ok (.getfield 9, 3) := by decide +kernel
theorem dX0_findNets_11 : decode cX0_findNets 11 = .ok (.if_icmp .gt 38, 3) := by decide +kernel
theorem dX0_findNets_14 : decode cX0_findNets 14 = .ok (.iload_n 3, 1) := by decide +kernel
theorem dX0_findNets_15 : decode cX0_findNets 15 = .ok (.aload_n 1, 1) := by decide +kernel
theorem dX0_findNets_16 : decode cX0_findNets 16 = .ok (.iload 4, 2) := by decide +kernel
theorem dX0_findNets_18 : decode cX0_findNets 18 = .ok (.iaload, 1) := by decide +kernel
theorem dX0_findNets_19 : decode cX0_findNets 19 = .ok (.invokestatic 48, 3) := by decide +kernel
theorem dX0_findNets_22 : decode cX0_findNets 22 = .ok (.istore 5, 2) := by decide +kernel
theorem dX0_findNets_24 : decode cX0_findNets 24 = .ok (.aload_n 0, 1) := by decide +kernel
theorem dX0_findNets_25 : decode cX0_findNets 25 = .ok (.getfield 15, 3) := by decide +kernel
theorem dX0_findNets_28 : decode cX0_findNets 28 = .ok (.iload 4, 2) := by decide +kernel
theorem dX0_findNets_30 : decode cX0_findNets 30 = .ok (.aload_n 1, 1) := by decide +kernel
theorem dX0_findNets_31 : decode cX0_findNets 31 = .ok (.iload 4, 2) := by decide +kernel
theorem dX0_findNets_33 : decode cX0_findNets 33 = .ok (.iaload, 1) := by decide +kernel
theorem dX0_findNets_34 : decode cX0_findNets 34 = .ok (.iload 5, 2) := by decide +kernel
theorem dX0_findNets_36 : decode cX0_findNets 36 = .ok (.isub, 1) := by decide +kernel
theorem dX0_findNets_37 : decode cX0_findNets 37 = .ok (.iastore, 1) := by decide +kernel
theorem dX0_findNets_38 : decode cX0_findNets 38 = .ok (.iload_n 3, 1) := by decide +kernel
theorem dX0_findNets_39 : decode cX0_findNets 39 = .ok (.iload 5, 2) := by decide +kernel
theorem dX0_findNets_41 : decode cX0_findNets 41 = .ok (.isub, 1) := by decide +kernel
theorem dX0_findNets_42 : decode cX0_findNets 42 = .ok (.istore_n 3, 1) := by decide +kernel
theorem dX0_findNets_43 : decode cX0_findNets 43 = .ok (.iinc 4 1, 3) := by decide +kernel
theorem dX0_findNets_46 : decode cX0_findNets 46 = .ok (.goto (-41), 3) := by decide +kernel
theorem dX0_findNets_49 : decode cX0_findNets 49 = .ok (.return_, 1) := by decide +kernel
theorem dX0_choose_0 : decode cX0_choose 0 = .ok (.aload_n 0, 1) := by decide +kernel
theorem dX0_choose_1 : decode cX0_choose 1 = .ok (.getfield 15, 3) := by decide +kernel
theorem dX0_choose_4 : decode cX0_choose 4 = .ok (.iload_n 1, 1) := by decide +kernel
theorem dX0_choose_5 : decode cX0_choose 5 = .ok (.iaload, 1) := by decide +kernel
theorem dX0_choose_6 : decode cX0_choose 6 = .ok (.ifCond .ne 14, 3) := by decide +kernel
theorem dX0_choose_9 : decode cX0_choose 9 = .ok (.aload_n 0, 1) := by decide +kernel
theorem dX0_choose_10 : decode cX0_choose 10 = .ok (.getfield 19, 3) := by decide +kernel
theorem dX0_choose_13 : decode cX0_choose 13 = .ok (.iload_n 1, 1) := by decide +kernel
theorem dX0_choose_14 : decode cX0_choose 14 = .ok (.iconst 1, 1) := by decide +kernel
theorem dX0_choose_15 : decode cX0_choose 15 = .ok (.iadd, 1) := by decide +kernel
theorem dX0_choose_16 : decode cX0_choose 16 = .ok (.laload, 1) := by decide +kernel
theorem dX0_choose_17 : decode cX0_choose 17 = .ok (.goto 6, 3) := by decide +kernel
theorem dX0_choose_20 : decode cX0_choose 20 = .ok (.ldc2_w 56, 3) := by decide +kernel
theorem dX0_choose_23 : decode cX0_choose 23 = .ok (.lstore 5, 2) := by decide +kernel
theorem dX0_choose_25 : decode cX0_choose 25 = .ok (.iload_n 1, 1) := by decide +kernel
theorem dX0_choose_26 : decode cX0_choose 26 = .ok (.iconst 1, 1) := by decide +kernel
theorem dX0_choose_27 : decode cX0_choose 27 = .ok (.isub, 1) := by decide +kernel
theorem dX0_choose_28 : decode cX0_choose 28 = .ok (.istore 7, 2) := by decide +kernel
theorem dX0_choose_30 : decode cX0_choose 30 = .ok (.iload 4, 2) := by decide +kernel
theorem dX0_choose_32 : decode cX0_choose 32 = .ok (.ifCond .le 17, 3) := by decide +kernel
theorem dX0_choose_35 : decode cX0_choose 35 = .ok (.aload_n 0, 1) := by decide +kernel
theorem dX0_choose_36 : decode cX0_choose 36 = .ok (.getfield 9, 3) := by decide +kernel
theorem dX0_choose_39 : decode cX0_choose 39 = .ok (.iload_n 1, 1) := by decide +kernel
theorem dX0_choose_40 : decode cX0_choose 40 = .ok (.iload 4, 2) := by decide +kernel
theorem dX0_choose_42 : decode cX0_choose 42 = .ok (.iadd, 1) := by decide +kernel
theorem dX0_choose_43 : decode cX0_choose 43 = .ok (.invokestatic 48, 3) := by decide +kernel
theorem dX0_choose_46 : decode cX0_choose 46 = .ok (.goto 7, 3) := by decide +kernel
theorem dX0_choose_49 : decode cX0_choose 49 = .ok (.aload_n 0, 1) := by decide +kernel
theorem dX0_choose_50 : decode cX0_choose 50 = .ok (.getfield 9, 3) := by decide +kernel
theorem dX0_choose_53 : decode cX0_choose 53 = .ok (.istore 8, 2) := by decide +kernel
theorem dX0_choose_55 : decode cX0_choose 55 = .ok (.iload_n 2, 1) := by decide +kernel
theorem dX0_choose_56 : decode cX0_choose 56 = .ok (.i2l, 1) := by decide +kernel
theorem dX0_choose_57 : decode cX0_choose 57 = .ok (.lstore 9, 2) := by decide +kernel
theorem dX0_choose_59 : decode cX0_choose 59 = .ok (.iload_n 1, 1) := by decide +kernel
theorem dX0_choose_60 : decode cX0_choose 60 = .ok (.istore 11, 2) := by decide +kernel
theorem dX0_choose_62 : decode cX0_choose 62 = .ok (.iload 11, 2) := by decide +kernel
theorem dX0_choose_64 : decode cX0_choose 64 = .ok (.iload 8, 2) := by decide +kernel
theorem dX0_choose_66 : decode cX0_choose 66 = .ok (.if_icmp .gt 87, 3) := by decide +kernel
theorem dX0_choose_69 : decode cX0_choose 69 = .ok (.lload 9, 2) := by decide +kernel
theorem dX0_choose_71 : decode cX0_choose 71 = .ok (.iload_n 3, 1) := by decide +kernel
theorem dX0_choose_72 : decode cX0_choose 72 = .ok (.i2l, 1) := by decide +kernel
theorem dX0_choose_73 : decode cX0_choose 73 = .ok (.aload_n 0, 1) := by decide +kernel
theorem dX0_choose_74 : decode cX0_choose 74 = .ok (.getfield 15, 3) := by decide +kernel
theorem dX0_choose_77 : decode cX0_choose 77 = .ok (.iload 11, 2) := by decide +kernel
theorem dX0_choose_79 : decode cX0_choose 79 = .ok (.iaload, 1) := by decide +kernel
theorem dX0_choose_80 : decode cX0_choose 80 = .ok (.i2l, 1) := by decide +kernel
theorem dX0_choose_81 : decode cX0_choose 81 = .ok (.lmul, 1) := by decide +kernel
theorem dX0_choose_82 : decode cX0_choose 82 = .ok (.iload 11, 2) := by decide +kernel
theorem dX0_choose_84 : decode cX0_choose 84 = .ok (.iload_n 1, 1) := by decide +kernel
theorem dX0_choose_85 : decode cX0_choose 85 = .ok (.isub, 1) := by decide +kernel
theorem dX0_choose_86 : decode cX0_choose 86 = .ok (.i2l, 1) := by decide +kernel
theorem dX0_choose_87 : decode cX0_choose 87 = .ok (.lmul, 1) := by decide +kernel
theorem dX0_choose_88 : decode cX0_choose 88 = .ok (.ladd, 1) := by decide +kernel
theorem dX0_choose_89 : decode cX0_choose 89 = .ok (.lstore 9, 2) := by decide +kernel
theorem dX0_choose_91 : decode cX0_choose 91 = .ok (.lload 9, 2) := by decide +kernel
theorem dX0_choose_93 : decode cX0_choose 93 = .ok (.aload_n 0, 1) := by decide +kernel
theorem dX0_choose_94 : decode cX0_choose 94 = .ok (.getfield 19, 3) := by decide +kernel
theorem dX0_choose_97 : decode cX0_choose 97 = .ok (.iload 11, 2) := by decide +kernel
theorem dX0_choose_99 : decode cX0_choose 99 = .ok (.iconst 1, 1) := by decide +kernel
theorem dX0_choose_100 : decode cX0_choose 100 = .ok (.iadd, 1) := by decide +kernel
theorem dX0_choose_101 : decode cX0_choose 101 = .ok (.laload, 1) := by decide +kernel
theorem dX0_choose_102 : decode cX0_choose 102 = .ok (.ladd, 1) := by decide +kernel
theorem dX0_choose_103 : decode cX0_choose 103 = .ok (.lstore 12, 2) := by decide +kernel
theorem dX0_choose_105 : decode cX0_choose 105 = .ok (.lload 12, 2) := by decide +kernel
theorem dX0_choose_107 : decode cX0_choose 107 = .ok (.lload 5, 2) := by decide +kernel
theorem dX0_choose_109 : decode cX0_choose 109 = .ok (.lcmp, 1) := by decide +kernel
theorem dX0_choose_110 : decode cX0_choose 110 = .ok (.ifCond .ne 13, 3) := by decide +kernel
theorem dX0_choose_113 : decode cX0_choose 113 = .ok (.iload 7, 2) := by decide +kernel
theorem dX0_choose_115 : decode cX0_choose 115 = .ok (.iload_n 1, 1) := by decide +kernel
theorem dX0_choose_116 : decode cX0_choose 116 = .ok (.if_icmp .lt 7, 3) := by decide +kernel
theorem dX0_choose_119 : decode cX0_choose 119 = .ok (.iconst 1, 1) := by decide +kernel
theorem dX0_choose_120 : decode cX0_choose 120 = .ok (.goto 4, 3) := by decide +kernel
theorem dX0_choose_123 : decode cX0_choose 123 = .ok (.iconst 0, 1) := by decide +kernel
theorem dX0_choose_124 : decode cX0_choose 124 = .ok (.istore 14, 2) := by decide +kernel
theorem dX0_choose_126 : decode cX0_choose 126 = .ok (.lload 12, 2) := by decide +kernel
theorem dX0_choose_128 : decode cX0_choose 128 = .ok (.lload 5, 2) := by decide +kernel
theorem dX0_choose_130 : decode cX0_choose 130 = .ok (.lcmp, 1) := by decide +kernel
theorem dX0_choose_131 : decode cX0_choose 131 = .ok (.ifCond .lt 8, 3) := by decide +kernel
theorem dX0_choose_134 : decode cX0_choose 134 = .ok (.iload 14, 2) := by decide +kernel
theorem dX0_choose_136 : decode cX0_choose 136 = .ok (.ifCond .eq 11, 3) := by decide +kernel
theorem dX0_choose_139 : decode cX0_choose 139 = .ok (.lload 12, 2) := by decide +kernel
theorem dX0_choose_141 : decode cX0_choose 141 = .ok (.lstore 5, 2) := by decide +kernel
theorem dX0_choose_143 : decode cX0_choose 143 = .ok (.iload 11, 2) := by decide +kernel
theorem dX0_choose_145 : decode cX0_choose 145 = .ok (.istore 7, 2) := by decide +kernel
theorem dX0_choose_147 : decode cX0_choose 147 = .ok (.iinc 11 1, 3) := by decide +kernel
theorem dX0_choose_150 : decode cX0_choose 150 = .ok (.goto (-88), 3) := by decide +kernel
theorem dX0_choose_153 : decode cX0_choose 153 = .ok (.aload_n 0, 1) := by decide +kernel
theorem dX0_choose_154 : decode cX0_choose 154 = .ok (.getfield 19, 3) := by decide +kernel
theorem dX0_choose_157 : decode cX0_choose 157 = .ok (.iload_n 1, 1) := by decide +kernel
theorem dX0_choose_158 : decode cX0_choose 158 = .ok (.lload 5, 2) := by decide +kernel
theorem dX0_choose_160 : decode cX0_choose 160 = .ok (.lastore, 1) := by decide +kernel
theorem dX0_choose_161 : decode cX0_choose 161 = .ok (.aload_n 0, 1) := by decide +kernel
theorem dX0_choose_162 : decode cX0_choose 162 = .ok (.getfield 23, 3) := by decide +kernel
theorem dX0_choose_165 : decode cX0_choose 165 = .ok (.iload_n 1, 1) := by decide +kernel
theorem dX0_choose_166 : decode cX0_choose 166 = .ok (.iload 7, 2) := by decide +kernel
theorem dX0_choose_168 : decode cX0_choose 168 = .ok (.iastore, 1) := by decide +kernel
theorem dX0_choose_169 : decode cX0_choose 169 = .ok (.return_, 1) := by decide +kernel
set_option maxRecDepth 20000 in
theorem ggX0_followChoices_X0_sumOfNets : GoodIn wsX0_followChoices wsX0_sumOfNets := goodIn_r _ [12, 13, 14, 15, 16, 17, 18] (by decide +kernel) (by decide +kernel)
set_option maxRecDepth 20000 in
theorem gX0_followChoices_X0_sumOfNets : GoodIn wsX0_followChoices (wsV RX0 58 RX0 yX0_sumOfNets wsX0_sumOfNets) := goodIn_app (goodIn_of _ (by decide +kernel)) ggX0_followChoices_X0_sumOfNets
theorem dX0_followChoices_0 : decode cX0_followChoices 0 = .ok (.iconst 1, 1) := by decide +kernel
theorem dX0_followChoices_1 : decode cX0_followChoices 1 = .ok (.istore_n 1, 1) := by decide +kernel
theorem dX0_followChoices_2 : decode cX0_followChoices 2 = .ok (.iconst 1, 1) := by decide +kernel
theorem dX0_followChoices_3 : decode cX0_followChoices 3 = .ok (.istore_n 2, 1) := by decide +kernel
theorem dX0_followChoices_4 : decode cX0_followChoices 4 = .ok (.iload_n 2, 1) := by decide +kernel
theorem dX0_followChoices_5 : decode cX0_followChoices 5 = .ok (.aload_n 0, 1) := by decide +kernel
theorem dX0_followChoices_6 : decode cX0_followChoices 6 = .ok (.getfield 9, 3) := by decide +kernel
theorem dX0_followChoices_9 : decode cX0_followChoices 9 = .ok (.if_icmp .gt 51, 3) := by decide +kernel
theorem dX0_followChoices_12 : decode cX0_followChoices 12 = .ok (.aload_n 0, 1) := by decide +kernel
theorem dX0_followChoices_13 : decode cX0_followChoices 13 = .ok (.getfield 26, 3) := by decide +kernel
theorem dX0_followChoices_16 : decode cX0_followChoices 16 = .ok (.iload_n 2, 1) := by decide +kernel
theorem dX0_followChoices_17 : decode cX0_followChoices 17 = .ok (.iconst 0, 1) := by decide +kernel
theorem dX0_followChoices_18 : decode cX0_followChoices 18 = .ok (.iastore, 1) := by decide +kernel
theorem dX0_followChoices_19 : decode cX0_followChoices 19 = .ok (.iload_n 2, 1) := by decide +kernel
theorem dX0_followChoices_20 : decode cX0_followChoices 20 = .ok (.iload_n 1, 1) := by decide +kernel
theorem dX0_followChoices_21 : decode cX0_followChoices 21 = .ok (.if_icmp .ne 33, 3) := by decide +kernel
theorem dX0_followChoices_24 : decode cX0_followChoices 24 = .ok (.aload_n 0, 1) := by decide +kernel
theorem dX0_followChoices_25 : decode cX0_followChoices 25 = .ok (.getfield 26, 3) := by decide +kernel
theorem dX0_followChoices_28 : decode cX0_followChoices 28 = .ok (.iload_n 2, 1) := by decide +kernel
theorem dX0_followChoices_29 : decode cX0_followChoices 29 = .ok (.aload_n 0, 1) := by decide +kernel
theorem dX0_followChoices_30 : decode cX0_followChoices 30 = .ok (.iload_n 2, 1) := by decide +kernel
theorem dX0_followChoices_31 : decode cX0_followChoices 31 = .ok (.aload_n 0, 1) := by decide +kernel
theorem dX0_followChoices_32 : decode cX0_followChoices 32 = .ok (.getfield 23, 3) := by decide +kernel
theorem dX0_followChoices_35 : decode cX0_followChoices 35 = .ok (.iload_n 2, 1) := by decide +kernel
theorem dX0_followChoices_36 : decode cX0_followChoices 36 = .ok (.iaload, 1) := by decide +kernel
theorem dX0_followChoices_37 : decode cX0_followChoices 37 = .ok (.invokevirtual 58, 3) := by decide +kernel
theorem dX0_followChoices_40 : decode cX0_followChoices 40 = .ok (.iastore, 1) := by decide +kernel
theorem dX0_followChoices_41 : decode cX0_followChoices 41 = .ok (.iload_n 2, 1) := by decide +kernel
theorem dX0_followChoices_42 : decode cX0_followChoices 42 = .ok (.aload_n 0, 1) := by decide +kernel
theorem dX0_followChoices_43 : decode cX0_followChoices 43 = .ok (.getfield 23, 3) := by decide +kernel
theorem dX0_followChoices_46 : decode cX0_followChoices 46 = .ok (.iload_n 2, 1) := by decide +kernel
theorem dX0_followChoices_47 : decode cX0_followChoices 47 = .ok (.iaload, 1) := by decide +kernel
theorem dX0_followChoices_48 : decode cX0_followChoices 48 = .ok (.invokestatic 61, 3) := by decide +kernel
theorem dX0_followChoices_51 : decode cX0_followChoices 51 = .ok (.iconst 1, 1) := by decide +kernel
theorem dX0_followChoices_52 : decode cX0_followChoices 52 = .ok (.iadd, 1) := by decide +kernel
theorem dX0_followChoices_53 : decode cX0_followChoices 53 = .ok (.istore_n 1, 1) := by decide +kernel
theorem dX0_followChoices_54 : decode cX0_followChoices 54 = .ok (.iinc 2 1, 3) := by decide +kernel
theorem dX0_followChoices_57 : decode cX0_followChoices 57 = .ok (.goto (-53), 3) := by decide +kernel
theorem dX0_followChoices_60 : decode cX0_followChoices 60 = .ok (.return_, 1) := by decide +kernel
theorem dX0_sumOfNets_0 : decode cX0_sumOfNets 0 = .ok (.iconst 0, 1) := by decide +kernel
theorem dX0_sumOfNets_1 : decode cX0_sumOfNets 1 = .ok (.istore_n 3, 1) := by decide +kernel
theorem dX0_sumOfNets_2 : decode cX0_sumOfNets 2 = .ok (.iload_n 1, 1) := by decide +kernel
theorem dX0_sumOfNets_3 : decode cX0_sumOfNets 3 = .ok (.istore 4, 2) := by decide +kernel
theorem dX0_sumOfNets_5 : decode cX0_sumOfNets 5 = .ok (.iload 4, 2) := by decide +kernel
theorem dX0_sumOfNets_7 : decode cX0_sumOfNets 7 = .ok (.iload_n 2, 1) := by decide +kernel
theorem dX0_sumOfNets_8 : decode cX0_sumOfNets 8 = .ok (.if_icmp .gt 19, 3) := by decide +kernel
theorem dX0_sumOfNets_11 : decode cX0_sumOfNets 11 = .ok (.iload_n 3, 1) := by decide +kernel
theorem dX0_sumOfNets_12 : decode cX0_sumOfNets 12 = .ok (.aload_n 0, 1) := by decide +kernel
theorem dX0_sumOfNets_13 : decode cX0_sumOfNets 13 = .ok (.getfield 15, 3) := by decide +kernel
theorem dX0_sumOfNets_16 : decode cX0_sumOfNets 16 = .ok (.iload 4, 2) := by decide +kernel
theorem dX0_sumOfNets_18 : decode cX0_sumOfNets 18 = .ok (.iaload, 1) := by decide +kernel
theorem dX0_sumOfNets_19 : decode cX0_sumOfNets 19 = .ok (.iadd, 1) := by decide +kernel
theorem dX0_sumOfNets_20 : decode cX0_sumOfNets 20 = .ok (.istore_n 3, 1) := by decide +kernel
theorem dX0_sumOfNets_21 : decode cX0_sumOfNets 21 = .ok (.iinc 4 1, 3) := by decide +kernel
theorem dX0_sumOfNets_24 : decode cX0_sumOfNets 24 = .ok (.goto (-19), 3) := by decide +kernel
theorem dX0_sumOfNets_27 : decode cX0_sumOfNets 27 = .ok (.iload_n 3, 1) := by decide +kernel
theorem dX0_sumOfNets_28 : decode cX0_sumOfNets 28 = .ok (.ireturn, 1) := by decide +kernel
theorem dX1_init_0 : decode cX1_init 0 = .ok (.aload_n 0, 1) := by decide +kernel
theorem dX1_init_1 : decode cX1_init 1 = .ok (.invokespecial 3, 3) := by decide +kernel
theorem dX1_init_4 : decode cX1_init 4 = .ok (.aload_n 0, 1) := by decide +kernel
theorem dX1_init_5 : decode cX1_init 5 = .ok (.iconst 0, 1) := by decide +kernel
theorem dX1_init_6 : decode cX1_init 6 = .ok (.putfield 9, 3) := by decide +kernel
theorem dX1_init_9 : decode cX1_init 9 = .ok (.aload_n 0, 1) := by decide +kernel
theorem dX1_init_10 : decode cX1_init 10 = .ok (.iload_n 1, 1) := by decide +kernel
theorem dX1_init_11 : decode cX1_init 11 = .ok (.bipush 13, 2) := by decide +kernel
theorem dX1_init_13 : decode cX1_init 13 = .ok (.imul, 1) := by decide +kernel
theorem dX1_init_14 : decode cX1_init 14 = .ok (.iconst 4, 1) := by decide +kernel
theorem dX1_init_15 : decode cX1_init 15 = .ok (.imul, 1) := by decide +kernel
theorem dX1_init_16 : decode cX1_init 16 = .ok (.newarray .int, 2) := by decide +kernel
theorem dX1_init_18 : decode cX1_init 18 = .ok (.putfield 15, 3) := by decide +kernel
theorem dX1_init_21 : decode cX1_init 21 = .ok (.return_, 1) := by decide +kernel
theorem dX1_put_0 : decode cX1_put 0 = .ok (.aload_n 0, 1) := by decide +kernel
theorem dX1_put_1 : decode cX1_put 1 = .ok (.getfield 9, 3) := by decide +kernel
theorem dX1_put_4 : decode cX1_put 4 = .ok (.iconst 4, 1) := by decide +kernel
theorem dX1_put_5 : decode cX1_put 5 = .ok (.imul, 1) := by decide +kernel
theorem dX1_put_6 : decode cX1_put 6 = .ok (.istore 5, 2) := by decide +kernel
theorem dX1_put_8 : decode cX1_put 8 = .ok (.aload_n 0, 1) := by decide +kernel
theorem dX1_put_9 : decode cX1_put 9 = .ok (.getfield 15, 3) := by decide +kernel
theorem dX1_put_12 : decode cX1_put 12 = .ok (.iload 5, 2) := by decide +kernel
theorem dX1_put_14 : decode cX1_put 14 = .ok (.iload_n 1, 1) := by decide +kernel
theorem dX1_put_15 : decode cX1_put 15 = .ok (.iastore, 1) := by decide +kernel
theorem dX1_put_16 : decode cX1_put 16 = .ok (.aload_n 0, 1) := by decide +kernel
theorem dX1_put_17 : decode cX1_put 17 = .ok (.getfield 15, 3) := by decide +kernel
theorem dX1_put_20 : decode cX1_put 20 = .ok (.iload 5, 2) := by decide +kernel
theorem dX1_put_22 : decode cX1_put 22 = .ok (.iconst 1, 1) := by decide +kernel
theorem dX1_put_23 : decode cX1_put 23 = .ok (.iadd, 1) := by decide +kernel
theorem dX1_put_24 : decode cX1_put 24 = .ok (.iload_n 2, 1) := by decide +kernel
theorem dX1_put_25 : decode cX1_put 25 = .ok (.iastore, 1) := by decide +kernel
theorem dX1_put_26 : decode cX1_put 26 = .ok (.aload_n 0, 1) := by decide +kernel
theorem dX1_put_27 : decode cX1_put 27 = .ok (.getfield 15, 3) := by decide +kernel
theorem dX1_put_30 : decode cX1_put 30 = .ok (.iload 5, 2) := by decide +kernel
theorem dX1_put_32 : decode cX1_put 32 = .ok (.iconst 2, 1) := by decide +kernel
theorem dX1_put_33 : decode cX1_put 33 = .ok (.iadd, 1) := by decide +kernel
theorem dX1_put_34 : decode cX1_put 34 = .ok (.iload_n 3, 1) := by decide +kernel
theorem dX1_put_35 : decode cX1_put 35 = .ok (.iastore, 1) := by decide +kernel
theorem dX1_put_36 : decode cX1_put 36 = .ok (.aload_n 0, 1) := by decide +kernel
theorem dX1_put_37 : decode cX1_put 37 = .ok (.getfield 15, 3) := by decide +kernel
theorem dX1_put_40 : decode cX1_put 40 = .ok (.iload 5, 2) := by decide +kernel
theorem dX1_put_42 : decode cX1_put 42 = .ok (.iconst 3, 1) := by decide +kernel
theorem dX1_put_43 : decode cX1_put 43 = .ok (.iadd, 1) := by decide +kernel
theorem dX1_put_44 : decode cX1_put 44 = .ok (.iload 4, 2) := by decide +kernel
theorem dX1_put_46 : decode cX1_put 46 = .ok (.iastore, 1) := by decide +kernel
theorem dX1_put_47 : decode cX1_put 47 = .ok (.aload_n 0, 1) := by decide +kernel
theorem dX1_put_48 : decode cX1_put 48 = .ok (.dup, 1) := by decide +kernel
theorem dX1_put_49 : decode cX1_put 49 = .ok (.getfield 9, 3) := by decide +kernel
theorem dX1_put_52 : decode cX1_put 52 = .ok (.iconst 1, 1) := by decide +kernel
theorem dX1_put_53 : decode cX1_put 53 = .ok (.iadd, 1) := by decide +kernel
theorem dX1_put_54 : decode cX1_put 54 = .ok (.putfield 9, 3) := by decide +kernel
theorem dX1_put_57 : decode cX1_put 57 = .ok (.return_, 1) := by decide +kernel
theorem dX1_cell_0 : decode cX1_cell 0 = .ok (.aload_n 0, 1) := by decide +kernel
theorem dX1_cell_1 : decode cX1_cell 1 = .ok (.getfield 15, 3) := by decide +kernel
theorem dX1_cell_4 : decode cX1_cell 4 = .ok (.iload_n 1, 1) := by decide +kernel
theorem dX1_cell_5 : decode cX1_cell 5 = .ok (.iconst 4, 1) := by decide +kernel
theorem dX1_cell_6 : decode cX1_cell 6 = .ok (.imul, 1) := by decide +kernel
theorem dX1_cell_7 : decode cX1_cell 7 = .ok (.iload_n 2, 1) := by decide +kernel
theorem dX1_cell_8 : decode cX1_cell 8 = .ok (.iadd, 1) := by decide +kernel
theorem dX1_cell_9 : decode cX1_cell 9 = .ok (.iaload, 1) := by decide +kernel
theorem dX1_cell_10 : decode cX1_cell 10 = .ok (.ireturn, 1) := by decide +kernel
set_option maxRecDepth 20000 in
theorem ggX2_init_X4_init : GoodIn wsX2_init wsX4_init := goodIn_r _ [15, 16, 2, 3, 4, 17, 18, 19, 25, 26, 27] (by decide +kernel) (by decide +kernel)
set_option maxRecDepth 20000 in
theorem gX2_init_X4_init : GoodIn wsX2_init (wsX4_init) := ggX2_init_X4_init
theorem dX2_init_0 : decode cX2_init 0 = .ok (.aload_n 0, 1) := by decide +kernel
theorem dX2_init_1 : decode cX2_init 1 = .ok (.invokespecial 3, 3) := by decide +kernel
theorem dX2_init_4 : decode cX2_init 4 = .ok (.aload_n 0, 1) := by decide +kernel
theorem dX2_init_5 : decode cX2_init 5 = .ok (.bipush 8, 2) := by decide +kernel
theorem dX2_init_7 : decode cX2_init 7 = .ok (.newarray .int, 2) := by decide +kernel
theorem dX2_init_9 : decode cX2_init 9 = .ok (.putfield 9, 3) := by decide +kernel
theorem dX2_init_12 : decode cX2_init 12 = .ok (.aload_n 0, 1) := by decide +kernel
theorem dX2_init_13 : decode cX2_init 13 = .ok (.iload_n 1, 1) := by decide +kernel
theorem dX2_init_14 : decode cX2_init 14 = .ok (.iconst 1, 1) := by decide +kernel
theorem dX2_init_15 : decode cX2_init 15 = .ok (.iadd, 1) := by decide +kernel
theorem dX2_init_16 : decode cX2_init 16 = .ok (.newarray .int, 2) := by decide +kernel
theorem dX2_init_18 : decode cX2_init 18 = .ok (.putfield 15, 3) := by decide +kernel
theorem dX2_init_21 : decode cX2_init 21 = .ok (.aload_n 0, 1) := by decide +kernel
theorem dX2_init_22 : decode cX2_init 22 = .ok (.iload_n 1, 1) := by decide +kernel
theorem dX2_init_23 : decode cX2_init 23 = .ok (.iconst 1, 1) := by decide +kernel
theorem dX2_init_24 : decode cX2_init 24 = .ok (.iadd, 1) := by decide +kernel
theorem dX2_init_25 : decode cX2_init 25 = .ok (.newarray .int, 2) := by decide +kernel
theorem dX2_init_27 : decode cX2_init 27 = .ok (.putfield 18, 3) := by decide +kernel
theorem dX2_init_30 : decode cX2_init 30 = .ok (.aload_n 0, 1) := by decide +kernel
theorem dX2_init_31 : decode cX2_init 31 = .ok (.bipush 6, 2) := by decide +kernel
theorem dX2_init_33 : decode cX2_init 33 = .ok (.newarray .int, 2) := by decide +kernel
theorem dX2_init_35 : decode cX2_init 35 = .ok (.putfield 21, 3) := by decide +kernel
theorem dX2_init_38 : decode cX2_init 38 = .ok (.aload_n 0, 1) := by decide +kernel
theorem dX2_init_39 : decode cX2_init 39 = .ok (.new 24, 3) := by decide +kernel
theorem dX2_init_42 : decode cX2_init 42 = .ok (.dup, 1) := by decide +kernel
theorem dX2_init_43 : decode cX2_init 43 = .ok (.iload_n 1, 1) := by decide +kernel
theorem dX2_init_44 : decode cX2_init 44 = .ok (.invokespecial 26, 3) := by decide +kernel
theorem dX2_init_47 : decode cX2_init 47 = .ok (.putfield 29, 3) := by decide +kernel
theorem dX2_init_50 : decode cX2_init 50 = .ok (.return_, 1) := by decide +kernel
theorem dX2_wholes_0 : decode cX2_wholes 0 = .ok (.iconst 0, 1) := by decide +kernel
theorem dX2_wholes_1 : decode cX2_wholes 1 = .ok (.istore_n 1, 1) := by decide +kernel
theorem dX2_wholes_2 : decode cX2_wholes 2 = .ok (.iconst 0, 1) := by decide +kernel
theorem dX2_wholes_3 : decode cX2_wholes 3 = .ok (.istore_n 2, 1) := by decide +kernel
theorem dX2_wholes_4 : decode cX2_wholes 4 = .ok (.iload_n 2, 1) := by decide +kernel
theorem dX2_wholes_5 : decode cX2_wholes 5 = .ok (.bipush 6, 2) := by decide +kernel
theorem dX2_wholes_7 : decode cX2_wholes 7 = .ok (.if_icmp .ge 24, 3) := by decide +kernel
theorem dX2_wholes_10 : decode cX2_wholes 10 = .ok (.aload_n 0, 1) := by decide +kernel
theorem dX2_wholes_11 : decode cX2_wholes 11 = .ok (.getfield 21, 3) := by decide +kernel
theorem dX2_wholes_14 : decode cX2_wholes 14 = .ok (.iload_n 2, 1) := by decide +kernel
theorem dX2_wholes_15 : decode cX2_wholes 15 = .ok (.iaload, 1) := by decide +kernel
theorem dX2_wholes_16 : decode cX2_wholes 16 = .ok (.ifCond .le 9, 3) := by decide +kernel
theorem dX2_wholes_19 : decode cX2_wholes 19 = .ok (.iload_n 1, 1) := by decide +kernel
theorem dX2_wholes_20 : decode cX2_wholes 20 = .ok (.iconst 1, 1) := by decide +kernel
theorem dX2_wholes_21 : decode cX2_wholes 21 = .ok (.iload_n 2, 1) := by decide +kernel
theorem dX2_wholes_22 : decode cX2_wholes 22 = .ok (.ishl, 1) := by decide +kernel
theorem dX2_wholes_23 : decode cX2_wholes 23 = .ok (.ior, 1) := by decide +kernel
theorem dX2_wholes_24 : decode cX2_wholes 24 = .ok (.istore_n 1, 1) := by decide +kernel
theorem dX2_wholes_25 : decode cX2_wholes 25 = .ok (.iinc 2 1, 3) := by decide +kernel
theorem dX2_wholes_28 : decode cX2_wholes 28 = .ok (.goto (-24), 3) := by decide +kernel
theorem dX2_wholes_31 : decode cX2_wholes 31 = .ok (.iload_n 1, 1) := by decide +kernel
theorem dX2_wholes_32 : decode cX2_wholes 32 = .ok (.ireturn, 1) := by decide +kernel
theorem dX2_coming_0 : decode cX2_coming 0 = .ok (.iload_n 1, 1) := by decide +kernel
theorem dX2_coming_1 : decode cX2_coming 1 = .ok (.aload_n 0, 1) := by decide +kernel
theorem dX2_coming_2 : decode cX2_coming 2 = .ok (.getfield 9, 3) := by decide +kernel
theorem dX2_coming_5 : decode cX2_coming 5 = .ok (.bipush 7, 2) := by decide +kernel
theorem dX2_coming_7 : decode cX2_coming 7 = .ok (.iaload, 1) := by decide +kernel
theorem dX2_coming_8 : decode cX2_coming 8 = .ok (.isub, 1) := by decide +kernel
theorem dX2_coming_9 : decode cX2_coming 9 = .ok (.istore_n 2, 1) := by decide +kernel
theorem dX2_coming_10 : decode cX2_coming 10 = .ok (.iload_n 2, 1) := by decide +kernel
theorem dX2_coming_11 : decode cX2_coming 11 = .ok (.iconst 1, 1) := by decide +kernel
theorem dX2_coming_12 : decode cX2_coming 12 = .ok (.if_icmp .lt 12, 3) := by decide +kernel
theorem dX2_coming_15 : decode cX2_coming 15 = .ok (.aload_n 0, 1) := by decide +kernel
theorem dX2_coming_16 : decode cX2_coming 16 = .ok (.getfield 18, 3) := by decide +kernel
theorem dX2_coming_19 : decode cX2_coming 19 = .ok (.iload_n 2, 1) := by decide +kernel
theorem dX2_coming_20 : decode cX2_coming 20 = .ok (.iaload, 1) := by decide +kernel
theorem dX2_coming_21 : decode cX2_coming 21 = .ok (.goto 4, 3) := by decide +kernel
theorem dX2_coming_24 : decode cX2_coming 24 = .ok (.iconst 0, 1) := by decide +kernel
theorem dX2_coming_25 : decode cX2_coming 25 = .ok (.ireturn, 1) := by decide +kernel
theorem dX3_init_0 : decode cX3_init 0 = .ok (.aload_n 0, 1) := by decide +kernel
theorem dX3_init_1 : decode cX3_init 1 = .ok (.invokespecial 3, 3) := by decide +kernel
theorem dX3_init_4 : decode cX3_init 4 = .ok (.aload_n 0, 1) := by decide +kernel
theorem dX3_init_5 : decode cX3_init 5 = .ok (.iload_n 1, 1) := by decide +kernel
theorem dX3_init_6 : decode cX3_init 6 = .ok (.iconst 1, 1) := by decide +kernel
theorem dX3_init_7 : decode cX3_init 7 = .ok (.iadd, 1) := by decide +kernel
theorem dX3_init_8 : decode cX3_init 8 = .ok (.newarray .int, 2) := by decide +kernel
theorem dX3_init_10 : decode cX3_init 10 = .ok (.putfield 9, 3) := by decide +kernel
theorem dX3_init_13 : decode cX3_init 13 = .ok (.aload_n 0, 1) := by decide +kernel
theorem dX3_init_14 : decode cX3_init 14 = .ok (.iload_n 1, 1) := by decide +kernel
theorem dX3_init_15 : decode cX3_init 15 = .ok (.iconst 1, 1) := by decide +kernel
theorem dX3_init_16 : decode cX3_init 16 = .ok (.iadd, 1) := by decide +kernel
theorem dX3_init_17 : decode cX3_init 17 = .ok (.newarray .int, 2) := by decide +kernel
theorem dX3_init_19 : decode cX3_init 19 = .ok (.putfield 15, 3) := by decide +kernel
theorem dX3_init_22 : decode cX3_init 22 = .ok (.aload_n 0, 1) := by decide +kernel
theorem dX3_init_23 : decode cX3_init 23 = .ok (.getfield 15, 3) := by decide +kernel
theorem dX3_init_26 : decode cX3_init 26 = .ok (.iconst 0, 1) := by decide +kernel
theorem dX3_init_27 : decode cX3_init 27 = .ok (.bipush (-3), 2) := by decide +kernel
theorem dX3_init_29 : decode cX3_init 29 = .ok (.iastore, 1) := by decide +kernel
theorem dX3_init_30 : decode cX3_init 30 = .ok (.return_, 1) := by decide +kernel
theorem dX3_follow_0 : decode cX3_follow 0 = .ok (.iconst 1, 1) := by decide +kernel
theorem dX3_follow_1 : decode cX3_follow 1 = .ok (.istore_n 3, 1) := by decide +kernel
theorem dX3_follow_2 : decode cX3_follow 2 = .ok (.iload_n 3, 1) := by decide +kernel
theorem dX3_follow_3 : decode cX3_follow 3 = .ok (.aload_n 0, 1) := by decide +kernel
theorem dX3_follow_4 : decode cX3_follow 4 = .ok (.getfield 15, 3) := by decide +kernel
theorem dX3_follow_7 : decode cX3_follow 7 = .ok (.arraylength, 1) := by decide +kernel
theorem dX3_follow_8 : decode cX3_follow 8 = .ok (.if_icmp .ge 89, 3) := by decide +kernel
theorem dX3_follow_11 : decode cX3_follow 11 = .ok (.aload_n 0, 1) := by decide +kernel
theorem dX3_follow_12 : decode cX3_follow 12 = .ok (.getfield 15, 3) := by decide +kernel
theorem dX3_follow_15 : decode cX3_follow 15 = .ok (.iload_n 3, 1) := by decide +kernel
theorem dX3_follow_16 : decode cX3_follow 16 = .ok (.iconst 1, 1) := by decide +kernel
theorem dX3_follow_17 : decode cX3_follow 17 = .ok (.isub, 1) := by decide +kernel
theorem dX3_follow_18 : decode cX3_follow 18 = .ok (.iaload, 1) := by decide +kernel
theorem dX3_follow_19 : decode cX3_follow 19 = .ok (.istore 4, 2) := by decide +kernel
theorem dX3_follow_21 : decode cX3_follow 21 = .ok (.aload_n 0, 1) := by decide +kernel
theorem dX3_follow_22 : decode cX3_follow 22 = .ok (.getfield 9, 3) := by decide +kernel
theorem dX3_follow_25 : decode cX3_follow 25 = .ok (.iload_n 3, 1) := by decide +kernel
theorem dX3_follow_26 : decode cX3_follow 26 = .ok (.iconst 0, 1) := by decide +kernel
theorem dX3_follow_27 : decode cX3_follow 27 = .ok (.iastore, 1) := by decide +kernel
theorem dX3_follow_28 : decode cX3_follow 28 = .ok (.aload_n 0, 1) := by decide +kernel
theorem dX3_follow_29 : decode cX3_follow 29 = .ok (.getfield 15, 3) := by decide +kernel
theorem dX3_follow_32 : decode cX3_follow 32 = .ok (.iload_n 3, 1) := by decide +kernel
theorem dX3_follow_33 : decode cX3_follow 33 = .ok (.iload 4, 2) := by decide +kernel
theorem dX3_follow_35 : decode cX3_follow 35 = .ok (.iastore, 1) := by decide +kernel
theorem dX3_follow_36 : decode cX3_follow 36 = .ok (.iconst 0, 1) := by decide +kernel
theorem dX3_follow_37 : decode cX3_follow 37 = .ok (.istore 5, 2) := by decide +kernel
theorem dX3_follow_39 : decode cX3_follow 39 = .ok (.iload 5, 2) := by decide +kernel
theorem dX3_follow_41 : decode cX3_follow 41 = .ok (.iload_n 2, 1) := by decide +kernel
theorem dX3_follow_42 : decode cX3_follow 42 = .ok (.if_icmp .ge 49, 3) := by decide +kernel
theorem dX3_follow_45 : decode cX3_follow 45 = .ok (.iload 5, 2) := by decide +kernel
theorem dX3_follow_47 : decode cX3_follow 47 = .ok (.iload 4, 2) := by decide +kernel
theorem dX3_follow_49 : decode cX3_follow 49 = .ok (.if_icmp .eq 36, 3) := by decide +kernel
theorem dX3_follow_52 : decode cX3_follow 52 = .ok (.aload_n 1, 1) := by decide +kernel
theorem dX3_follow_53 : decode cX3_follow 53 = .ok (.iload 5, 2) := by decide +kernel
theorem dX3_follow_55 : decode cX3_follow 55 = .ok (.aaload, 1) := by decide +kernel
theorem dX3_follow_56 : decode cX3_follow 56 = .ok (.getfield 18, 3) := by decide +kernel
theorem dX3_follow_59 : decode cX3_follow 59 = .ok (.iload_n 3, 1) := by decide +kernel
theorem dX3_follow_60 : decode cX3_follow 60 = .ok (.iaload, 1) := by decide +kernel
theorem dX3_follow_61 : decode cX3_follow 61 = .ok (.ifCond .le 24, 3) := by decide +kernel
theorem dX3_follow_64 : decode cX3_follow 64 = .ok (.aload_n 0, 1) := by decide +kernel
theorem dX3_follow_65 : decode cX3_follow 65 = .ok (.getfield 9, 3) := by decide +kernel
theorem dX3_follow_68 : decode cX3_follow 68 = .ok (.iload_n 3, 1) := by decide +kernel
theorem dX3_follow_69 : decode cX3_follow 69 = .ok (.dup2, 1) := by decide +kernel
theorem dX3_follow_70 : decode cX3_follow 70 = .ok (.iaload, 1) := by decide +kernel
theorem dX3_follow_71 : decode cX3_follow 71 = .ok (.iconst 1, 1) := by decide +kernel
theorem dX3_follow_72 : decode cX3_follow 72 = .ok (.iload 5, 2) := by decide +kernel
theorem dX3_follow_74 : decode cX3_follow 74 = .ok (.ishl, 1) := by decide +kernel
theorem dX3_follow_75 : decode cX3_follow 75 = .ok (.ior, 1) := by decide +kernel
theorem dX3_follow_76 : decode cX3_follow 76 = .ok (.iastore, 1) := by decide +kernel
theorem dX3_follow_77 : decode cX3_follow 77 = .ok (.aload_n 0, 1) := by decide +kernel
theorem dX3_follow_78 : decode cX3_follow 78 = .ok (.getfield 15, 3) := by decide +kernel
theorem dX3_follow_81 : decode cX3_follow 81 = .ok (.iload_n 3, 1) := by decide +kernel
theorem dX3_follow_82 : decode cX3_follow 82 = .ok (.iload 5, 2) := by decide +kernel
theorem dX3_follow_84 : decode cX3_follow 84 = .ok (.iastore, 1) := by decide +kernel
theorem dX3_follow_85 : decode cX3_follow 85 = .ok (.iinc 5 1, 3) := by decide +kernel
theorem dX3_follow_88 : decode cX3_follow 88 = .ok (.goto (-49), 3) := by decide +kernel
theorem dX3_follow_91 : decode cX3_follow 91 = .ok (.iinc 3 1, 3) := by decide +kernel
theorem dX3_follow_94 : decode cX3_follow 94 = .ok (.goto (-92), 3) := by decide +kernel
theorem dX3_follow_97 : decode cX3_follow 97 = .ok (.return_, 1) := by decide +kernel
theorem dX3_setsUp_0 : decode cX3_setsUp 0 = .ok (.aload_n 0, 1) := by decide +kernel
theorem dX3_setsUp_1 : decode cX3_setsUp 1 = .ok (.getfield 9, 3) := by decide +kernel
theorem dX3_setsUp_4 : decode cX3_setsUp 4 = .ok (.iload_n 2, 1) := by decide +kernel
theorem dX3_setsUp_5 : decode cX3_setsUp 5 = .ok (.iaload, 1) := by decide +kernel
theorem dX3_setsUp_6 : decode cX3_setsUp 6 = .ok (.iconst 1, 1) := by decide +kernel
theorem dX3_setsUp_7 : decode cX3_setsUp 7 = .ok (.iload_n 1, 1) := by decide +kernel
theorem dX3_setsUp_8 : decode cX3_setsUp 8 = .ok (.ishl, 1) := by decide +kernel
theorem dX3_setsUp_9 : decode cX3_setsUp 9 = .ok (.iand, 1) := by decide +kernel
theorem dX3_setsUp_10 : decode cX3_setsUp 10 = .ok (.ifCond .eq 7, 3) := by decide +kernel
theorem dX3_setsUp_13 : decode cX3_setsUp 13 = .ok (.iconst 1, 1) := by decide +kernel
theorem dX3_setsUp_14 : decode cX3_setsUp 14 = .ok (.goto 4, 3) := by decide +kernel
theorem dX3_setsUp_17 : decode cX3_setsUp 17 = .ok (.iconst 0, 1) := by decide +kernel
theorem dX3_setsUp_18 : decode cX3_setsUp 18 = .ok (.ireturn, 1) := by decide +kernel
theorem dX4_init_0 : decode cX4_init 0 = .ok (.aload_n 0, 1) := by decide +kernel
theorem dX4_init_1 : decode cX4_init 1 = .ok (.invokespecial 1, 3) := by decide +kernel
theorem dX4_init_4 : decode cX4_init 4 = .ok (.aload_n 0, 1) := by decide +kernel
theorem dX4_init_5 : decode cX4_init 5 = .ok (.iload_n 1, 1) := by decide +kernel
theorem dX4_init_6 : decode cX4_init 6 = .ok (.iconst 1, 1) := by decide +kernel
theorem dX4_init_7 : decode cX4_init 7 = .ok (.iadd, 1) := by decide +kernel
theorem dX4_init_8 : decode cX4_init 8 = .ok (.newarray .int, 2) := by decide +kernel
theorem dX4_init_10 : decode cX4_init 10 = .ok (.putfield 7, 3) := by decide +kernel
theorem dX4_init_13 : decode cX4_init 13 = .ok (.aload_n 0, 1) := by decide +kernel
theorem dX4_init_14 : decode cX4_init 14 = .ok (.iload_n 1, 1) := by decide +kernel
theorem dX4_init_15 : decode cX4_init 15 = .ok (.iconst 1, 1) := by decide +kernel
theorem dX4_init_16 : decode cX4_init 16 = .ok (.iadd, 1) := by decide +kernel
theorem dX4_init_17 : decode cX4_init 17 = .ok (.newarray .int, 2) := by decide +kernel
theorem dX4_init_19 : decode cX4_init 19 = .ok (.putfield 13, 3) := by decide +kernel
theorem dX4_init_22 : decode cX4_init 22 = .ok (.aload_n 0, 1) := by decide +kernel
theorem dX4_init_23 : decode cX4_init 23 = .ok (.iload_n 1, 1) := by decide +kernel
theorem dX4_init_24 : decode cX4_init 24 = .ok (.iconst 1, 1) := by decide +kernel
theorem dX4_init_25 : decode cX4_init 25 = .ok (.iadd, 1) := by decide +kernel
theorem dX4_init_26 : decode cX4_init 26 = .ok (.newarray .int, 2) := by decide +kernel
theorem dX4_init_28 : decode cX4_init 28 = .ok (.putfield 16, 3) := by decide +kernel
theorem dX4_init_31 : decode cX4_init 31 = .ok (.return_, 1) := by decide +kernel
theorem dX4_begin_0 : decode cX4_begin 0 = .ok (.aload_n 0, 1) := by decide +kernel
theorem dX4_begin_1 : decode cX4_begin 1 = .ok (.getfield 7, 3) := by decide +kernel
theorem dX4_begin_4 : decode cX4_begin 4 = .ok (.iconst 0, 1) := by decide +kernel
theorem dX4_begin_5 : decode cX4_begin 5 = .ok (.iload_n 1, 1) := by decide +kernel
theorem dX4_begin_6 : decode cX4_begin 6 = .ok (.iastore, 1) := by decide +kernel
theorem dX4_begin_7 : decode cX4_begin 7 = .ok (.aload_n 0, 1) := by decide +kernel
theorem dX4_begin_8 : decode cX4_begin 8 = .ok (.getfield 16, 3) := by decide +kernel
theorem dX4_begin_11 : decode cX4_begin 11 = .ok (.iconst 0, 1) := by decide +kernel
theorem dX4_begin_12 : decode cX4_begin 12 = .ok (.iload_n 1, 1) := by decide +kernel
theorem dX4_begin_13 : decode cX4_begin 13 = .ok (.iastore, 1) := by decide +kernel
theorem dX4_begin_14 : decode cX4_begin 14 = .ok (.return_, 1) := by decide +kernel
set_option maxRecDepth 20000 in
theorem ggX4_pass_X4_owedAt : GoodIn wsX4_pass wsX4_owedAt := goodIn_r _ [8, 3, 9, 10, 11, 12, 24, 25, 26] (by decide +kernel) (by decide +kernel)
set_option maxRecDepth 20000 in
theorem gX4_pass_X4_owedAt : GoodIn wsX4_pass (wsV RX4 19 RX4 yX4_owedAt wsX4_owedAt) := goodIn_app (goodIn_of _ (by decide +kernel)) ggX4_pass_X4_owedAt
set_option maxRecDepth 20000 in
theorem ggX4_pass_X4_take : GoodIn wsX4_pass wsX4_take := goodIn_r _ [16, 1, 17, 18, 11, 19, 24, 25, 26] (by decide +kernel) (by decide +kernel)
set_option maxRecDepth 20000 in
theorem gX4_pass_X4_take : GoodIn wsX4_pass (wsV RX4 23 RX4 yX4_take wsX4_take) := goodIn_app (goodIn_of _ (by decide +kernel)) ggX4_pass_X4_take
set_option maxRecDepth 20000 in
theorem ggX4_pass_X4_spoil : GoodIn wsX4_pass wsX4_spoil := goodIn_r _ [23, 1, 24, 25, 26] (by decide +kernel) (by decide +kernel)
set_option maxRecDepth 20000 in
theorem gX4_pass_X4_spoil : GoodIn wsX4_pass (wsV RX4 27 RX4 yX4_spoil wsX4_spoil) := goodIn_app (goodIn_of _ (by decide +kernel)) ggX4_pass_X4_spoil
theorem dX4_pass_0 : decode cX4_pass 0 = .ok (.aload_n 0, 1) := by decide +kernel
theorem dX4_pass_1 : decode cX4_pass 1 = .ok (.getfield 16, 3) := by decide +kernel
theorem dX4_pass_4 : decode cX4_pass 4 = .ok (.iload_n 1, 1) := by decide +kernel
theorem dX4_pass_5 : decode cX4_pass 5 = .ok (.iload_n 2, 1) := by decide +kernel
theorem dX4_pass_6 : decode cX4_pass 6 = .ok (.iastore, 1) := by decide +kernel
theorem dX4_pass_7 : decode cX4_pass 7 = .ok (.aload_n 0, 1) := by decide +kernel
theorem dX4_pass_8 : decode cX4_pass 8 = .ok (.iload_n 1, 1) := by decide +kernel
theorem dX4_pass_9 : decode cX4_pass 9 = .ok (.iload_n 3, 1) := by decide +kernel
theorem dX4_pass_10 : decode cX4_pass 10 = .ok (.aload_n 0, 1) := by decide +kernel
theorem dX4_pass_11 : decode cX4_pass 11 = .ok (.iload_n 1, 1) := by decide +kernel
theorem dX4_pass_12 : decode cX4_pass 12 = .ok (.iconst 1, 1) := by decide +kernel
theorem dX4_pass_13 : decode cX4_pass 13 = .ok (.isub, 1) := by decide +kernel
theorem dX4_pass_14 : decode cX4_pass 14 = .ok (.invokevirtual 19, 3) := by decide +kernel
theorem dX4_pass_17 : decode cX4_pass 17 = .ok (.iadd, 1) := by decide +kernel
theorem dX4_pass_18 : decode cX4_pass 18 = .ok (.invokevirtual 23, 3) := by decide +kernel
theorem dX4_pass_21 : decode cX4_pass 21 = .ok (.aload_n 0, 1) := by decide +kernel
theorem dX4_pass_22 : decode cX4_pass 22 = .ok (.getfield 13, 3) := by decide +kernel
theorem dX4_pass_25 : decode cX4_pass 25 = .ok (.iload_n 1, 1) := by decide +kernel
theorem dX4_pass_26 : decode cX4_pass 26 = .ok (.iload 4, 2) := by decide +kernel
theorem dX4_pass_28 : decode cX4_pass 28 = .ok (.ifCond .le 20, 3) := by decide +kernel
theorem dX4_pass_31 : decode cX4_pass 31 = .ok (.iload 4, 2) := by decide +kernel
theorem dX4_pass_33 : decode cX4_pass 33 = .ok (.iload_n 1, 1) := by decide +kernel
theorem dX4_pass_34 : decode cX4_pass 34 = .ok (.if_icmp .gt 14, 3) := by decide +kernel
theorem dX4_pass_37 : decode cX4_pass 37 = .ok (.aload_n 0, 1) := by decide +kernel
theorem dX4_pass_38 : decode cX4_pass 38 = .ok (.iload_n 1, 1) := by decide +kernel
theorem dX4_pass_39 : decode cX4_pass 39 = .ok (.iload 4, 2) := by decide +kernel
theorem dX4_pass_41 : decode cX4_pass 41 = .ok (.isub, 1) := by decide +kernel
theorem dX4_pass_42 : decode cX4_pass 42 = .ok (.invokevirtual 27, 3) := by decide +kernel
theorem dX4_pass_45 : decode cX4_pass 45 = .ok (.goto 4, 3) := by decide +kernel
theorem dX4_pass_48 : decode cX4_pass 48 = .ok (.iconst 0, 1) := by decide +kernel
theorem dX4_pass_49 : decode cX4_pass 49 = .ok (.iastore, 1) := by decide +kernel
theorem dX4_pass_50 : decode cX4_pass 50 = .ok (.aload_n 0, 1) := by decide +kernel
theorem dX4_pass_51 : decode cX4_pass 51 = .ok (.getfield 7, 3) := by decide +kernel
theorem dX4_pass_54 : decode cX4_pass 54 = .ok (.iload_n 1, 1) := by decide +kernel
theorem dX4_pass_55 : decode cX4_pass 55 = .ok (.aload_n 0, 1) := by decide +kernel
theorem dX4_pass_56 : decode cX4_pass 56 = .ok (.getfield 7, 3) := by decide +kernel
theorem dX4_pass_59 : decode cX4_pass 59 = .ok (.iload_n 1, 1) := by decide +kernel
theorem dX4_pass_60 : decode cX4_pass 60 = .ok (.iconst 1, 1) := by decide +kernel
theorem dX4_pass_61 : decode cX4_pass 61 = .ok (.isub, 1) := by decide +kernel
theorem dX4_pass_62 : decode cX4_pass 62 = .ok (.iaload, 1) := by decide +kernel
theorem dX4_pass_63 : decode cX4_pass 63 = .ok (.iload_n 2, 1) := by decide +kernel
theorem dX4_pass_64 : decode cX4_pass 64 = .ok (.iadd, 1) := by decide +kernel
theorem dX4_pass_65 : decode cX4_pass 65 = .ok (.iload_n 3, 1) := by decide +kernel
theorem dX4_pass_66 : decode cX4_pass 66 = .ok (.isub, 1) := by decide +kernel
theorem dX4_pass_67 : decode cX4_pass 67 = .ok (.aload_n 0, 1) := by decide +kernel
theorem dX4_pass_68 : decode cX4_pass 68 = .ok (.getfield 13, 3) := by decide +kernel
theorem dX4_pass_71 : decode cX4_pass 71 = .ok (.iload_n 1, 1) := by decide +kernel
theorem dX4_pass_72 : decode cX4_pass 72 = .ok (.iaload, 1) := by decide +kernel
theorem dX4_pass_73 : decode cX4_pass 73 = .ok (.isub, 1) := by decide +kernel
theorem dX4_pass_74 : decode cX4_pass 74 = .ok (.iastore, 1) := by decide +kernel
theorem dX4_pass_75 : decode cX4_pass 75 = .ok (.return_, 1) := by decide +kernel
theorem dX4_owedAt_0 : decode cX4_owedAt 0 = .ok (.iconst 0, 1) := by decide +kernel
theorem dX4_owedAt_1 : decode cX4_owedAt 1 = .ok (.aload_n 0, 1) := by decide +kernel
theorem dX4_owedAt_2 : decode cX4_owedAt 2 = .ok (.getfield 7, 3) := by decide +kernel
theorem dX4_owedAt_5 : decode cX4_owedAt 5 = .ok (.iload_n 1, 1) := by decide +kernel
theorem dX4_owedAt_6 : decode cX4_owedAt 6 = .ok (.iaload, 1) := by decide +kernel
theorem dX4_owedAt_7 : decode cX4_owedAt 7 = .ok (.ineg, 1) := by decide +kernel
theorem dX4_owedAt_8 : decode cX4_owedAt 8 = .ok (.invokestatic 30, 3) := by decide +kernel
theorem dX4_owedAt_11 : decode cX4_owedAt 11 = .ok (.ireturn, 1) := by decide +kernel
theorem dX4_take_0 : decode cX4_take 0 = .ok (.iload_n 2, 1) := by decide +kernel
theorem dX4_take_1 : decode cX4_take 1 = .ok (.istore_n 3, 1) := by decide +kernel
theorem dX4_take_2 : decode cX4_take 2 = .ok (.iconst 0, 1) := by decide +kernel
theorem dX4_take_3 : decode cX4_take 3 = .ok (.istore 4, 2) := by decide +kernel
theorem dX4_take_5 : decode cX4_take 5 = .ok (.iload 4, 2) := by decide +kernel
theorem dX4_take_7 : decode cX4_take 7 = .ok (.iload_n 1, 1) := by decide +kernel
theorem dX4_take_8 : decode cX4_take 8 = .ok (.if_icmp .gt 39, 3) := by decide +kernel
theorem dX4_take_11 : decode cX4_take 11 = .ok (.aload_n 0, 1) := by decide +kernel
theorem dX4_take_12 : decode cX4_take 12 = .ok (.getfield 16, 3) := by decide +kernel
theorem dX4_take_15 : decode cX4_take 15 = .ok (.iload 4, 2) := by decide +kernel
theorem dX4_take_17 : decode cX4_take 17 = .ok (.iaload, 1) := by decide +kernel
theorem dX4_take_18 : decode cX4_take 18 = .ok (.iload_n 3, 1) := by decide +kernel
theorem dX4_take_19 : decode cX4_take 19 = .ok (.invokestatic 36, 3) := by decide +kernel
theorem dX4_take_22 : decode cX4_take 22 = .ok (.istore 5, 2) := by decide +kernel
theorem dX4_take_24 : decode cX4_take 24 = .ok (.aload_n 0, 1) := by decide +kernel
theorem dX4_take_25 : decode cX4_take 25 = .ok (.getfield 16, 3) := by decide +kernel
theorem dX4_take_28 : decode cX4_take 28 = .ok (.iload 4, 2) := by decide +kernel
theorem dX4_take_30 : decode cX4_take 30 = .ok (.dup2, 1) := by decide +kernel
theorem dX4_take_31 : decode cX4_take 31 = .ok (.iaload, 1) := by decide +kernel
theorem dX4_take_32 : decode cX4_take 32 = .ok (.iload 5, 2) := by decide +kernel
theorem dX4_take_34 : decode cX4_take 34 = .ok (.isub, 1) := by decide +kernel
theorem dX4_take_35 : decode cX4_take 35 = .ok (.iastore, 1) := by decide +kernel
theorem dX4_take_36 : decode cX4_take 36 = .ok (.iload_n 3, 1) := by decide +kernel
theorem dX4_take_37 : decode cX4_take 37 = .ok (.iload 5, 2) := by decide +kernel
theorem dX4_take_39 : decode cX4_take 39 = .ok (.isub, 1) := by decide +kernel
theorem dX4_take_40 : decode cX4_take 40 = .ok (.istore_n 3, 1) := by decide +kernel
theorem dX4_take_41 : decode cX4_take 41 = .ok (.iinc 4 1, 3) := by decide +kernel
theorem dX4_take_44 : decode cX4_take 44 = .ok (.goto (-39), 3) := by decide +kernel
theorem dX4_take_47 : decode cX4_take 47 = .ok (.return_, 1) := by decide +kernel
theorem dX4_spoil_0 : decode cX4_spoil 0 = .ok (.aload_n 0, 1) := by decide +kernel
theorem dX4_spoil_1 : decode cX4_spoil 1 = .ok (.getfield 16, 3) := by decide +kernel
theorem dX4_spoil_4 : decode cX4_spoil 4 = .ok (.iload_n 1, 1) := by decide +kernel
theorem dX4_spoil_5 : decode cX4_spoil 5 = .ok (.iaload, 1) := by decide +kernel
theorem dX4_spoil_6 : decode cX4_spoil 6 = .ok (.istore_n 2, 1) := by decide +kernel
theorem dX4_spoil_7 : decode cX4_spoil 7 = .ok (.aload_n 0, 1) := by decide +kernel
theorem dX4_spoil_8 : decode cX4_spoil 8 = .ok (.getfield 16, 3) := by decide +kernel
theorem dX4_spoil_11 : decode cX4_spoil 11 = .ok (.iload_n 1, 1) := by decide +kernel
theorem dX4_spoil_12 : decode cX4_spoil 12 = .ok (.iconst 0, 1) := by decide +kernel
theorem dX4_spoil_13 : decode cX4_spoil 13 = .ok (.iastore, 1) := by decide +kernel
theorem dX4_spoil_14 : decode cX4_spoil 14 = .ok (.iload_n 2, 1) := by decide +kernel
theorem dX4_spoil_15 : decode cX4_spoil 15 = .ok (.ireturn, 1) := by decide +kernel
end
section
set_option maxRecDepth 20000 in
theorem ggX5_init_X2_init : GoodIn wsX5_init wsX2_init := goodIn_r _ [35, 36, 2, 3, 17, 37, 38, 39, 40, 41, 42, 43, 44, 45, 46, 47, 48, 49, 50, 51, 82, 83, 84, 85, 86, 96, 97, 98] (by decide +kernel) (by decide +kernel)
set_option maxRecDepth 20000 in
theorem gX5_init_X2_init : GoodIn wsX5_init (wsX2_init) := ggX5_init_X2_init
set_option maxRecDepth 20000 in
theorem ggX5_init_X3_init : GoodIn wsX5_init wsX3_init := goodIn_r _ [54, 55, 2, 3, 17, 56, 57, 87, 88] (by decide +kernel) (by decide +kernel)
set_option maxRecDepth 20000 in
theorem gX5_init_X3_init : GoodIn wsX5_init (wsX3_init) := ggX5_init_X3_init
set_option maxRecDepth 20000 in
theorem ggX5_init_X1_init : GoodIn wsX5_init wsX1_init := goodIn_r _ [60, 61, 2, 3, 62, 17, 63, 89, 90] (by decide +kernel) (by decide +kernel)
set_option maxRecDepth 20000 in
theorem gX5_init_X1_init : GoodIn wsX5_init (wsX1_init) := ggX5_init_X1_init
set_option maxRecDepth 20000 in
theorem ggX5_init_X0_init : GoodIn wsX5_init wsX0_init := goodIn_r _ [66, 67, 2, 3, 68, 17, 69, 70, 71, 72, 73, 91, 92, 93, 94, 95] (by decide +kernel) (by decide +kernel)
set_option maxRecDepth 20000 in
theorem gX5_init_X0_init : GoodIn wsX5_init (wsX0_init) := ggX5_init_X0_init
theorem dX5_init_0 : decode cX5_init 0 = .ok (.aload_n 0, 1) := by decide +kernel
theorem dX5_init_1 : decode cX5_init 1 = .ok (.invokespecial 3, 3) := by decide +kernel
theorem dX5_init_4 : decode cX5_init 4 = .ok (.aload_n 0, 1) := by decide +kernel
theorem dX5_init_5 : decode cX5_init 5 = .ok (.iconst 1, 1) := by decide +kernel
theorem dX5_init_6 : decode cX5_init 6 = .ok (.bipush 12, 2) := by decide +kernel
theorem dX5_init_8 : decode cX5_init 8 = .ok (.iload_n 1, 1) := by decide +kernel
theorem dX5_init_9 : decode cX5_init 9 = .ok (.invokestatic 11, 3) := by decide +kernel
theorem dX5_init_12 : decode cX5_init 12 = .ok (.invokestatic 17, 3) := by decide +kernel
theorem dX5_init_15 : decode cX5_init 15 = .ok (.putfield 20, 3) := by decide +kernel
theorem dX5_init_18 : decode cX5_init 18 = .ok (.aload_n 0, 1) := by decide +kernel
theorem dX5_init_19 : decode cX5_init 19 = .ok (.bipush 6, 2) := by decide +kernel
theorem dX5_init_21 : decode cX5_init 21 = .ok (.anewarray 24, 3) := by decide +kernel
theorem dX5_init_24 : decode cX5_init 24 = .ok (.putfield 26, 3) := by decide +kernel
theorem dX5_init_27 : decode cX5_init 27 = .ok (.iconst 0, 1) := by decide +kernel
theorem dX5_init_28 : decode cX5_init 28 = .ok (.istore_n 2, 1) := by decide +kernel
theorem dX5_init_29 : decode cX5_init 29 = .ok (.iload_n 2, 1) := by decide +kernel
theorem dX5_init_30 : decode cX5_init 30 = .ok (.bipush 6, 2) := by decide +kernel
theorem dX5_init_32 : decode cX5_init 32 = .ok (.if_icmp .ge 26, 3) := by decide +kernel
theorem dX5_init_35 : decode cX5_init 35 = .ok (.aload_n 0, 1) := by decide +kernel
theorem dX5_init_36 : decode cX5_init 36 = .ok (.getfield 26, 3) := by decide +kernel
theorem dX5_init_39 : decode cX5_init 39 = .ok (.iload_n 2, 1) := by decide +kernel
theorem dX5_init_40 : decode cX5_init 40 = .ok (.new 24, 3) := by decide +kernel
theorem dX5_init_43 : decode cX5_init 43 = .ok (.dup, 1) := by decide +kernel
theorem dX5_init_44 : decode cX5_init 44 = .ok (.aload_n 0, 1) := by decide +kernel
theorem dX5_init_45 : decode cX5_init 45 = .ok (.getfield 20, 3) := by decide +kernel
theorem dX5_init_48 : decode cX5_init 48 = .ok (.invokespecial 30, 3) := by decide +kernel
theorem dX5_init_51 : decode cX5_init 51 = .ok (.aastore, 1) := by decide +kernel
theorem dX5_init_52 : decode cX5_init 52 = .ok (.iinc 2 1, 3) := by decide +kernel
theorem dX5_init_55 : decode cX5_init 55 = .ok (.goto (-26), 3) := by decide +kernel
theorem dX5_init_58 : decode cX5_init 58 = .ok (.aload_n 0, 1) := by decide +kernel
theorem dX5_init_59 : decode cX5_init 59 = .ok (.iconst 0, 1) := by decide +kernel
theorem dX5_init_60 : decode cX5_init 60 = .ok (.putfield 33, 3) := by decide +kernel
theorem dX5_init_63 : decode cX5_init 63 = .ok (.aload_n 0, 1) := by decide +kernel
theorem dX5_init_64 : decode cX5_init 64 = .ok (.aload_n 0, 1) := by decide +kernel
theorem dX5_init_65 : decode cX5_init 65 = .ok (.getfield 20, 3) := by decide +kernel
theorem dX5_init_68 : decode cX5_init 68 = .ok (.iconst 1, 1) := by decide +kernel
theorem dX5_init_69 : decode cX5_init 69 = .ok (.iadd, 1) := by decide +kernel
theorem dX5_init_70 : decode cX5_init 70 = .ok (.newarray .int, 2) := by decide +kernel
theorem dX5_init_72 : decode cX5_init 72 = .ok (.putfield 36, 3) := by decide +kernel
theorem dX5_init_75 : decode cX5_init 75 = .ok (.iconst 1, 1) := by decide +kernel
theorem dX5_init_76 : decode cX5_init 76 = .ok (.istore_n 2, 1) := by decide +kernel
theorem dX5_init_77 : decode cX5_init 77 = .ok (.iload_n 2, 1) := by decide +kernel
theorem dX5_init_78 : decode cX5_init 78 = .ok (.aload_n 0, 1) := by decide +kernel
theorem dX5_init_79 : decode cX5_init 79 = .ok (.getfield 20, 3) := by decide +kernel
theorem dX5_init_82 : decode cX5_init 82 = .ok (.if_icmp .gt 18, 3) := by decide +kernel
theorem dX5_init_85 : decode cX5_init 85 = .ok (.aload_n 0, 1) := by decide +kernel
theorem dX5_init_86 : decode cX5_init 86 = .ok (.getfield 36, 3) := by decide +kernel
theorem dX5_init_89 : decode cX5_init 89 = .ok (.iload_n 2, 1) := by decide +kernel
theorem dX5_init_90 : decode cX5_init 90 = .ok (.sipush 10000, 3) := by decide +kernel
theorem dX5_init_93 : decode cX5_init 93 = .ok (.iastore, 1) := by decide +kernel
theorem dX5_init_94 : decode cX5_init 94 = .ok (.iinc 2 1, 3) := by decide +kernel
theorem dX5_init_97 : decode cX5_init 97 = .ok (.goto (-20), 3) := by decide +kernel
theorem dX5_init_100 : decode cX5_init 100 = .ok (.aload_n 0, 1) := by decide +kernel
theorem dX5_init_101 : decode cX5_init 101 = .ok (.getstatic 40, 3) := by decide +kernel
theorem dX5_init_104 : decode cX5_init 104 = .ok (.arraylength, 1) := by decide +kernel
theorem dX5_init_105 : decode cX5_init 105 = .ok (.newarray .int, 2) := by decide +kernel
theorem dX5_init_107 : decode cX5_init 107 = .ok (.putfield 43, 3) := by decide +kernel
theorem dX5_init_110 : decode cX5_init 110 = .ok (.aload_n 0, 1) := by decide +kernel
theorem dX5_init_111 : decode cX5_init 111 = .ok (.new 46, 3) := by decide +kernel
theorem dX5_init_114 : decode cX5_init 114 = .ok (.dup, 1) := by decide +kernel
theorem dX5_init_115 : decode cX5_init 115 = .ok (.aload_n 0, 1) := by decide +kernel
theorem dX5_init_116 : decode cX5_init 116 = .ok (.getfield 20, 3) := by decide +kernel
theorem dX5_init_119 : decode cX5_init 119 = .ok (.invokespecial 48, 3) := by decide +kernel
theorem dX5_init_122 : decode cX5_init 122 = .ok (.putfield 49, 3) := by decide +kernel
theorem dX5_init_125 : decode cX5_init 125 = .ok (.aload_n 0, 1) := by decide +kernel
theorem dX5_init_126 : decode cX5_init 126 = .ok (.new 53, 3) := by decide +kernel
theorem dX5_init_129 : decode cX5_init 129 = .ok (.dup, 1) := by decide +kernel
theorem dX5_init_130 : decode cX5_init 130 = .ok (.aload_n 0, 1) := by decide +kernel
theorem dX5_init_131 : decode cX5_init 131 = .ok (.getfield 20, 3) := by decide +kernel
theorem dX5_init_134 : decode cX5_init 134 = .ok (.invokespecial 55, 3) := by decide +kernel
theorem dX5_init_137 : decode cX5_init 137 = .ok (.putfield 56, 3) := by decide +kernel
theorem dX5_init_140 : decode cX5_init 140 = .ok (.aload_n 0, 1) := by decide +kernel
theorem dX5_init_141 : decode cX5_init 141 = .ok (.new 60, 3) := by decide +kernel
theorem dX5_init_144 : decode cX5_init 144 = .ok (.dup, 1) := by decide +kernel
theorem dX5_init_145 : decode cX5_init 145 = .ok (.aload_n 0, 1) := by decide +kernel
theorem dX5_init_146 : decode cX5_init 146 = .ok (.getfield 20, 3) := by decide +kernel
theorem dX5_init_149 : decode cX5_init 149 = .ok (.invokespecial 62, 3) := by decide +kernel
theorem dX5_init_152 : decode cX5_init 152 = .ok (.putfield 63, 3) := by decide +kernel
theorem dX5_init_155 : decode cX5_init 155 = .ok (.return_, 1) := by decide +kernel
theorem dX5_item_0 : decode cX5_item 0 = .ok (.aload_n 0, 1) := by decide +kernel
theorem dX5_item_1 : decode cX5_item 1 = .ok (.getfield 33, 3) := by decide +kernel
theorem dX5_item_4 : decode cX5_item 4 = .ok (.bipush 6, 2) := by decide +kernel
theorem dX5_item_6 : decode cX5_item 6 = .ok (.if_icmp .lt 6, 3) := by decide +kernel
theorem dX5_item_9 : decode cX5_item 9 = .ok (.bipush (-4), 2) := by decide +kernel
theorem dX5_item_11 : decode cX5_item 11 = .ok (.ireturn, 1) := by decide +kernel
theorem dX5_item_12 : decode cX5_item 12 = .ok (.aload_n 0, 1) := by decide +kernel
theorem dX5_item_13 : decode cX5_item 13 = .ok (.dup, 1) := by decide +kernel
theorem dX5_item_14 : decode cX5_item 14 = .ok (.getfield 33, 3) := by decide +kernel
theorem dX5_item_17 : decode cX5_item 17 = .ok (.iconst 1, 1) := by decide +kernel
theorem dX5_item_18 : decode cX5_item 18 = .ok (.iadd, 1) := by decide +kernel
theorem dX5_item_19 : decode cX5_item 19 = .ok (.putfield 33, 3) := by decide +kernel
theorem dX5_item_22 : decode cX5_item 22 = .ok (.aload_n 0, 1) := by decide +kernel
theorem dX5_item_23 : decode cX5_item 23 = .ok (.getfield 33, 3) := by decide +kernel
theorem dX5_item_26 : decode cX5_item 26 = .ok (.iconst 1, 1) := by decide +kernel
theorem dX5_item_27 : decode cX5_item 27 = .ok (.isub, 1) := by decide +kernel
theorem dX5_item_28 : decode cX5_item 28 = .ok (.ireturn, 1) := by decide +kernel
set_option maxRecDepth 20000 in
theorem ggX5_set_X5_isItem : GoodIn wsX5_set wsX5_isItem := goodIn_r _ [8, 9, 13, 14, 15, 16, 17, 18, 19, 20] (by decide +kernel) (by decide +kernel)
set_option maxRecDepth 20000 in
theorem gX5_set_X5_isItem : GoodIn wsX5_set (wsV RX5 67 RX5 yX5_isItem wsX5_isItem) := goodIn_app (goodIn_of _ (by decide +kernel)) ggX5_set_X5_isItem
set_option maxRecDepth 20000 in
theorem ggX5_set_X5_replace : GoodIn wsX5_set wsX5_replace := goodIn_r _ [12] (by decide +kernel) (by decide +kernel)
set_option maxRecDepth 20000 in
theorem gX5_set_X5_replace : GoodIn wsX5_set (va_wsS RX5 77 yX5_replace wsX5_replace) := goodIn_app (goodIn_of _ (by decide +kernel)) ggX5_set_X5_replace
theorem dX5_set_0 : decode cX5_set 0 = .ok (.aload_n 0, 1) := by decide +kernel
theorem dX5_set_1 : decode cX5_set 1 = .ok (.iload_n 1, 1) := by decide +kernel
theorem dX5_set_2 : decode cX5_set 2 = .ok (.invokevirtual 67, 3) := by decide +kernel
theorem dX5_set_5 : decode cX5_set 5 = .ok (.ifCond .ne 5, 3) := by decide +kernel
theorem dX5_set_8 : decode cX5_set 8 = .ok (.iconst (-1), 1) := by decide +kernel
theorem dX5_set_9 : decode cX5_set 9 = .ok (.ireturn, 1) := by decide +kernel
theorem dX5_set_10 : decode cX5_set 10 = .ok (.iload_n 2, 1) := by decide +kernel
theorem dX5_set_11 : decode cX5_set 11 = .ok (.ifCond .lt 9, 3) := by decide +kernel
theorem dX5_set_14 : decode cX5_set 14 = .ok (.iload_n 2, 1) := by decide +kernel
theorem dX5_set_15 : decode cX5_set 15 = .ok (.bipush 8, 2) := by decide +kernel
theorem dX5_set_17 : decode cX5_set 17 = .ok (.if_icmp .lt 6, 3) := by decide +kernel
theorem dX5_set_20 : decode cX5_set 20 = .ok (.bipush (-2), 2) := by decide +kernel
theorem dX5_set_22 : decode cX5_set 22 = .ok (.ireturn, 1) := by decide +kernel
theorem dX5_set_23 : decode cX5_set 23 = .ok (.aload_n 0, 1) := by decide +kernel
theorem dX5_set_24 : decode cX5_set 24 = .ok (.getfield 26, 3) := by decide +kernel
theorem dX5_set_27 : decode cX5_set 27 = .ok (.iload_n 1, 1) := by decide +kernel
theorem dX5_set_28 : decode cX5_set 28 = .ok (.aaload, 1) := by decide +kernel
theorem dX5_set_29 : decode cX5_set 29 = .ok (.getfield 71, 3) := by decide +kernel
theorem dX5_set_32 : decode cX5_set 32 = .ok (.iload_n 2, 1) := by decide +kernel
theorem dX5_set_33 : decode cX5_set 33 = .ok (.iload_n 3, 1) := by decide +kernel
theorem dX5_set_34 : decode cX5_set 34 = .ok (.getstatic 74, 3) := by decide +kernel
theorem dX5_set_37 : decode cX5_set 37 = .ok (.iload_n 2, 1) := by decide +kernel
theorem dX5_set_38 : decode cX5_set 38 = .ok (.iaload, 1) := by decide +kernel
theorem dX5_set_39 : decode cX5_set 39 = .ok (.invokestatic 77, 3) := by decide +kernel
theorem dX5_set_42 : decode cX5_set 42 = .ok (.ireturn, 1) := by decide +kernel
set_option maxRecDepth 20000 in
theorem ggX5_need_X5_isItem : GoodIn wsX5_need wsX5_isItem := goodIn_r _ [7, 8, 17, 18, 19, 20, 21, 22, 23, 24] (by decide +kernel) (by decide +kernel)
set_option maxRecDepth 20000 in
theorem gX5_need_X5_isItem : GoodIn wsX5_need (wsV RX5 67 RX5 yX5_isItem wsX5_isItem) := goodIn_app (goodIn_of _ (by decide +kernel)) ggX5_need_X5_isItem
set_option maxRecDepth 20000 in
theorem ggX5_need_X5_isPeriod : GoodIn wsX5_need wsX5_isPeriod := goodIn_r _ [12, 13, 17, 18, 19, 20, 21, 22, 23, 24] (by decide +kernel) (by decide +kernel)
set_option maxRecDepth 20000 in
theorem gX5_need_X5_isPeriod : GoodIn wsX5_need (wsV RX5 81 RX5 yX5_isPeriod wsX5_isPeriod) := goodIn_app (goodIn_of _ (by decide +kernel)) ggX5_need_X5_isPeriod
set_option maxRecDepth 20000 in
theorem ggX5_need_X5_replace : GoodIn wsX5_need wsX5_replace := goodIn_r _ [16] (by decide +kernel) (by decide +kernel)
set_option maxRecDepth 20000 in
theorem gX5_need_X5_replace : GoodIn wsX5_need (va_wsS RX5 77 yX5_replace wsX5_replace) := goodIn_app (goodIn_of _ (by decide +kernel)) ggX5_need_X5_replace
theorem dX5_need_0 : decode cX5_need 0 = .ok (.aload_n 0, 1) := by decide +kernel
theorem dX5_need_1 : decode cX5_need 1 = .ok (.iload_n 1, 1) := by decide +kernel
theorem dX5_need_2 : decode cX5_need 2 = .ok (.invokevirtual 67, 3) := by decide +kernel
theorem dX5_need_5 : decode cX5_need 5 = .ok (.ifCond .eq 11, 3) := by decide +kernel
theorem dX5_need_8 : decode cX5_need 8 = .ok (.aload_n 0, 1) := by decide +kernel
theorem dX5_need_9 : decode cX5_need 9 = .ok (.iload_n 2, 1) := by decide +kernel
theorem dX5_need_10 : decode cX5_need 10 = .ok (.invokevirtual 81, 3) := by decide +kernel
theorem dX5_need_13 : decode cX5_need 13 = .ok (.ifCond .ne 5, 3) := by decide +kernel
theorem dX5_need_16 : decode cX5_need 16 = .ok (.iconst (-1), 1) := by decide +kernel
theorem dX5_need_17 : decode cX5_need 17 = .ok (.ireturn, 1) := by decide +kernel
theorem dX5_need_18 : decode cX5_need 18 = .ok (.aload_n 0, 1) := by decide +kernel
theorem dX5_need_19 : decode cX5_need 19 = .ok (.getfield 26, 3) := by decide +kernel
theorem dX5_need_22 : decode cX5_need 22 = .ok (.iload_n 1, 1) := by decide +kernel
theorem dX5_need_23 : decode cX5_need 23 = .ok (.aaload, 1) := by decide +kernel
theorem dX5_need_24 : decode cX5_need 24 = .ok (.getfield 84, 3) := by decide +kernel
theorem dX5_need_27 : decode cX5_need 27 = .ok (.iload_n 2, 1) := by decide +kernel
theorem dX5_need_28 : decode cX5_need 28 = .ok (.iload_n 3, 1) := by decide +kernel
theorem dX5_need_29 : decode cX5_need 29 = .ok (.sipush 1000, 3) := by decide +kernel
theorem dX5_need_32 : decode cX5_need 32 = .ok (.invokestatic 77, 3) := by decide +kernel
theorem dX5_need_35 : decode cX5_need 35 = .ok (.ireturn, 1) := by decide +kernel
set_option maxRecDepth 20000 in
theorem ggX5_part_X5_isItem : GoodIn wsX5_part wsX5_isItem := goodIn_r _ [7, 8, 22, 23, 24, 25, 26, 27, 28, 29] (by decide +kernel) (by decide +kernel)
set_option maxRecDepth 20000 in
theorem gX5_part_X5_isItem : GoodIn wsX5_part (wsV RX5 67 RX5 yX5_isItem wsX5_isItem) := goodIn_app (goodIn_of _ (by decide +kernel)) ggX5_part_X5_isItem
set_option maxRecDepth 20000 in
theorem ggX5_part_X5_goesInto : GoodIn wsX5_part wsX5_goesInto := goodIn_r _ [12, 8, 1, 13, 14, 15, 16, 17, 18, 22, 23, 24, 25, 26, 27, 28, 29, 30, 31, 32, 33, 34] (by decide +kernel) (by decide +kernel)
set_option maxRecDepth 20000 in
theorem gX5_part_X5_goesInto : GoodIn wsX5_part (wsV RX5 87 RX5 yX5_goesInto wsX5_goesInto) := goodIn_app (goodIn_of _ (by decide +kernel)) ggX5_part_X5_goesInto
set_option maxRecDepth 20000 in
theorem ggX5_part_X5_replace : GoodIn wsX5_part wsX5_replace := goodIn_r _ [21] (by decide +kernel) (by decide +kernel)
set_option maxRecDepth 20000 in
theorem gX5_part_X5_replace : GoodIn wsX5_part (va_wsS RX5 77 yX5_replace wsX5_replace) := goodIn_app (goodIn_of _ (by decide +kernel)) ggX5_part_X5_replace
theorem dX5_part_0 : decode cX5_part 0 = .ok (.aload_n 0, 1) := by decide +kernel
theorem dX5_part_1 : decode cX5_part 1 = .ok (.iload_n 1, 1) := by decide +kernel
theorem dX5_part_2 : decode cX5_part 2 = .ok (.invokevirtual 67, 3) := by decide +kernel
theorem dX5_part_5 : decode cX5_part 5 = .ok (.ifCond .eq 11, 3) := by decide +kernel
theorem dX5_part_8 : decode cX5_part 8 = .ok (.aload_n 0, 1) := by decide +kernel
theorem dX5_part_9 : decode cX5_part 9 = .ok (.iload_n 2, 1) := by decide +kernel
theorem dX5_part_10 : decode cX5_part 10 = .ok (.invokevirtual 67, 3) := by decide +kernel
theorem dX5_part_13 : decode cX5_part 13 = .ok (.ifCond .ne 5, 3) := by decide +kernel
theorem dX5_part_16 : decode cX5_part 16 = .ok (.iconst (-1), 1) := by decide +kernel
theorem dX5_part_17 : decode cX5_part 17 = .ok (.ireturn, 1) := by decide +kernel
theorem dX5_part_18 : decode cX5_part 18 = .ok (.iload_n 3, 1) := by decide +kernel
theorem dX5_part_19 : decode cX5_part 19 = .ok (.ifCond .lt 9, 3) := by decide +kernel
theorem dX5_part_22 : decode cX5_part 22 = .ok (.iload_n 3, 1) := by decide +kernel
theorem dX5_part_23 : decode cX5_part 23 = .ok (.bipush 9, 2) := by decide +kernel
theorem dX5_part_25 : decode cX5_part 25 = .ok (.if_icmp .le 6, 3) := by decide +kernel
theorem dX5_part_28 : decode cX5_part 28 = .ok (.bipush (-2), 2) := by decide +kernel
theorem dX5_part_30 : decode cX5_part 30 = .ok (.ireturn, 1) := by decide +kernel
theorem dX5_part_31 : decode cX5_part 31 = .ok (.iload_n 3, 1) := by decide +kernel
theorem dX5_part_32 : decode cX5_part 32 = .ok (.ifCond .le 15, 3) := by decide +kernel
theorem dX5_part_35 : decode cX5_part 35 = .ok (.aload_n 0, 1) := by decide +kernel
theorem dX5_part_36 : decode cX5_part 36 = .ok (.iload_n 2, 1) := by decide +kernel
theorem dX5_part_37 : decode cX5_part 37 = .ok (.iload_n 1, 1) := by decide +kernel
theorem dX5_part_38 : decode cX5_part 38 = .ok (.invokevirtual 87, 3) := by decide +kernel
theorem dX5_part_41 : decode cX5_part 41 = .ok (.ifCond .eq 6, 3) := by decide +kernel
theorem dX5_part_44 : decode cX5_part 44 = .ok (.bipush (-3), 2) := by decide +kernel
theorem dX5_part_46 : decode cX5_part 46 = .ok (.ireturn, 1) := by decide +kernel
theorem dX5_part_47 : decode cX5_part 47 = .ok (.aload_n 0, 1) := by decide +kernel
theorem dX5_part_48 : decode cX5_part 48 = .ok (.getfield 26, 3) := by decide +kernel
theorem dX5_part_51 : decode cX5_part 51 = .ok (.iload_n 1, 1) := by decide +kernel
theorem dX5_part_52 : decode cX5_part 52 = .ok (.aaload, 1) := by decide +kernel
theorem dX5_part_53 : decode cX5_part 53 = .ok (.getfield 91, 3) := by decide +kernel
theorem dX5_part_56 : decode cX5_part 56 = .ok (.iload_n 2, 1) := by decide +kernel
theorem dX5_part_57 : decode cX5_part 57 = .ok (.iload_n 3, 1) := by decide +kernel
theorem dX5_part_58 : decode cX5_part 58 = .ok (.bipush 9, 2) := by decide +kernel
theorem dX5_part_60 : decode cX5_part 60 = .ok (.invokestatic 77, 3) := by decide +kernel
theorem dX5_part_63 : decode cX5_part 63 = .ok (.ireturn, 1) := by decide +kernel
set_option maxRecDepth 20000 in
theorem ggX5_make_X5_isItem : GoodIn wsX5_make wsX5_isItem := goodIn_r _ [7, 8, 17, 18, 19, 20, 21, 22, 23, 24] (by decide +kernel) (by decide +kernel)
set_option maxRecDepth 20000 in
theorem gX5_make_X5_isItem : GoodIn wsX5_make (wsV RX5 67 RX5 yX5_isItem wsX5_isItem) := goodIn_app (goodIn_of _ (by decide +kernel)) ggX5_make_X5_isItem
set_option maxRecDepth 20000 in
theorem ggX5_make_X5_isPeriod : GoodIn wsX5_make wsX5_isPeriod := goodIn_r _ [12, 13, 17, 18, 19, 20, 21, 22, 23, 24] (by decide +kernel) (by decide +kernel)
set_option maxRecDepth 20000 in
theorem gX5_make_X5_isPeriod : GoodIn wsX5_make (wsV RX5 81 RX5 yX5_isPeriod wsX5_isPeriod) := goodIn_app (goodIn_of _ (by decide +kernel)) ggX5_make_X5_isPeriod
set_option maxRecDepth 20000 in
theorem ggX5_make_X5_replace : GoodIn wsX5_make wsX5_replace := goodIn_r _ [16] (by decide +kernel) (by decide +kernel)
set_option maxRecDepth 20000 in
theorem gX5_make_X5_replace : GoodIn wsX5_make (va_wsS RX5 77 yX5_replace wsX5_replace) := goodIn_app (goodIn_of _ (by decide +kernel)) ggX5_make_X5_replace
theorem dX5_make_0 : decode cX5_make 0 = .ok (.aload_n 0, 1) := by decide +kernel
theorem dX5_make_1 : decode cX5_make 1 = .ok (.iload_n 1, 1) := by decide +kernel
theorem dX5_make_2 : decode cX5_make 2 = .ok (.invokevirtual 67, 3) := by decide +kernel
theorem dX5_make_5 : decode cX5_make 5 = .ok (.ifCond .eq 11, 3) := by decide +kernel
theorem dX5_make_8 : decode cX5_make 8 = .ok (.aload_n 0, 1) := by decide +kernel
theorem dX5_make_9 : decode cX5_make 9 = .ok (.iload_n 2, 1) := by decide +kernel
theorem dX5_make_10 : decode cX5_make 10 = .ok (.invokevirtual 81, 3) := by decide +kernel
theorem dX5_make_13 : decode cX5_make 13 = .ok (.ifCond .ne 5, 3) := by decide +kernel
theorem dX5_make_16 : decode cX5_make 16 = .ok (.iconst (-1), 1) := by decide +kernel
theorem dX5_make_17 : decode cX5_make 17 = .ok (.ireturn, 1) := by decide +kernel
theorem dX5_make_18 : decode cX5_make 18 = .ok (.aload_n 0, 1) := by decide +kernel
theorem dX5_make_19 : decode cX5_make 19 = .ok (.getfield 26, 3) := by decide +kernel
theorem dX5_make_22 : decode cX5_make 22 = .ok (.iload_n 1, 1) := by decide +kernel
theorem dX5_make_23 : decode cX5_make 23 = .ok (.aaload, 1) := by decide +kernel
theorem dX5_make_24 : decode cX5_make 24 = .ok (.getfield 94, 3) := by decide +kernel
theorem dX5_make_27 : decode cX5_make 27 = .ok (.iload_n 2, 1) := by decide +kernel
theorem dX5_make_28 : decode cX5_make 28 = .ok (.iload_n 3, 1) := by decide +kernel
theorem dX5_make_29 : decode cX5_make 29 = .ok (.sipush 5000, 3) := by decide +kernel
theorem dX5_make_32 : decode cX5_make 32 = .ok (.invokestatic 77, 3) := by decide +kernel
theorem dX5_make_35 : decode cX5_make 35 = .ok (.ireturn, 1) := by decide +kernel
set_option maxRecDepth 20000 in
theorem ggX5_capacity_X5_isPeriod : GoodIn wsX5_capacity wsX5_isPeriod := goodIn_r _ [6, 7, 11, 12, 13, 14, 15, 16, 17, 18] (by decide +kernel) (by decide +kernel)
set_option maxRecDepth 20000 in
theorem gX5_capacity_X5_isPeriod : GoodIn wsX5_capacity (wsV RX5 81 RX5 yX5_isPeriod wsX5_isPeriod) := goodIn_app (goodIn_of _ (by decide +kernel)) ggX5_capacity_X5_isPeriod
set_option maxRecDepth 20000 in
theorem ggX5_capacity_X5_replace : GoodIn wsX5_capacity wsX5_replace := goodIn_r _ [10] (by decide +kernel) (by decide +kernel)
set_option maxRecDepth 20000 in
theorem gX5_capacity_X5_replace : GoodIn wsX5_capacity (va_wsS RX5 77 yX5_replace wsX5_replace) := goodIn_app (goodIn_of _ (by decide +kernel)) ggX5_capacity_X5_replace
theorem dX5_capacity_0 : decode cX5_capacity 0 = .ok (.aload_n 0, 1) := by decide +kernel
theorem dX5_capacity_1 : decode cX5_capacity 1 = .ok (.iload_n 1, 1) := by decide +kernel
theorem dX5_capacity_2 : decode cX5_capacity 2 = .ok (.invokevirtual 81, 3) := by decide +kernel
theorem dX5_capacity_5 : decode cX5_capacity 5 = .ok (.ifCond .ne 5, 3) := by decide +kernel
theorem dX5_capacity_8 : decode cX5_capacity 8 = .ok (.iconst (-1), 1) := by decide +kernel
theorem dX5_capacity_9 : decode cX5_capacity 9 = .ok (.ireturn, 1) := by decide +kernel
theorem dX5_capacity_10 : decode cX5_capacity 10 = .ok (.aload_n 0, 1) := by decide +kernel
theorem dX5_capacity_11 : decode cX5_capacity 11 = .ok (.getfield 36, 3) := by decide +kernel
theorem dX5_capacity_14 : decode cX5_capacity 14 = .ok (.iload_n 1, 1) := by decide +kernel
theorem dX5_capacity_15 : decode cX5_capacity 15 = .ok (.iload_n 2, 1) := by decide +kernel
theorem dX5_capacity_16 : decode cX5_capacity 16 = .ok (.sipush 10000, 3) := by decide +kernel
theorem dX5_capacity_19 : decode cX5_capacity 19 = .ok (.invokestatic 77, 3) := by decide +kernel
theorem dX5_capacity_22 : decode cX5_capacity 22 = .ok (.ireturn, 1) := by decide +kernel
set_option maxRecDepth 20000 in
theorem ggX5_over_X5_replace : GoodIn wsX5_over wsX5_replace := goodIn_r _ [6] (by decide +kernel) (by decide +kernel)
set_option maxRecDepth 20000 in
theorem gX5_over_X5_replace : GoodIn wsX5_over (va_wsS RX5 77 yX5_replace wsX5_replace) := goodIn_app (goodIn_of _ (by decide +kernel)) ggX5_over_X5_replace
theorem dX5_over_0 : decode cX5_over 0 = .ok (.iload_n 1, 1) := by decide +kernel
theorem dX5_over_1 : decode cX5_over 1 = .ok (.ifCond .eq 11, 3) := by decide +kernel
theorem dX5_over_4 : decode cX5_over 4 = .ok (.iload_n 1, 1) := by decide +kernel
theorem dX5_over_5 : decode cX5_over 5 = .ok (.iconst 1, 1) := by decide +kernel
theorem dX5_over_6 : decode cX5_over 6 = .ok (.if_icmp .eq 6, 3) := by decide +kernel
theorem dX5_over_9 : decode cX5_over 9 = .ok (.bipush (-2), 2) := by decide +kernel
theorem dX5_over_11 : decode cX5_over 11 = .ok (.ireturn, 1) := by decide +kernel
theorem dX5_over_12 : decode cX5_over 12 = .ok (.aload_n 0, 1) := by decide +kernel
theorem dX5_over_13 : decode cX5_over 13 = .ok (.getfield 43, 3) := by decide +kernel
theorem dX5_over_16 : decode cX5_over 16 = .ok (.iload_n 1, 1) := by decide +kernel
theorem dX5_over_17 : decode cX5_over 17 = .ok (.iload_n 2, 1) := by decide +kernel
theorem dX5_over_18 : decode cX5_over 18 = .ok (.getstatic 40, 3) := by decide +kernel
theorem dX5_over_21 : decode cX5_over 21 = .ok (.iload_n 1, 1) := by decide +kernel
theorem dX5_over_22 : decode cX5_over 22 = .ok (.iaload, 1) := by decide +kernel
theorem dX5_over_23 : decode cX5_over 23 = .ok (.invokestatic 77, 3) := by decide +kernel
theorem dX5_over_26 : decode cX5_over 26 = .ok (.ireturn, 1) := by decide +kernel
set_option maxRecDepth 20000 in
theorem ggX5_gross_X5_isItem : GoodIn wsX5_gross wsX5_isItem := goodIn_r _ [5, 6, 20, 21, 22, 23, 24, 25, 26, 27] (by decide +kernel) (by decide +kernel)
set_option maxRecDepth 20000 in
theorem gX5_gross_X5_isItem : GoodIn wsX5_gross (wsV RX5 67 RX5 yX5_isItem wsX5_isItem) := goodIn_app (goodIn_of _ (by decide +kernel)) ggX5_gross_X5_isItem
set_option maxRecDepth 20000 in
theorem ggX5_gross_X5_isPeriod : GoodIn wsX5_gross wsX5_isPeriod := goodIn_r _ [10, 11, 20, 21, 22, 23, 24, 25, 26, 27] (by decide +kernel) (by decide +kernel)
set_option maxRecDepth 20000 in
theorem gX5_gross_X5_isPeriod : GoodIn wsX5_gross (wsV RX5 81 RX5 yX5_isPeriod wsX5_isPeriod) := goodIn_app (goodIn_of _ (by decide +kernel)) ggX5_gross_X5_isPeriod
set_option maxRecDepth 20000 in
theorem ggX5_gross_X5_grossOf : GoodIn wsX5_gross wsX5_grossOf := goodIn_r _ [15, 16, 17, 6, 18, 19, 20, 21, 22, 23, 24, 25, 26, 27, 28, 29, 30, 31, 32] (by decide +kernel) (by decide +kernel)
set_option maxRecDepth 20000 in
theorem gX5_gross_X5_grossOf : GoodIn wsX5_gross (wsV RX5 97 RX5 yX5_grossOf wsX5_grossOf) := goodIn_app (goodIn_of _ (by decide +kernel)) ggX5_gross_X5_grossOf
theorem dX5_gross_0 : decode cX5_gross 0 = .ok (.aload_n 0, 1) := by decide +kernel
theorem dX5_gross_1 : decode cX5_gross 1 = .ok (.iload_n 1, 1) := by decide +kernel
theorem dX5_gross_2 : decode cX5_gross 2 = .ok (.invokevirtual 67, 3) := by decide +kernel
theorem dX5_gross_5 : decode cX5_gross 5 = .ok (.ifCond .eq 11, 3) := by decide +kernel
theorem dX5_gross_8 : decode cX5_gross 8 = .ok (.aload_n 0, 1) := by decide +kernel
theorem dX5_gross_9 : decode cX5_gross 9 = .ok (.iload_n 2, 1) := by decide +kernel
theorem dX5_gross_10 : decode cX5_gross 10 = .ok (.invokevirtual 81, 3) := by decide +kernel
theorem dX5_gross_13 : decode cX5_gross 13 = .ok (.ifCond .ne 5, 3) := by decide +kernel
theorem dX5_gross_16 : decode cX5_gross 16 = .ok (.iconst (-1), 1) := by decide +kernel
theorem dX5_gross_17 : decode cX5_gross 17 = .ok (.ireturn, 1) := by decide +kernel
theorem dX5_gross_18 : decode cX5_gross 18 = .ok (.aload_n 0, 1) := by decide +kernel
theorem dX5_gross_19 : decode cX5_gross 19 = .ok (.iload_n 1, 1) := by decide +kernel
theorem dX5_gross_20 : decode cX5_gross 20 = .ok (.iload_n 2, 1) := by decide +kernel
theorem dX5_gross_21 : decode cX5_gross 21 = .ok (.invokevirtual 97, 3) := by decide +kernel
theorem dX5_gross_24 : decode cX5_gross 24 = .ok (.ireturn, 1) := by decide +kernel
set_option maxRecDepth 20000 in
theorem ggX5_stock_X5_isItem : GoodIn wsX5_stock wsX5_isItem := goodIn_r _ [9, 10, 70, 71, 72, 73, 74, 75, 76, 77] (by decide +kernel) (by decide +kernel)
set_option maxRecDepth 20000 in
theorem gX5_stock_X5_isItem : GoodIn wsX5_stock (wsV RX5 67 RX5 yX5_isItem wsX5_isItem) := goodIn_app (goodIn_of _ (by decide +kernel)) ggX5_stock_X5_isItem
set_option maxRecDepth 20000 in
theorem ggX5_stock_X5_isPeriodOrBeginning : GoodIn wsX5_stock wsX5_isPeriodOrBeginning := goodIn_r _ [14, 15, 16, 17, 8, 18, 19, 70, 71, 72, 73, 74, 75, 76, 77] (by decide +kernel) (by decide +kernel)
set_option maxRecDepth 20000 in
theorem gX5_stock_X5_isPeriodOrBeginning : GoodIn wsX5_stock (wsV RX5 100 RX5 yX5_isPeriodOrBeginning wsX5_isPeriodOrBeginning) := goodIn_app (goodIn_of _ (by decide +kernel)) ggX5_stock_X5_isPeriodOrBeginning
set_option maxRecDepth 20000 in
theorem ggX5_stock_X5_runItem : GoodIn wsX5_stock wsX5_runItem := goodIn_r _ [23, 2, 3, 24, 19, 25, 26, 27, 28, 29, 30, 31, 32, 33, 34, 35, 36, 37, 38, 39, 40, 41, 8, 42, 43, 10, 44, 45, 46, 47, 48, 49, 50, 51, 52, 53, 54, 55, 56, 57, 58, 59, 60, 61, 62, 63, 64, 65, 66, 67, 68, 69, 70, 71, 72, 73, 74, 75, 76, 77, 78, 79, 80, 81, 82, 83, 84, 85] (by decide +kernel) (by decide +kernel)
set_option maxRecDepth 20000 in
theorem gX5_stock_X5_runItem : GoodIn wsX5_stock (wsV RX5 105 RX5 yX5_runItem wsX5_runItem) := goodIn_app (goodIn_of _ (by decide +kernel)) ggX5_stock_X5_runItem
theorem dX5_stock_0 : decode cX5_stock 0 = .ok (.aload_n 0, 1) := by decide +kernel
theorem dX5_stock_1 : decode cX5_stock 1 = .ok (.iload_n 1, 1) := by decide +kernel
theorem dX5_stock_2 : decode cX5_stock 2 = .ok (.invokevirtual 67, 3) := by decide +kernel
theorem dX5_stock_5 : decode cX5_stock 5 = .ok (.ifCond .eq 11, 3) := by decide +kernel
theorem dX5_stock_8 : decode cX5_stock 8 = .ok (.aload_n 0, 1) := by decide +kernel
theorem dX5_stock_9 : decode cX5_stock 9 = .ok (.iload_n 2, 1) := by decide +kernel
theorem dX5_stock_10 : decode cX5_stock 10 = .ok (.invokevirtual 100, 3) := by decide +kernel
theorem dX5_stock_13 : decode cX5_stock 13 = .ok (.ifCond .ne 7, 3) := by decide +kernel
theorem dX5_stock_16 : decode cX5_stock 16 = .ok (.ldc2_w 103, 3) := by decide +kernel
theorem dX5_stock_19 : decode cX5_stock 19 = .ok (.lreturn, 1) := by decide +kernel
theorem dX5_stock_20 : decode cX5_stock 20 = .ok (.aload_n 0, 1) := by decide +kernel
theorem dX5_stock_21 : decode cX5_stock 21 = .ok (.iload_n 1, 1) := by decide +kernel
theorem dX5_stock_22 : decode cX5_stock 22 = .ok (.invokevirtual 105, 3) := by decide +kernel
theorem dX5_stock_25 : decode cX5_stock 25 = .ok (.aload_n 0, 1) := by decide +kernel
theorem dX5_stock_26 : decode cX5_stock 26 = .ok (.getfield 26, 3) := by decide +kernel
theorem dX5_stock_29 : decode cX5_stock 29 = .ok (.iload_n 1, 1) := by decide +kernel
theorem dX5_stock_30 : decode cX5_stock 30 = .ok (.aaload, 1) := by decide +kernel
theorem dX5_stock_31 : decode cX5_stock 31 = .ok (.getfield 108, 3) := by decide +kernel
theorem dX5_stock_34 : decode cX5_stock 34 = .ok (.getfield 112, 3) := by decide +kernel
theorem dX5_stock_37 : decode cX5_stock 37 = .ok (.iload_n 2, 1) := by decide +kernel
theorem dX5_stock_38 : decode cX5_stock 38 = .ok (.iaload, 1) := by decide +kernel
theorem dX5_stock_39 : decode cX5_stock 39 = .ok (.i2l, 1) := by decide +kernel
theorem dX5_stock_40 : decode cX5_stock 40 = .ok (.lreturn, 1) := by decide +kernel
set_option maxRecDepth 20000 in
theorem ggX5_spoilt_X5_isItem : GoodIn wsX5_spoilt wsX5_isItem := goodIn_r _ [8, 9, 65, 66, 67, 68, 69, 70, 71, 72] (by decide +kernel) (by decide +kernel)
set_option maxRecDepth 20000 in
theorem gX5_spoilt_X5_isItem : GoodIn wsX5_spoilt (wsV RX5 67 RX5 yX5_isItem wsX5_isItem) := goodIn_app (goodIn_of _ (by decide +kernel)) ggX5_spoilt_X5_isItem
set_option maxRecDepth 20000 in
theorem ggX5_spoilt_X5_isPeriod : GoodIn wsX5_spoilt wsX5_isPeriod := goodIn_r _ [13, 14, 65, 66, 67, 68, 69, 70, 71, 72] (by decide +kernel) (by decide +kernel)
set_option maxRecDepth 20000 in
theorem gX5_spoilt_X5_isPeriod : GoodIn wsX5_spoilt (wsV RX5 81 RX5 yX5_isPeriod wsX5_isPeriod) := goodIn_app (goodIn_of _ (by decide +kernel)) ggX5_spoilt_X5_isPeriod
set_option maxRecDepth 20000 in
theorem ggX5_spoilt_X5_runItem : GoodIn wsX5_spoilt wsX5_runItem := goodIn_r _ [18, 1, 2, 19, 14, 20, 21, 22, 23, 24, 25, 26, 27, 28, 29, 30, 31, 32, 33, 34, 35, 36, 7, 37, 38, 9, 39, 40, 41, 42, 43, 44, 45, 46, 47, 48, 49, 50, 51, 52, 53, 54, 55, 56, 57, 58, 59, 60, 61, 62, 63, 64, 65, 66, 67, 68, 69, 70, 71, 72, 73, 74, 75, 76, 77, 78, 79, 80] (by decide +kernel) (by decide +kernel)
set_option maxRecDepth 20000 in
theorem gX5_spoilt_X5_runItem : GoodIn wsX5_spoilt (wsV RX5 105 RX5 yX5_runItem wsX5_runItem) := goodIn_app (goodIn_of _ (by decide +kernel)) ggX5_spoilt_X5_runItem
theorem dX5_spoilt_0 : decode cX5_spoilt 0 = .ok (.aload_n 0, 1) := by decide +kernel
theorem dX5_spoilt_1 : decode cX5_spoilt 1 = .ok (.iload_n 1, 1) := by decide +kernel
theorem dX5_spoilt_2 : decode cX5_spoilt 2 = .ok (.invokevirtual 67, 3) := by decide +kernel
theorem dX5_spoilt_5 : decode cX5_spoilt 5 = .ok (.ifCond .eq 11, 3) := by decide +kernel
theorem dX5_spoilt_8 : decode cX5_spoilt 8 = .ok (.aload_n 0, 1) := by decide +kernel
theorem dX5_spoilt_9 : decode cX5_spoilt 9 = .ok (.iload_n 2, 1) := by decide +kernel
theorem dX5_spoilt_10 : decode cX5_spoilt 10 = .ok (.invokevirtual 81, 3) := by decide +kernel
theorem dX5_spoilt_13 : decode cX5_spoilt 13 = .ok (.ifCond .ne 5, 3) := by decide +kernel
theorem dX5_spoilt_16 : decode cX5_spoilt 16 = .ok (.iconst (-1), 1) := by decide +kernel
theorem dX5_spoilt_17 : decode cX5_spoilt 17 = .ok (.ireturn, 1) := by decide +kernel
theorem dX5_spoilt_18 : decode cX5_spoilt 18 = .ok (.aload_n 0, 1) := by decide +kernel
theorem dX5_spoilt_19 : decode cX5_spoilt 19 = .ok (.iload_n 1, 1) := by decide +kernel
theorem dX5_spoilt_20 : decode cX5_spoilt 20 = .ok (.invokevirtual 105, 3) := by decide +kernel
theorem dX5_spoilt_23 : decode cX5_spoilt 23 = .ok (.aload_n 0, 1) := by decide +kernel
theorem dX5_spoilt_24 : decode cX5_spoilt 24 = .ok (.getfield 26, 3) := by decide +kernel
theorem dX5_spoilt_27 : decode cX5_spoilt 27 = .ok (.iload_n 1, 1) := by decide +kernel
theorem dX5_spoilt_28 : decode cX5_spoilt 28 = .ok (.aaload, 1) := by decide +kernel
theorem dX5_spoilt_29 : decode cX5_spoilt 29 = .ok (.getfield 108, 3) := by decide +kernel
theorem dX5_spoilt_32 : decode cX5_spoilt 32 = .ok (.getfield 117, 3) := by decide +kernel
theorem dX5_spoilt_35 : decode cX5_spoilt 35 = .ok (.iload_n 2, 1) := by decide +kernel
theorem dX5_spoilt_36 : decode cX5_spoilt 36 = .ok (.iaload, 1) := by decide +kernel
theorem dX5_spoilt_37 : decode cX5_spoilt 37 = .ok (.ireturn, 1) := by decide +kernel
set_option maxRecDepth 20000 in
theorem ggX5_isSetUp_X5_isItem : GoodIn wsX5_isSetUp wsX5_isItem := goodIn_r _ [8, 3, 26, 27, 28, 29, 30, 31, 32, 33] (by decide +kernel) (by decide +kernel)
set_option maxRecDepth 20000 in
theorem gX5_isSetUp_X5_isItem : GoodIn wsX5_isSetUp (wsV RX5 67 RX5 yX5_isItem wsX5_isItem) := goodIn_app (goodIn_of _ (by decide +kernel)) ggX5_isSetUp_X5_isItem
set_option maxRecDepth 20000 in
theorem ggX5_isSetUp_X5_isPeriod : GoodIn wsX5_isSetUp wsX5_isPeriod := goodIn_r _ [12, 13, 26, 27, 28, 29, 30, 31, 32, 33] (by decide +kernel) (by decide +kernel)
set_option maxRecDepth 20000 in
theorem gX5_isSetUp_X5_isPeriod : GoodIn wsX5_isSetUp (wsV RX5 81 RX5 yX5_isPeriod wsX5_isPeriod) := goodIn_app (goodIn_of _ (by decide +kernel)) ggX5_isSetUp_X5_isPeriod
set_option maxRecDepth 20000 in
theorem ggX5_isSetUp_X3_follow : GoodIn wsX5_isSetUp wsX3_follow := goodIn_r _ [18, 19, 20, 21, 34, 35, 36, 37, 38, 39, 40] (by decide +kernel) (by decide +kernel)
set_option maxRecDepth 20000 in
theorem gX5_isSetUp_X3_follow : GoodIn wsX5_isSetUp (wsV RX5 120 RX3 yX3_follow wsX3_follow) := goodIn_app (goodIn_of _ (by decide +kernel)) ggX5_isSetUp_X3_follow
set_option maxRecDepth 20000 in
theorem ggX5_isSetUp_X3_setsUp : GoodIn wsX5_isSetUp wsX3_setsUp := goodIn_r _ [25, 20, 34, 35] (by decide +kernel) (by decide +kernel)
set_option maxRecDepth 20000 in
theorem gX5_isSetUp_X3_setsUp : GoodIn wsX5_isSetUp (wsV RX5 124 RX3 yX3_setsUp wsX3_setsUp) := goodIn_app (goodIn_of _ (by decide +kernel)) ggX5_isSetUp_X3_setsUp
theorem dX5_isSetUp_0 : decode cX5_isSetUp 0 = .ok (.aload_n 0, 1) := by decide +kernel
theorem dX5_isSetUp_1 : decode cX5_isSetUp 1 = .ok (.iload_n 1, 1) := by decide +kernel
theorem dX5_isSetUp_2 : decode cX5_isSetUp 2 = .ok (.invokevirtual 67, 3) := by decide +kernel
theorem dX5_isSetUp_5 : decode cX5_isSetUp 5 = .ok (.ifCond .eq 11, 3) := by decide +kernel
theorem dX5_isSetUp_8 : decode cX5_isSetUp 8 = .ok (.aload_n 0, 1) := by decide +kernel
theorem dX5_isSetUp_9 : decode cX5_isSetUp 9 = .ok (.iload_n 2, 1) := by decide +kernel
theorem dX5_isSetUp_10 : decode cX5_isSetUp 10 = .ok (.invokevirtual 81, 3) := by decide +kernel
theorem dX5_isSetUp_13 : decode cX5_isSetUp 13 = .ok (.ifCond .ne 5, 3) := by decide +kernel
theorem dX5_isSetUp_16 : decode cX5_isSetUp 16 = .ok (.iconst (-1), 1) := by decide +kernel
theorem dX5_isSetUp_17 : decode cX5_isSetUp 17 = .ok (.ireturn, 1) := by decide +kernel
theorem dX5_isSetUp_18 : decode cX5_isSetUp 18 = .ok (.aload_n 0, 1) := by decide +kernel
theorem dX5_isSetUp_19 : decode cX5_isSetUp 19 = .ok (.getfield 49, 3) := by decide +kernel
theorem dX5_isSetUp_22 : decode cX5_isSetUp 22 = .ok (.aload_n 0, 1) := by decide +kernel
theorem dX5_isSetUp_23 : decode cX5_isSetUp 23 = .ok (.getfield 26, 3) := by decide +kernel
theorem dX5_isSetUp_26 : decode cX5_isSetUp 26 = .ok (.aload_n 0, 1) := by decide +kernel
theorem dX5_isSetUp_27 : decode cX5_isSetUp 27 = .ok (.getfield 33, 3) := by decide +kernel
theorem dX5_isSetUp_30 : decode cX5_isSetUp 30 = .ok (.invokevirtual 120, 3) := by decide +kernel
theorem dX5_isSetUp_33 : decode cX5_isSetUp 33 = .ok (.aload_n 0, 1) := by decide +kernel
theorem dX5_isSetUp_34 : decode cX5_isSetUp 34 = .ok (.getfield 49, 3) := by decide +kernel
theorem dX5_isSetUp_37 : decode cX5_isSetUp 37 = .ok (.iload_n 1, 1) := by decide +kernel
theorem dX5_isSetUp_38 : decode cX5_isSetUp 38 = .ok (.iload_n 2, 1) := by decide +kernel
theorem dX5_isSetUp_39 : decode cX5_isSetUp 39 = .ok (.invokevirtual 124, 3) := by decide +kernel
theorem dX5_isSetUp_42 : decode cX5_isSetUp 42 = .ok (.ifCond .eq 7, 3) := by decide +kernel
theorem dX5_isSetUp_45 : decode cX5_isSetUp 45 = .ok (.iconst 1, 1) := by decide +kernel
theorem dX5_isSetUp_46 : decode cX5_isSetUp 46 = .ok (.goto 4, 3) := by decide +kernel
theorem dX5_isSetUp_49 : decode cX5_isSetUp 49 = .ok (.iconst 0, 1) := by decide +kernel
theorem dX5_isSetUp_50 : decode cX5_isSetUp 50 = .ok (.ireturn, 1) := by decide +kernel
set_option maxRecDepth 20000 in
theorem ggX5_stands_X5_isPeriodOrBeginning : GoodIn wsX5_stands wsX5_isPeriodOrBeginning := goodIn_r _ [9, 10, 11, 12, 8, 13, 14, 23, 24, 25, 26, 27, 28, 29, 30] (by decide +kernel) (by decide +kernel)
set_option maxRecDepth 20000 in
theorem gX5_stands_X5_isPeriodOrBeginning : GoodIn wsX5_stands (wsV RX5 100 RX5 yX5_isPeriodOrBeginning wsX5_isPeriodOrBeginning) := goodIn_app (goodIn_of _ (by decide +kernel)) ggX5_stands_X5_isPeriodOrBeginning
set_option maxRecDepth 20000 in
theorem ggX5_stands_X3_follow : GoodIn wsX5_stands wsX3_follow := goodIn_r _ [19, 20, 21, 22, 31, 32, 33, 34, 35, 36, 37] (by decide +kernel) (by decide +kernel)
set_option maxRecDepth 20000 in
theorem gX5_stands_X3_follow : GoodIn wsX5_stands (wsV RX5 120 RX3 yX3_follow wsX3_follow) := goodIn_app (goodIn_of _ (by decide +kernel)) ggX5_stands_X3_follow
theorem dX5_stands_0 : decode cX5_stands 0 = .ok (.aload_n 0, 1) := by decide +kernel
theorem dX5_stands_1 : decode cX5_stands 1 = .ok (.iload_n 1, 1) := by decide +kernel
theorem dX5_stands_2 : decode cX5_stands 2 = .ok (.invokevirtual 100, 3) := by decide +kernel
theorem dX5_stands_5 : decode cX5_stands 5 = .ok (.ifCond .ne 5, 3) := by decide +kernel
theorem dX5_stands_8 : decode cX5_stands 8 = .ok (.iconst (-1), 1) := by decide +kernel
theorem dX5_stands_9 : decode cX5_stands 9 = .ok (.ireturn, 1) := by decide +kernel
theorem dX5_stands_10 : decode cX5_stands 10 = .ok (.aload_n 0, 1) := by decide +kernel
theorem dX5_stands_11 : decode cX5_stands 11 = .ok (.getfield 49, 3) := by decide +kernel
theorem dX5_stands_14 : decode cX5_stands 14 = .ok (.aload_n 0, 1) := by decide +kernel
theorem dX5_stands_15 : decode cX5_stands 15 = .ok (.getfield 26, 3) := by decide +kernel
theorem dX5_stands_18 : decode cX5_stands 18 = .ok (.aload_n 0, 1) := by decide +kernel
theorem dX5_stands_19 : decode cX5_stands 19 = .ok (.getfield 33, 3) := by decide +kernel
theorem dX5_stands_22 : decode cX5_stands 22 = .ok (.invokevirtual 120, 3) := by decide +kernel
theorem dX5_stands_25 : decode cX5_stands 25 = .ok (.aload_n 0, 1) := by decide +kernel
theorem dX5_stands_26 : decode cX5_stands 26 = .ok (.getfield 49, 3) := by decide +kernel
theorem dX5_stands_29 : decode cX5_stands 29 = .ok (.getfield 127, 3) := by decide +kernel
theorem dX5_stands_32 : decode cX5_stands 32 = .ok (.iload_n 1, 1) := by decide +kernel
theorem dX5_stands_33 : decode cX5_stands 33 = .ok (.iaload, 1) := by decide +kernel
theorem dX5_stands_34 : decode cX5_stands 34 = .ok (.ireturn, 1) := by decide +kernel
set_option maxRecDepth 20000 in
theorem ggX5_time_X5_isPeriod : GoodIn wsX5_time wsX5_isPeriod := goodIn_r _ [9, 10, 29, 30, 31, 32, 33, 34, 35, 36] (by decide +kernel) (by decide +kernel)
set_option maxRecDepth 20000 in
theorem gX5_time_X5_isPeriod : GoodIn wsX5_time (wsV RX5 81 RX5 yX5_isPeriod wsX5_isPeriod) := goodIn_app (goodIn_of _ (by decide +kernel)) ggX5_time_X5_isPeriod
set_option maxRecDepth 20000 in
theorem ggX5_time_X3_follow : GoodIn wsX5_time wsX3_follow := goodIn_r _ [15, 16, 17, 18, 37, 38, 39, 40, 41, 42, 43] (by decide +kernel) (by decide +kernel)
set_option maxRecDepth 20000 in
theorem gX5_time_X3_follow : GoodIn wsX5_time (wsV RX5 120 RX3 yX3_follow wsX3_follow) := goodIn_app (goodIn_of _ (by decide +kernel)) ggX5_time_X3_follow
set_option maxRecDepth 20000 in
theorem ggX5_time_X5_timeOf : GoodIn wsX5_time wsX5_timeOf := goodIn_r _ [22, 4, 3, 23, 24, 2, 25, 26, 27, 14, 28, 17, 29, 30, 31, 32, 33, 34, 35, 36, 39, 40, 41, 42, 43, 37, 38] (by decide +kernel) (by decide +kernel)
set_option maxRecDepth 20000 in
theorem gX5_time_X5_timeOf : GoodIn wsX5_time (wsV RX5 130 RX5 yX5_timeOf wsX5_timeOf) := goodIn_app (goodIn_of _ (by decide +kernel)) ggX5_time_X5_timeOf
theorem dX5_time_0 : decode cX5_time 0 = .ok (.aload_n 0, 1) := by decide +kernel
theorem dX5_time_1 : decode cX5_time 1 = .ok (.iload_n 1, 1) := by decide +kernel
theorem dX5_time_2 : decode cX5_time 2 = .ok (.invokevirtual 81, 3) := by decide +kernel
theorem dX5_time_5 : decode cX5_time 5 = .ok (.ifCond .ne 7, 3) := by decide +kernel
theorem dX5_time_8 : decode cX5_time 8 = .ok (.ldc2_w 103, 3) := by decide +kernel
theorem dX5_time_11 : decode cX5_time 11 = .ok (.lreturn, 1) := by decide +kernel
theorem dX5_time_12 : decode cX5_time 12 = .ok (.aload_n 0, 1) := by decide +kernel
theorem dX5_time_13 : decode cX5_time 13 = .ok (.getfield 49, 3) := by decide +kernel
theorem dX5_time_16 : decode cX5_time 16 = .ok (.aload_n 0, 1) := by decide +kernel
theorem dX5_time_17 : decode cX5_time 17 = .ok (.getfield 26, 3) := by decide +kernel
theorem dX5_time_20 : decode cX5_time 20 = .ok (.aload_n 0, 1) := by decide +kernel
theorem dX5_time_21 : decode cX5_time 21 = .ok (.getfield 33, 3) := by decide +kernel
theorem dX5_time_24 : decode cX5_time 24 = .ok (.invokevirtual 120, 3) := by decide +kernel
theorem dX5_time_27 : decode cX5_time 27 = .ok (.aload_n 0, 1) := by decide +kernel
theorem dX5_time_28 : decode cX5_time 28 = .ok (.iload_n 1, 1) := by decide +kernel
theorem dX5_time_29 : decode cX5_time 29 = .ok (.invokevirtual 130, 3) := by decide +kernel
theorem dX5_time_32 : decode cX5_time 32 = .ok (.lreturn, 1) := by decide +kernel
set_option maxRecDepth 20000 in
theorem ggX5_price_X5_isPrice : GoodIn wsX5_price wsX5_isPrice := goodIn_r _ [5] (by decide +kernel) (by decide +kernel)
set_option maxRecDepth 20000 in
theorem gX5_price_X5_isPrice : GoodIn wsX5_price (va_wsS RX5 134 yX5_isPrice wsX5_isPrice) := goodIn_app (goodIn_of _ (by decide +kernel)) ggX5_price_X5_isPrice
set_option maxRecDepth 20000 in
theorem ggX5_price_X5_priceOf : GoodIn wsX5_price wsX5_priceOf := goodIn_r _ [9, 10, 11, 12, 4, 13, 14, 15, 16, 17, 18, 19, 20, 21, 22, 23, 24, 25, 26, 27, 28, 29, 30, 31, 32, 33, 34, 35, 36, 37, 38, 39, 40, 41, 42, 43, 44, 45, 46, 47, 48, 49, 50, 51, 52, 53, 54, 55, 56, 57, 58, 59, 60, 61, 62, 63, 64, 65, 66, 67, 68, 69, 70, 71, 72, 73, 74, 75, 76, 77, 78, 79, 80, 81, 82, 83, 84, 85, 86, 87, 88, 89, 90, 91, 92, 93, 94, 95, 96, 97, 98, 99, 100, 101, 102, 103, 104, 105, 106, 107, 108, 109, 110, 111, 112, 113, 114, 115, 116, 117, 118, 119, 120, 121] (by decide +kernel) (by decide +kernel)
set_option maxRecDepth 20000 in
theorem gX5_price_X5_priceOf : GoodIn wsX5_price (wsV RX5 137 RX5 yX5_priceOf wsX5_priceOf) := goodIn_app (goodIn_of _ (by decide +kernel)) ggX5_price_X5_priceOf
theorem dX5_price_0 : decode cX5_price 0 = .ok (.iload_n 1, 1) := by decide +kernel
theorem dX5_price_1 : decode cX5_price 1 = .ok (.invokestatic 134, 3) := by decide +kernel
theorem dX5_price_4 : decode cX5_price 4 = .ok (.ifCond .eq 11, 3) := by decide +kernel
theorem dX5_price_7 : decode cX5_price 7 = .ok (.aload_n 0, 1) := by decide +kernel
theorem dX5_price_8 : decode cX5_price 8 = .ok (.iload_n 1, 1) := by decide +kernel
theorem dX5_price_9 : decode cX5_price 9 = .ok (.invokevirtual 137, 3) := by decide +kernel
theorem dX5_price_12 : decode cX5_price 12 = .ok (.goto 6, 3) := by decide +kernel
theorem dX5_price_15 : decode cX5_price 15 = .ok (.ldc2_w 103, 3) := by decide +kernel
theorem dX5_price_18 : decode cX5_price 18 = .ok (.lreturn, 1) := by decide +kernel
set_option maxRecDepth 20000 in
theorem ggX5_faults_X5_findFaults : GoodIn wsX5_faults wsX5_findFaults := goodIn_r _ [7, 8, 9, 10, 1, 2, 11, 12, 13, 14, 6, 15, 16, 17, 18, 19, 20, 21, 22, 23, 24, 25, 26, 27, 28, 29, 30, 31, 32, 33, 34, 35, 36, 37, 38, 39, 40, 41, 42, 43, 44, 45, 46, 47, 48, 49, 50, 51, 52, 53, 54, 55, 56, 57, 58, 59, 60, 61, 62, 63, 64, 65, 66, 67, 68, 69, 70, 71, 72, 73, 74, 75, 76, 77, 78, 79, 80, 81, 82, 83, 84, 85, 86, 87, 88, 89, 90, 91, 92, 93, 94, 95, 96, 97, 98, 99, 100, 101, 102, 103, 104, 105, 106, 107, 108, 109, 110, 111, 112, 113, 114, 115, 116, 117, 118, 119, 120, 121, 122, 123, 124, 125, 126, 127] (by decide +kernel) (by decide +kernel)
set_option maxRecDepth 20000 in
theorem gX5_faults_X5_findFaults : GoodIn wsX5_faults (wsV RX5 140 RX5 yX5_findFaults wsX5_findFaults) := goodIn_app (goodIn_of _ (by decide +kernel)) ggX5_faults_X5_findFaults
theorem dX5_faults_0 : decode cX5_faults 0 = .ok (.aload_n 0, 1) := by decide +kernel
theorem dX5_faults_1 : decode cX5_faults 1 = .ok (.invokevirtual 140, 3) := by decide +kernel
theorem dX5_faults_4 : decode cX5_faults 4 = .ok (.aload_n 0, 1) := by decide +kernel
theorem dX5_faults_5 : decode cX5_faults 5 = .ok (.getfield 56, 3) := by decide +kernel
theorem dX5_faults_8 : decode cX5_faults 8 = .ok (.getfield 143, 3) := by decide +kernel
theorem dX5_faults_11 : decode cX5_faults 11 = .ok (.ireturn, 1) := by decide +kernel
set_option maxRecDepth 20000 in
theorem ggX5_fault_X5_findFaults : GoodIn wsX5_fault wsX5_findFaults := goodIn_r _ [7, 8, 9, 10, 1, 2, 11, 12, 13, 14, 6, 15, 16, 17, 18, 19, 20, 21, 22, 23, 24, 25, 26, 27, 28, 29, 30, 31, 32, 33, 34, 35, 36, 37, 38, 39, 40, 41, 42, 43, 44, 45, 46, 47, 48, 49, 50, 51, 52, 53, 54, 55, 56, 57, 58, 59, 60, 61, 62, 63, 64, 65, 66, 67, 68, 69, 70, 71, 72, 73, 74, 75, 76, 77, 78, 79, 80, 81, 82, 83, 84, 85, 86, 87, 88, 89, 90, 91, 92, 93, 94, 95, 96, 97, 98, 99, 100, 101, 102, 103, 104, 105, 106, 107, 112, 113, 114, 115, 116, 117, 118, 119, 120, 121, 122, 123, 124, 125, 126, 127, 128, 129, 130, 131] (by decide +kernel) (by decide +kernel)
set_option maxRecDepth 20000 in
theorem gX5_fault_X5_findFaults : GoodIn wsX5_fault (wsV RX5 140 RX5 yX5_findFaults wsX5_findFaults) := goodIn_app (goodIn_of _ (by decide +kernel)) ggX5_fault_X5_findFaults
set_option maxRecDepth 20000 in
theorem ggX5_fault_X1_cell : GoodIn wsX5_fault wsX1_cell := goodIn_r _ [111, 82, 120, 121] (by decide +kernel) (by decide +kernel)
set_option maxRecDepth 20000 in
theorem gX5_fault_X1_cell : GoodIn wsX5_fault (wsV RX5 146 RX1 yX1_cell wsX1_cell) := goodIn_app (goodIn_of _ (by decide +kernel)) ggX5_fault_X1_cell
theorem dX5_fault_0 : decode cX5_fault 0 = .ok (.aload_n 0, 1) := by decide +kernel
theorem dX5_fault_1 : decode cX5_fault 1 = .ok (.invokevirtual 140, 3) := by decide +kernel
theorem dX5_fault_4 : decode cX5_fault 4 = .ok (.iload_n 1, 1) := by decide +kernel
theorem dX5_fault_5 : decode cX5_fault 5 = .ok (.ifCond .lt 14, 3) := by decide +kernel
theorem dX5_fault_8 : decode cX5_fault 8 = .ok (.iload_n 1, 1) := by decide +kernel
theorem dX5_fault_9 : decode cX5_fault 9 = .ok (.aload_n 0, 1) := by decide +kernel
theorem dX5_fault_10 : decode cX5_fault 10 = .ok (.getfield 56, 3) := by decide +kernel
theorem dX5_fault_13 : decode cX5_fault 13 = .ok (.getfield 143, 3) := by decide +kernel
theorem dX5_fault_16 : decode cX5_fault 16 = .ok (.if_icmp .lt 5, 3) := by decide +kernel
theorem dX5_fault_19 : decode cX5_fault 19 = .ok (.iconst (-1), 1) := by decide +kernel
theorem dX5_fault_20 : decode cX5_fault 20 = .ok (.ireturn, 1) := by decide +kernel
theorem dX5_fault_21 : decode cX5_fault 21 = .ok (.iload_n 2, 1) := by decide +kernel
theorem dX5_fault_22 : decode cX5_fault 22 = .ok (.ifCond .lt 8, 3) := by decide +kernel
theorem dX5_fault_25 : decode cX5_fault 25 = .ok (.iload_n 2, 1) := by decide +kernel
theorem dX5_fault_26 : decode cX5_fault 26 = .ok (.iconst 4, 1) := by decide +kernel
theorem dX5_fault_27 : decode cX5_fault 27 = .ok (.if_icmp .lt 6, 3) := by decide +kernel
theorem dX5_fault_30 : decode cX5_fault 30 = .ok (.bipush (-2), 2) := by decide +kernel
theorem dX5_fault_32 : decode cX5_fault 32 = .ok (.ireturn, 1) := by decide +kernel
theorem dX5_fault_33 : decode cX5_fault 33 = .ok (.aload_n 0, 1) := by decide +kernel
theorem dX5_fault_34 : decode cX5_fault 34 = .ok (.getfield 56, 3) := by decide +kernel
theorem dX5_fault_37 : decode cX5_fault 37 = .ok (.iload_n 1, 1) := by decide +kernel
theorem dX5_fault_38 : decode cX5_fault 38 = .ok (.iload_n 2, 1) := by decide +kernel
theorem dX5_fault_39 : decode cX5_fault 39 = .ok (.invokevirtual 146, 3) := by decide +kernel
theorem dX5_fault_42 : decode cX5_fault 42 = .ok (.ireturn, 1) := by decide +kernel
set_option maxRecDepth 20000 in
theorem ggX5_best_X5_isItem : GoodIn wsX5_best wsX5_isItem := goodIn_r _ [9, 10, 47, 48, 49, 50, 51, 52, 53, 54] (by decide +kernel) (by decide +kernel)
set_option maxRecDepth 20000 in
theorem gX5_best_X5_isItem : GoodIn wsX5_best (wsV RX5 67 RX5 yX5_isItem wsX5_isItem) := goodIn_app (goodIn_of _ (by decide +kernel)) ggX5_best_X5_isItem
set_option maxRecDepth 20000 in
theorem ggX5_best_X0_plan : GoodIn wsX5_best wsX0_plan := goodIn_r _ [15, 16, 17, 18, 19, 20, 21, 14, 22, 23, 24, 25, 26, 27, 28, 29, 30, 31, 32, 33, 34, 35, 36, 37, 38, 39, 40, 41, 42, 43, 44, 45, 46, 60, 61, 62, 63, 64, 55, 56, 57, 58, 59] (by decide +kernel) (by decide +kernel)
set_option maxRecDepth 20000 in
theorem gX5_best_X0_plan : GoodIn wsX5_best (wsV RX5 149 RX0 yX0_plan wsX0_plan) := goodIn_app (goodIn_of _ (by decide +kernel)) ggX5_best_X0_plan
theorem dX5_best_0 : decode cX5_best 0 = .ok (.aload_n 0, 1) := by decide +kernel
theorem dX5_best_1 : decode cX5_best 1 = .ok (.iload_n 1, 1) := by decide +kernel
theorem dX5_best_2 : decode cX5_best 2 = .ok (.invokevirtual 67, 3) := by decide +kernel
theorem dX5_best_5 : decode cX5_best 5 = .ok (.ifCond .ne 7, 3) := by decide +kernel
theorem dX5_best_8 : decode cX5_best 8 = .ok (.ldc2_w 103, 3) := by decide +kernel
theorem dX5_best_11 : decode cX5_best 11 = .ok (.lreturn, 1) := by decide +kernel
theorem dX5_best_12 : decode cX5_best 12 = .ok (.aload_n 0, 1) := by decide +kernel
theorem dX5_best_13 : decode cX5_best 13 = .ok (.getfield 63, 3) := by decide +kernel
theorem dX5_best_16 : decode cX5_best 16 = .ok (.aload_n 0, 1) := by decide +kernel
theorem dX5_best_17 : decode cX5_best 17 = .ok (.getfield 26, 3) := by decide +kernel
theorem dX5_best_20 : decode cX5_best 20 = .ok (.iload_n 1, 1) := by decide +kernel
theorem dX5_best_21 : decode cX5_best 21 = .ok (.aaload, 1) := by decide +kernel
theorem dX5_best_22 : decode cX5_best 22 = .ok (.invokevirtual 149, 3) := by decide +kernel
theorem dX5_best_25 : decode cX5_best 25 = .ok (.aload_n 0, 1) := by decide +kernel
theorem dX5_best_26 : decode cX5_best 26 = .ok (.getfield 63, 3) := by decide +kernel
theorem dX5_best_29 : decode cX5_best 29 = .ok (.getfield 153, 3) := by decide +kernel
theorem dX5_best_32 : decode cX5_best 32 = .ok (.iconst 1, 1) := by decide +kernel
theorem dX5_best_33 : decode cX5_best 33 = .ok (.laload, 1) := by decide +kernel
theorem dX5_best_34 : decode cX5_best 34 = .ok (.lreturn, 1) := by decide +kernel
set_option maxRecDepth 20000 in
theorem ggX5_lot_X5_isItem : GoodIn wsX5_lot wsX5_isItem := goodIn_r _ [8, 9, 51, 52, 53, 54, 55, 56, 57, 58] (by decide +kernel) (by decide +kernel)
set_option maxRecDepth 20000 in
theorem gX5_lot_X5_isItem : GoodIn wsX5_lot (wsV RX5 67 RX5 yX5_isItem wsX5_isItem) := goodIn_app (goodIn_of _ (by decide +kernel)) ggX5_lot_X5_isItem
set_option maxRecDepth 20000 in
theorem ggX5_lot_X5_isPeriod : GoodIn wsX5_lot wsX5_isPeriod := goodIn_r _ [13, 14, 51, 52, 53, 54, 55, 56, 57, 58] (by decide +kernel) (by decide +kernel)
set_option maxRecDepth 20000 in
theorem gX5_lot_X5_isPeriod : GoodIn wsX5_lot (wsV RX5 81 RX5 yX5_isPeriod wsX5_isPeriod) := goodIn_app (goodIn_of _ (by decide +kernel)) ggX5_lot_X5_isPeriod
set_option maxRecDepth 20000 in
theorem ggX5_lot_X0_plan : GoodIn wsX5_lot wsX0_plan := goodIn_r _ [19, 20, 21, 22, 23, 24, 25, 18, 26, 27, 28, 29, 30, 31, 32, 33, 34, 35, 36, 37, 38, 39, 40, 41, 42, 43, 44, 45, 46, 47, 48, 49, 50, 64, 65, 66, 67, 68, 59, 60, 61, 62, 63] (by decide +kernel) (by decide +kernel)
set_option maxRecDepth 20000 in
theorem gX5_lot_X0_plan : GoodIn wsX5_lot (wsV RX5 149 RX0 yX0_plan wsX0_plan) := goodIn_app (goodIn_of _ (by decide +kernel)) ggX5_lot_X0_plan
theorem dX5_lot_0 : decode cX5_lot 0 = .ok (.aload_n 0, 1) := by decide +kernel
theorem dX5_lot_1 : decode cX5_lot 1 = .ok (.iload_n 1, 1) := by decide +kernel
theorem dX5_lot_2 : decode cX5_lot 2 = .ok (.invokevirtual 67, 3) := by decide +kernel
theorem dX5_lot_5 : decode cX5_lot 5 = .ok (.ifCond .eq 11, 3) := by decide +kernel
theorem dX5_lot_8 : decode cX5_lot 8 = .ok (.aload_n 0, 1) := by decide +kernel
theorem dX5_lot_9 : decode cX5_lot 9 = .ok (.iload_n 2, 1) := by decide +kernel
theorem dX5_lot_10 : decode cX5_lot 10 = .ok (.invokevirtual 81, 3) := by decide +kernel
theorem dX5_lot_13 : decode cX5_lot 13 = .ok (.ifCond .ne 5, 3) := by decide +kernel
theorem dX5_lot_16 : decode cX5_lot 16 = .ok (.iconst (-1), 1) := by decide +kernel
theorem dX5_lot_17 : decode cX5_lot 17 = .ok (.ireturn, 1) := by decide +kernel
theorem dX5_lot_18 : decode cX5_lot 18 = .ok (.aload_n 0, 1) := by decide +kernel
theorem dX5_lot_19 : decode cX5_lot 19 = .ok (.getfield 63, 3) := by decide +kernel
theorem dX5_lot_22 : decode cX5_lot 22 = .ok (.aload_n 0, 1) := by decide +kernel
theorem dX5_lot_23 : decode cX5_lot 23 = .ok (.getfield 26, 3) := by decide +kernel
theorem dX5_lot_26 : decode cX5_lot 26 = .ok (.iload_n 1, 1) := by decide +kernel
theorem dX5_lot_27 : decode cX5_lot 27 = .ok (.aaload, 1) := by decide +kernel
theorem dX5_lot_28 : decode cX5_lot 28 = .ok (.invokevirtual 149, 3) := by decide +kernel
theorem dX5_lot_31 : decode cX5_lot 31 = .ok (.aload_n 0, 1) := by decide +kernel
theorem dX5_lot_32 : decode cX5_lot 32 = .ok (.getfield 63, 3) := by decide +kernel
theorem dX5_lot_35 : decode cX5_lot 35 = .ok (.getfield 157, 3) := by decide +kernel
theorem dX5_lot_38 : decode cX5_lot 38 = .ok (.iload_n 2, 1) := by decide +kernel
theorem dX5_lot_39 : decode cX5_lot 39 = .ok (.iaload, 1) := by decide +kernel
theorem dX5_lot_40 : decode cX5_lot 40 = .ok (.ireturn, 1) := by decide +kernel
set_option maxRecDepth 20000 in
theorem ggX5_from_X5_isItem : GoodIn wsX5_from wsX5_isItem := goodIn_r _ [10, 11, 48, 49, 50, 51, 52, 53, 54, 55] (by decide +kernel) (by decide +kernel)
set_option maxRecDepth 20000 in
theorem gX5_from_X5_isItem : GoodIn wsX5_from (wsV RX5 67 RX5 yX5_isItem wsX5_isItem) := goodIn_app (goodIn_of _ (by decide +kernel)) ggX5_from_X5_isItem
set_option maxRecDepth 20000 in
theorem ggX5_from_X0_plan : GoodIn wsX5_from wsX0_plan := goodIn_r _ [16, 17, 18, 19, 20, 21, 22, 15, 23, 24, 25, 26, 27, 28, 29, 30, 31, 32, 33, 34, 35, 36, 37, 38, 39, 40, 41, 42, 43, 44, 45, 46, 47, 61, 62, 63, 64, 65, 56, 57, 58, 59, 60] (by decide +kernel) (by decide +kernel)
set_option maxRecDepth 20000 in
theorem gX5_from_X0_plan : GoodIn wsX5_from (wsV RX5 149 RX0 yX0_plan wsX0_plan) := goodIn_app (goodIn_of _ (by decide +kernel)) ggX5_from_X0_plan
theorem dX5_from_0 : decode cX5_from 0 = .ok (.aload_n 0, 1) := by decide +kernel
theorem dX5_from_1 : decode cX5_from 1 = .ok (.iload_n 1, 1) := by decide +kernel
theorem dX5_from_2 : decode cX5_from 2 = .ok (.invokevirtual 67, 3) := by decide +kernel
theorem dX5_from_5 : decode cX5_from 5 = .ok (.ifCond .eq 18, 3) := by decide +kernel
theorem dX5_from_8 : decode cX5_from 8 = .ok (.iload_n 2, 1) := by decide +kernel
theorem dX5_from_9 : decode cX5_from 9 = .ok (.iconst 1, 1) := by decide +kernel
theorem dX5_from_10 : decode cX5_from 10 = .ok (.if_icmp .lt 13, 3) := by decide +kernel
theorem dX5_from_13 : decode cX5_from 13 = .ok (.iload_n 2, 1) := by decide +kernel
theorem dX5_from_14 : decode cX5_from 14 = .ok (.aload_n 0, 1) := by decide +kernel
theorem dX5_from_15 : decode cX5_from 15 = .ok (.getfield 20, 3) := by decide +kernel
theorem dX5_from_18 : decode cX5_from 18 = .ok (.iconst 1, 1) := by decide +kernel
theorem dX5_from_19 : decode cX5_from 19 = .ok (.iadd, 1) := by decide +kernel
theorem dX5_from_20 : decode cX5_from 20 = .ok (.if_icmp .le 7, 3) := by decide +kernel
theorem dX5_from_23 : decode cX5_from 23 = .ok (.ldc2_w 103, 3) := by decide +kernel
theorem dX5_from_26 : decode cX5_from 26 = .ok (.lreturn, 1) := by decide +kernel
theorem dX5_from_27 : decode cX5_from 27 = .ok (.aload_n 0, 1) := by decide +kernel
theorem dX5_from_28 : decode cX5_from 28 = .ok (.getfield 63, 3) := by decide +kernel
theorem dX5_from_31 : decode cX5_from 31 = .ok (.aload_n 0, 1) := by decide +kernel
theorem dX5_from_32 : decode cX5_from 32 = .ok (.getfield 26, 3) := by decide +kernel
theorem dX5_from_35 : decode cX5_from 35 = .ok (.iload_n 1, 1) := by decide +kernel
theorem dX5_from_36 : decode cX5_from 36 = .ok (.aaload, 1) := by decide +kernel
theorem dX5_from_37 : decode cX5_from 37 = .ok (.invokevirtual 149, 3) := by decide +kernel
theorem dX5_from_40 : decode cX5_from 40 = .ok (.aload_n 0, 1) := by decide +kernel
theorem dX5_from_41 : decode cX5_from 41 = .ok (.getfield 63, 3) := by decide +kernel
theorem dX5_from_44 : decode cX5_from 44 = .ok (.getfield 153, 3) := by decide +kernel
theorem dX5_from_47 : decode cX5_from 47 = .ok (.iload_n 2, 1) := by decide +kernel
theorem dX5_from_48 : decode cX5_from 48 = .ok (.laload, 1) := by decide +kernel
theorem dX5_from_49 : decode cX5_from 49 = .ok (.lreturn, 1) := by decide +kernel
set_option maxRecDepth 20000 in
theorem ggX5_share_X5_isPrice : GoodIn wsX5_share wsX5_isPrice := goodIn_r _ [8] (by decide +kernel) (by decide +kernel)
set_option maxRecDepth 20000 in
theorem gX5_share_X5_isPrice : GoodIn wsX5_share (va_wsS RX5 134 yX5_isPrice wsX5_isPrice) := goodIn_app (goodIn_of _ (by decide +kernel)) ggX5_share_X5_isPrice
set_option maxRecDepth 20000 in
theorem ggX5_share_X5_priceOf : GoodIn wsX5_share wsX5_priceOf := goodIn_r _ [12, 13, 14, 15, 7, 16, 17, 18, 19, 20, 21, 22, 23, 24, 25, 26, 27, 28, 29, 30, 31, 32, 33, 34, 35, 36, 37, 38, 39, 40, 41, 42, 43, 44, 45, 46, 47, 48, 49, 50, 51, 52, 53, 54, 55, 56, 57, 58, 59, 60, 61, 62, 63, 64, 65, 66, 67, 68, 69, 70, 71, 72, 73, 74, 75, 76, 77, 78, 79, 80, 81, 82, 83, 84, 85, 86, 87, 88, 89, 90, 91, 92, 93, 94, 95, 96, 97, 98, 99, 100, 101, 102, 103, 104, 105, 106, 107, 108, 109, 110, 111, 112, 113, 114, 115, 116, 117, 118, 119, 120, 121, 122, 123, 124] (by decide +kernel) (by decide +kernel)
set_option maxRecDepth 20000 in
theorem gX5_share_X5_priceOf : GoodIn wsX5_share (wsV RX5 137 RX5 yX5_priceOf wsX5_priceOf) := goodIn_app (goodIn_of _ (by decide +kernel)) ggX5_share_X5_priceOf
theorem dX5_share_0 : decode cX5_share 0 = .ok (.iload_n 1, 1) := by decide +kernel
theorem dX5_share_1 : decode cX5_share 1 = .ok (.invokestatic 134, 3) := by decide +kernel
theorem dX5_share_4 : decode cX5_share 4 = .ok (.ifCond .eq 10, 3) := by decide +kernel
theorem dX5_share_7 : decode cX5_share 7 = .ok (.iload_n 2, 1) := by decide +kernel
theorem dX5_share_8 : decode cX5_share 8 = .ok (.invokestatic 134, 3) := by decide +kernel
theorem dX5_share_11 : decode cX5_share 11 = .ok (.ifCond .ne 7, 3) := by decide +kernel
theorem dX5_share_14 : decode cX5_share 14 = .ok (.ldc2_w 103, 3) := by decide +kernel
theorem dX5_share_17 : decode cX5_share 17 = .ok (.lreturn, 1) := by decide +kernel
theorem dX5_share_18 : decode cX5_share 18 = .ok (.aload_n 0, 1) := by decide +kernel
theorem dX5_share_19 : decode cX5_share 19 = .ok (.iload_n 2, 1) := by decide +kernel
theorem dX5_share_20 : decode cX5_share 20 = .ok (.invokevirtual 137, 3) := by decide +kernel
theorem dX5_share_23 : decode cX5_share 23 = .ok (.lstore_n 3, 1) := by decide +kernel
theorem dX5_share_24 : decode cX5_share 24 = .ok (.lload_n 3, 1) := by decide +kernel
theorem dX5_share_25 : decode cX5_share 25 = .ok (.lconst 0, 1) := by decide +kernel
theorem dX5_share_26 : decode cX5_share 26 = .ok (.lcmp, 1) := by decide +kernel
theorem dX5_share_27 : decode cX5_share 27 = .ok (.ifCond .ne 13, 3) := by decide +kernel
theorem dX5_share_30 : decode cX5_share 30 = .ok (.new 160, 3) := by decide +kernel
theorem dX5_share_33 : decode cX5_share 33 = .ok (.dup, 1) := by decide +kernel
theorem dX5_share_34 : decode cX5_share 34 = .ok (.ldc 162, 2) := by decide +kernel
theorem dX5_share_36 : decode cX5_share 36 = .ok (.invokespecial 164, 3) := by decide +kernel
theorem dX5_share_39 : decode cX5_share 39 = .ok (.athrow, 1) := by decide +kernel
theorem dX5_share_40 : decode cX5_share 40 = .ok (.ldc2_w 167, 3) := by decide +kernel
theorem dX5_share_43 : decode cX5_share 43 = .ok (.aload_n 0, 1) := by decide +kernel
theorem dX5_share_44 : decode cX5_share 44 = .ok (.iload_n 1, 1) := by decide +kernel
theorem dX5_share_45 : decode cX5_share 45 = .ok (.invokevirtual 137, 3) := by decide +kernel
theorem dX5_share_48 : decode cX5_share 48 = .ok (.lmul, 1) := by decide +kernel
theorem dX5_share_49 : decode cX5_share 49 = .ok (.lload_n 3, 1) := by decide +kernel
theorem dX5_share_50 : decode cX5_share 50 = .ok (.ldiv, 1) := by decide +kernel
theorem dX5_share_51 : decode cX5_share 51 = .ok (.lreturn, 1) := by decide +kernel
theorem dX5_isItem_0 : decode cX5_isItem 0 = .ok (.iload_n 1, 1) := by decide +kernel
theorem dX5_isItem_1 : decode cX5_isItem 1 = .ok (.ifCond .lt 15, 3) := by decide +kernel
theorem dX5_isItem_4 : decode cX5_isItem 4 = .ok (.iload_n 1, 1) := by decide +kernel
theorem dX5_isItem_5 : decode cX5_isItem 5 = .ok (.aload_n 0, 1) := by decide +kernel
theorem dX5_isItem_6 : decode cX5_isItem 6 = .ok (.getfield 33, 3) := by decide +kernel
theorem dX5_isItem_9 : decode cX5_isItem 9 = .ok (.if_icmp .ge 7, 3) := by decide +kernel
theorem dX5_isItem_12 : decode cX5_isItem 12 = .ok (.iconst 1, 1) := by decide +kernel
theorem dX5_isItem_13 : decode cX5_isItem 13 = .ok (.goto 4, 3) := by decide +kernel
theorem dX5_isItem_16 : decode cX5_isItem 16 = .ok (.iconst 0, 1) := by decide +kernel
theorem dX5_isItem_17 : decode cX5_isItem 17 = .ok (.ireturn, 1) := by decide +kernel
theorem dX5_isPeriod_0 : decode cX5_isPeriod 0 = .ok (.iload_n 1, 1) := by decide +kernel
theorem dX5_isPeriod_1 : decode cX5_isPeriod 1 = .ok (.iconst 1, 1) := by decide +kernel
theorem dX5_isPeriod_2 : decode cX5_isPeriod 2 = .ok (.if_icmp .lt 15, 3) := by decide +kernel
theorem dX5_isPeriod_5 : decode cX5_isPeriod 5 = .ok (.iload_n 1, 1) := by decide +kernel
theorem dX5_isPeriod_6 : decode cX5_isPeriod 6 = .ok (.aload_n 0, 1) := by decide +kernel
theorem dX5_isPeriod_7 : decode cX5_isPeriod 7 = .ok (.getfield 20, 3) := by decide +kernel
theorem dX5_isPeriod_10 : decode cX5_isPeriod 10 = .ok (.if_icmp .gt 7, 3) := by decide +kernel
theorem dX5_isPeriod_13 : decode cX5_isPeriod 13 = .ok (.iconst 1, 1) := by decide +kernel
theorem dX5_isPeriod_14 : decode cX5_isPeriod 14 = .ok (.goto 4, 3) := by decide +kernel
theorem dX5_isPeriod_17 : decode cX5_isPeriod 17 = .ok (.iconst 0, 1) := by decide +kernel
theorem dX5_isPeriod_18 : decode cX5_isPeriod 18 = .ok (.ireturn, 1) := by decide +kernel
set_option maxRecDepth 20000 in
theorem ggX5_isPeriodOrBeginning_X5_isPeriod : GoodIn wsX5_isPeriodOrBeginning wsX5_isPeriod := goodIn_r _ [5, 6, 7, 8, 9, 10, 11, 12, 13, 14] (by decide +kernel) (by decide +kernel)
set_option maxRecDepth 20000 in
theorem gX5_isPeriodOrBeginning_X5_isPeriod : GoodIn wsX5_isPeriodOrBeginning (wsV RX5 81 RX5 yX5_isPeriod wsX5_isPeriod) := goodIn_app (goodIn_of _ (by decide +kernel)) ggX5_isPeriodOrBeginning_X5_isPeriod
theorem dX5_isPeriodOrBeginning_0 : decode cX5_isPeriodOrBeginning 0 = .ok (.iload_n 1, 1) := by decide +kernel
theorem dX5_isPeriodOrBeginning_1 : decode cX5_isPeriodOrBeginning 1 = .ok (.ifCond .eq 11, 3) := by decide +kernel
theorem dX5_isPeriodOrBeginning_4 : decode cX5_isPeriodOrBeginning 4 = .ok (.aload_n 0, 1) := by decide +kernel
theorem dX5_isPeriodOrBeginning_5 : decode cX5_isPeriodOrBeginning 5 = .ok (.iload_n 1, 1) := by decide +kernel
theorem dX5_isPeriodOrBeginning_6 : decode cX5_isPeriodOrBeginning 6 = .ok (.invokevirtual 81, 3) := by decide +kernel
theorem dX5_isPeriodOrBeginning_9 : decode cX5_isPeriodOrBeginning 9 = .ok (.ifCond .eq 7, 3) := by decide +kernel
theorem dX5_isPeriodOrBeginning_12 : decode cX5_isPeriodOrBeginning 12 = .ok (.iconst 1, 1) := by decide +kernel
theorem dX5_isPeriodOrBeginning_13 : decode cX5_isPeriodOrBeginning 13 = .ok (.goto 4, 3) := by decide +kernel
theorem dX5_isPeriodOrBeginning_16 : decode cX5_isPeriodOrBeginning 16 = .ok (.iconst 0, 1) := by decide +kernel
theorem dX5_isPeriodOrBeginning_17 : decode cX5_isPeriodOrBeginning 17 = .ok (.ireturn, 1) := by decide +kernel
theorem dX5_isPrice_0 : decode cX5_isPrice 0 = .ok (.iload_n 0, 1) := by decide +kernel
theorem dX5_isPrice_1 : decode cX5_isPrice 1 = .ok (.ifCond .lt 12, 3) := by decide +kernel
theorem dX5_isPrice_4 : decode cX5_isPrice 4 = .ok (.iload_n 0, 1) := by decide +kernel
theorem dX5_isPrice_5 : decode cX5_isPrice 5 = .ok (.iconst 3, 1) := by decide +kernel
theorem dX5_isPrice_6 : decode cX5_isPrice 6 = .ok (.if_icmp .gt 7, 3) := by decide +kernel
theorem dX5_isPrice_9 : decode cX5_isPrice 9 = .ok (.iconst 1, 1) := by decide +kernel
theorem dX5_isPrice_10 : decode cX5_isPrice 10 = .ok (.goto 4, 3) := by decide +kernel
theorem dX5_isPrice_13 : decode cX5_isPrice 13 = .ok (.iconst 0, 1) := by decide +kernel
theorem dX5_isPrice_14 : decode cX5_isPrice 14 = .ok (.ireturn, 1) := by decide +kernel
theorem dX5_replace_0 : decode cX5_replace 0 = .ok (.iload_n 2, 1) := by decide +kernel
theorem dX5_replace_1 : decode cX5_replace 1 = .ok (.ifCond .lt 8, 3) := by decide +kernel
theorem dX5_replace_4 : decode cX5_replace 4 = .ok (.iload_n 2, 1) := by decide +kernel
theorem dX5_replace_5 : decode cX5_replace 5 = .ok (.iload_n 3, 1) := by decide +kernel
theorem dX5_replace_6 : decode cX5_replace 6 = .ok (.if_icmp .le 6, 3) := by decide +kernel
theorem dX5_replace_9 : decode cX5_replace 9 = .ok (.bipush (-2), 2) := by decide +kernel
theorem dX5_replace_11 : decode cX5_replace 11 = .ok (.ireturn, 1) := by decide +kernel
theorem dX5_replace_12 : decode cX5_replace 12 = .ok (.aload_n 0, 1) := by decide +kernel
theorem dX5_replace_13 : decode cX5_replace 13 = .ok (.iload_n 1, 1) := by decide +kernel
theorem dX5_replace_14 : decode cX5_replace 14 = .ok (.iaload, 1) := by decide +kernel
theorem dX5_replace_15 : decode cX5_replace 15 = .ok (.istore 4, 2) := by decide +kernel
theorem dX5_replace_17 : decode cX5_replace 17 = .ok (.aload_n 0, 1) := by decide +kernel
theorem dX5_replace_18 : decode cX5_replace 18 = .ok (.iload_n 1, 1) := by decide +kernel
theorem dX5_replace_19 : decode cX5_replace 19 = .ok (.iload_n 2, 1) := by decide +kernel
theorem dX5_replace_20 : decode cX5_replace 20 = .ok (.iastore, 1) := by decide +kernel
theorem dX5_replace_21 : decode cX5_replace 21 = .ok (.iload 4, 2) := by decide +kernel
theorem dX5_replace_23 : decode cX5_replace 23 = .ok (.ireturn, 1) := by decide +kernel
set_option maxRecDepth 20000 in
theorem ggX5_goesInto_X2_wholes : GoodIn wsX5_goesInto wsX2_wholes := goodIn_r _ [7, 8, 17, 18, 19, 20, 21] (by decide +kernel) (by decide +kernel)
set_option maxRecDepth 20000 in
theorem gX5_goesInto_X2_wholes : GoodIn wsX5_goesInto (wsV RX5 169 RX2 yX2_wholes wsX2_wholes) := goodIn_app (goodIn_of _ (by decide +kernel)) ggX5_goesInto_X2_wholes
theorem dX5_goesInto_0 : decode cX5_goesInto 0 = .ok (.iconst 1, 1) := by decide +kernel
theorem dX5_goesInto_1 : decode cX5_goesInto 1 = .ok (.iload_n 1, 1) := by decide +kernel
theorem dX5_goesInto_2 : decode cX5_goesInto 2 = .ok (.ishl, 1) := by decide +kernel
theorem dX5_goesInto_3 : decode cX5_goesInto 3 = .ok (.istore_n 3, 1) := by decide +kernel
theorem dX5_goesInto_4 : decode cX5_goesInto 4 = .ok (.iconst 0, 1) := by decide +kernel
theorem dX5_goesInto_5 : decode cX5_goesInto 5 = .ok (.istore 4, 2) := by decide +kernel
theorem dX5_goesInto_7 : decode cX5_goesInto 7 = .ok (.iload 4, 2) := by decide +kernel
theorem dX5_goesInto_9 : decode cX5_goesInto 9 = .ok (.aload_n 0, 1) := by decide +kernel
theorem dX5_goesInto_10 : decode cX5_goesInto 10 = .ok (.getfield 33, 3) := by decide +kernel
theorem dX5_goesInto_13 : decode cX5_goesInto 13 = .ok (.if_icmp .ge 49, 3) := by decide +kernel
theorem dX5_goesInto_16 : decode cX5_goesInto 16 = .ok (.iconst 0, 1) := by decide +kernel
theorem dX5_goesInto_17 : decode cX5_goesInto 17 = .ok (.istore 5, 2) := by decide +kernel
theorem dX5_goesInto_19 : decode cX5_goesInto 19 = .ok (.iload 5, 2) := by decide +kernel
theorem dX5_goesInto_21 : decode cX5_goesInto 21 = .ok (.aload_n 0, 1) := by decide +kernel
theorem dX5_goesInto_22 : decode cX5_goesInto 22 = .ok (.getfield 33, 3) := by decide +kernel
theorem dX5_goesInto_25 : decode cX5_goesInto 25 = .ok (.if_icmp .ge 31, 3) := by decide +kernel
theorem dX5_goesInto_28 : decode cX5_goesInto 28 = .ok (.iload_n 3, 1) := by decide +kernel
theorem dX5_goesInto_29 : decode cX5_goesInto 29 = .ok (.iconst 1, 1) := by decide +kernel
theorem dX5_goesInto_30 : decode cX5_goesInto 30 = .ok (.iload 5, 2) := by decide +kernel
theorem dX5_goesInto_32 : decode cX5_goesInto 32 = .ok (.ishl, 1) := by decide +kernel
theorem dX5_goesInto_33 : decode cX5_goesInto 33 = .ok (.iand, 1) := by decide +kernel
theorem dX5_goesInto_34 : decode cX5_goesInto 34 = .ok (.ifCond .eq 16, 3) := by decide +kernel
theorem dX5_goesInto_37 : decode cX5_goesInto 37 = .ok (.iload_n 3, 1) := by decide +kernel
theorem dX5_goesInto_38 : decode cX5_goesInto 38 = .ok (.aload_n 0, 1) := by decide +kernel
theorem dX5_goesInto_39 : decode cX5_goesInto 39 = .ok (.getfield 26, 3) := by decide +kernel
theorem dX5_goesInto_42 : decode cX5_goesInto 42 = .ok (.iload 5, 2) := by decide +kernel
theorem dX5_goesInto_44 : decode cX5_goesInto 44 = .ok (.aaload, 1) := by decide +kernel
theorem dX5_goesInto_45 : decode cX5_goesInto 45 = .ok (.invokevirtual 169, 3) := by decide +kernel
theorem dX5_goesInto_48 : decode cX5_goesInto 48 = .ok (.ior, 1) := by decide +kernel
theorem dX5_goesInto_49 : decode cX5_goesInto 49 = .ok (.istore_n 3, 1) := by decide +kernel
theorem dX5_goesInto_50 : decode cX5_goesInto 50 = .ok (.iinc 5 1, 3) := by decide +kernel
theorem dX5_goesInto_53 : decode cX5_goesInto 53 = .ok (.goto (-34), 3) := by decide +kernel
theorem dX5_goesInto_56 : decode cX5_goesInto 56 = .ok (.iinc 4 1, 3) := by decide +kernel
theorem dX5_goesInto_59 : decode cX5_goesInto 59 = .ok (.goto (-52), 3) := by decide +kernel
theorem dX5_goesInto_62 : decode cX5_goesInto 62 = .ok (.iload_n 3, 1) := by decide +kernel
theorem dX5_goesInto_63 : decode cX5_goesInto 63 = .ok (.iconst 1, 1) := by decide +kernel
theorem dX5_goesInto_64 : decode cX5_goesInto 64 = .ok (.iload_n 2, 1) := by decide +kernel
theorem dX5_goesInto_65 : decode cX5_goesInto 65 = .ok (.ishl, 1) := by decide +kernel
theorem dX5_goesInto_66 : decode cX5_goesInto 66 = .ok (.iand, 1) := by decide +kernel
theorem dX5_goesInto_67 : decode cX5_goesInto 67 = .ok (.ifCond .eq 7, 3) := by decide +kernel
theorem dX5_goesInto_70 : decode cX5_goesInto 70 = .ok (.iconst 1, 1) := by decide +kernel
theorem dX5_goesInto_71 : decode cX5_goesInto 71 = .ok (.goto 4, 3) := by decide +kernel
theorem dX5_goesInto_74 : decode cX5_goesInto 74 = .ok (.iconst 0, 1) := by decide +kernel
theorem dX5_goesInto_75 : decode cX5_goesInto 75 = .ok (.ireturn, 1) := by decide +kernel
theorem dX5_grossOf_0 : decode cX5_grossOf 0 = .ok (.aload_n 0, 1) := by decide +kernel
theorem dX5_grossOf_1 : decode cX5_grossOf 1 = .ok (.getfield 26, 3) := by decide +kernel
theorem dX5_grossOf_4 : decode cX5_grossOf 4 = .ok (.iload_n 1, 1) := by decide +kernel
theorem dX5_grossOf_5 : decode cX5_grossOf 5 = .ok (.aaload, 1) := by decide +kernel
theorem dX5_grossOf_6 : decode cX5_grossOf 6 = .ok (.getfield 84, 3) := by decide +kernel
theorem dX5_grossOf_9 : decode cX5_grossOf 9 = .ok (.iload_n 2, 1) := by decide +kernel
theorem dX5_grossOf_10 : decode cX5_grossOf 10 = .ok (.iaload, 1) := by decide +kernel
theorem dX5_grossOf_11 : decode cX5_grossOf 11 = .ok (.istore_n 3, 1) := by decide +kernel
theorem dX5_grossOf_12 : decode cX5_grossOf 12 = .ok (.iconst 0, 1) := by decide +kernel
theorem dX5_grossOf_13 : decode cX5_grossOf 13 = .ok (.istore 4, 2) := by decide +kernel
theorem dX5_grossOf_15 : decode cX5_grossOf 15 = .ok (.iload 4, 2) := by decide +kernel
theorem dX5_grossOf_17 : decode cX5_grossOf 17 = .ok (.aload_n 0, 1) := by decide +kernel
theorem dX5_grossOf_18 : decode cX5_grossOf 18 = .ok (.getfield 33, 3) := by decide +kernel
theorem dX5_grossOf_21 : decode cX5_grossOf 21 = .ok (.if_icmp .ge 37, 3) := by decide +kernel
theorem dX5_grossOf_24 : decode cX5_grossOf 24 = .ok (.iload_n 3, 1) := by decide +kernel
theorem dX5_grossOf_25 : decode cX5_grossOf 25 = .ok (.aload_n 0, 1) := by decide +kernel
theorem dX5_grossOf_26 : decode cX5_grossOf 26 = .ok (.getfield 26, 3) := by decide +kernel
theorem dX5_grossOf_29 : decode cX5_grossOf 29 = .ok (.iload_n 1, 1) := by decide +kernel
theorem dX5_grossOf_30 : decode cX5_grossOf 30 = .ok (.aaload, 1) := by decide +kernel
theorem dX5_grossOf_31 : decode cX5_grossOf 31 = .ok (.getfield 91, 3) := by decide +kernel
theorem dX5_grossOf_34 : decode cX5_grossOf 34 = .ok (.iload 4, 2) := by decide +kernel
theorem dX5_grossOf_36 : decode cX5_grossOf 36 = .ok (.iaload, 1) := by decide +kernel
theorem dX5_grossOf_37 : decode cX5_grossOf 37 = .ok (.aload_n 0, 1) := by decide +kernel
theorem dX5_grossOf_38 : decode cX5_grossOf 38 = .ok (.getfield 26, 3) := by decide +kernel
theorem dX5_grossOf_41 : decode cX5_grossOf 41 = .ok (.iload 4, 2) := by decide +kernel
theorem dX5_grossOf_43 : decode cX5_grossOf 43 = .ok (.aaload, 1) := by decide +kernel
theorem dX5_grossOf_44 : decode cX5_grossOf 44 = .ok (.getfield 94, 3) := by decide +kernel
theorem dX5_grossOf_47 : decode cX5_grossOf 47 = .ok (.iload_n 2, 1) := by decide +kernel
theorem dX5_grossOf_48 : decode cX5_grossOf 48 = .ok (.iaload, 1) := by decide +kernel
theorem dX5_grossOf_49 : decode cX5_grossOf 49 = .ok (.imul, 1) := by decide +kernel
theorem dX5_grossOf_50 : decode cX5_grossOf 50 = .ok (.iadd, 1) := by decide +kernel
theorem dX5_grossOf_51 : decode cX5_grossOf 51 = .ok (.istore_n 3, 1) := by decide +kernel
theorem dX5_grossOf_52 : decode cX5_grossOf 52 = .ok (.iinc 4 1, 3) := by decide +kernel
theorem dX5_grossOf_55 : decode cX5_grossOf 55 = .ok (.goto (-40), 3) := by decide +kernel
theorem dX5_grossOf_58 : decode cX5_grossOf 58 = .ok (.iload_n 3, 1) := by decide +kernel
theorem dX5_grossOf_59 : decode cX5_grossOf 59 = .ok (.ireturn, 1) := by decide +kernel
set_option maxRecDepth 20000 in
theorem ggX5_runItem_X4_begin : GoodIn wsX5_runItem wsX4_begin := goodIn_r _ [9, 10, 11, 65, 66, 67] (by decide +kernel) (by decide +kernel)
set_option maxRecDepth 20000 in
theorem gX5_runItem_X4_begin : GoodIn wsX5_runItem (wsV RX5 173 RX4 yX4_begin wsX4_begin) := goodIn_app (goodIn_of _ (by decide +kernel)) ggX5_runItem_X4_begin
set_option maxRecDepth 20000 in
theorem ggX5_runItem_X2_coming : GoodIn wsX5_runItem wsX2_coming := goodIn_r _ [16, 17, 18, 60, 61, 62, 63, 64] (by decide +kernel) (by decide +kernel)
set_option maxRecDepth 20000 in
theorem gX5_runItem_X2_coming : GoodIn wsX5_runItem (wsV RX5 176 RX2 yX2_coming wsX2_coming) := goodIn_app (goodIn_of _ (by decide +kernel)) ggX5_runItem_X2_coming
set_option maxRecDepth 20000 in
theorem ggX5_runItem_X5_grossOf : GoodIn wsX5_runItem wsX5_grossOf := goodIn_r _ [23, 1, 24, 25, 26, 27, 52, 53, 54, 55, 56, 57, 58, 59, 60, 61, 62, 63, 64] (by decide +kernel) (by decide +kernel)
set_option maxRecDepth 20000 in
theorem gX5_runItem_X5_grossOf : GoodIn wsX5_runItem (wsV RX5 97 RX5 yX5_grossOf wsX5_grossOf) := goodIn_app (goodIn_of _ (by decide +kernel)) ggX5_runItem_X5_grossOf
set_option maxRecDepth 20000 in
theorem ggX5_runItem_X4_pass : GoodIn wsX5_runItem wsX4_pass := goodIn_r _ [31, 11, 32, 10, 33, 34, 35, 8, 36, 37, 38, 39, 40, 41, 42, 43, 44, 45, 46, 47, 48, 49, 50, 51, 65, 66, 67] (by decide +kernel) (by decide +kernel)
set_option maxRecDepth 20000 in
theorem gX5_runItem_X4_pass : GoodIn wsX5_runItem (wsV RX5 180 RX4 yX4_pass wsX4_pass) := goodIn_app (goodIn_of _ (by decide +kernel)) ggX5_runItem_X4_pass
theorem dX5_runItem_0 : decode cX5_runItem 0 = .ok (.aload_n 0, 1) := by decide +kernel
theorem dX5_runItem_1 : decode cX5_runItem 1 = .ok (.getfield 26, 3) := by decide +kernel
theorem dX5_runItem_4 : decode cX5_runItem 4 = .ok (.iload_n 1, 1) := by decide +kernel
theorem dX5_runItem_5 : decode cX5_runItem 5 = .ok (.aaload, 1) := by decide +kernel
theorem dX5_runItem_6 : decode cX5_runItem 6 = .ok (.astore_n 2, 1) := by decide +kernel
theorem dX5_runItem_7 : decode cX5_runItem 7 = .ok (.aload_n 2, 1) := by decide +kernel
theorem dX5_runItem_8 : decode cX5_runItem 8 = .ok (.getfield 108, 3) := by decide +kernel
theorem dX5_runItem_11 : decode cX5_runItem 11 = .ok (.aload_n 2, 1) := by decide +kernel
theorem dX5_runItem_12 : decode cX5_runItem 12 = .ok (.getfield 71, 3) := by decide +kernel
theorem dX5_runItem_15 : decode cX5_runItem 15 = .ok (.iconst 4, 1) := by decide +kernel
theorem dX5_runItem_16 : decode cX5_runItem 16 = .ok (.iaload, 1) := by decide +kernel
theorem dX5_runItem_17 : decode cX5_runItem 17 = .ok (.invokevirtual 173, 3) := by decide +kernel
theorem dX5_runItem_20 : decode cX5_runItem 20 = .ok (.iconst 1, 1) := by decide +kernel
theorem dX5_runItem_21 : decode cX5_runItem 21 = .ok (.istore_n 3, 1) := by decide +kernel
theorem dX5_runItem_22 : decode cX5_runItem 22 = .ok (.iload_n 3, 1) := by decide +kernel
theorem dX5_runItem_23 : decode cX5_runItem 23 = .ok (.aload_n 0, 1) := by decide +kernel
theorem dX5_runItem_24 : decode cX5_runItem 24 = .ok (.getfield 20, 3) := by decide +kernel
theorem dX5_runItem_27 : decode cX5_runItem 27 = .ok (.if_icmp .gt 34, 3) := by decide +kernel
theorem dX5_runItem_30 : decode cX5_runItem 30 = .ok (.aload_n 2, 1) := by decide +kernel
theorem dX5_runItem_31 : decode cX5_runItem 31 = .ok (.getfield 108, 3) := by decide +kernel
theorem dX5_runItem_34 : decode cX5_runItem 34 = .ok (.iload_n 3, 1) := by decide +kernel
theorem dX5_runItem_35 : decode cX5_runItem 35 = .ok (.aload_n 2, 1) := by decide +kernel
theorem dX5_runItem_36 : decode cX5_runItem 36 = .ok (.iload_n 3, 1) := by decide +kernel
theorem dX5_runItem_37 : decode cX5_runItem 37 = .ok (.invokevirtual 176, 3) := by decide +kernel
theorem dX5_runItem_40 : decode cX5_runItem 40 = .ok (.aload_n 0, 1) := by decide +kernel
theorem dX5_runItem_41 : decode cX5_runItem 41 = .ok (.iload_n 1, 1) := by decide +kernel
theorem dX5_runItem_42 : decode cX5_runItem 42 = .ok (.iload_n 3, 1) := by decide +kernel
theorem dX5_runItem_43 : decode cX5_runItem 43 = .ok (.invokevirtual 97, 3) := by decide +kernel
theorem dX5_runItem_46 : decode cX5_runItem 46 = .ok (.aload_n 2, 1) := by decide +kernel
theorem dX5_runItem_47 : decode cX5_runItem 47 = .ok (.getfield 71, 3) := by decide +kernel
theorem dX5_runItem_50 : decode cX5_runItem 50 = .ok (.iconst 3, 1) := by decide +kernel
theorem dX5_runItem_51 : decode cX5_runItem 51 = .ok (.iaload, 1) := by decide +kernel
theorem dX5_runItem_52 : decode cX5_runItem 52 = .ok (.invokevirtual 180, 3) := by decide +kernel
theorem dX5_runItem_55 : decode cX5_runItem 55 = .ok (.iinc 3 1, 3) := by decide +kernel
theorem dX5_runItem_58 : decode cX5_runItem 58 = .ok (.goto (-36), 3) := by decide +kernel
theorem dX5_runItem_61 : decode cX5_runItem 61 = .ok (.return_, 1) := by decide +kernel
set_option maxRecDepth 20000 in
theorem ggX5_timeOf_X3_setsUp : GoodIn wsX5_timeOf wsX3_setsUp := goodIn_r _ [10, 11, 25, 26] (by decide +kernel) (by decide +kernel)
set_option maxRecDepth 20000 in
theorem gX5_timeOf_X3_setsUp : GoodIn wsX5_timeOf (wsV RX5 124 RX3 yX3_setsUp wsX3_setsUp) := goodIn_app (goodIn_of _ (by decide +kernel)) ggX5_timeOf_X3_setsUp
theorem dX5_timeOf_0 : decode cX5_timeOf 0 = .ok (.lconst 0, 1) := by decide +kernel
theorem dX5_timeOf_1 : decode cX5_timeOf 1 = .ok (.lstore_n 2, 1) := by decide +kernel
theorem dX5_timeOf_2 : decode cX5_timeOf 2 = .ok (.iconst 0, 1) := by decide +kernel
theorem dX5_timeOf_3 : decode cX5_timeOf 3 = .ok (.istore 4, 2) := by decide +kernel
theorem dX5_timeOf_5 : decode cX5_timeOf 5 = .ok (.iload 4, 2) := by decide +kernel
theorem dX5_timeOf_7 : decode cX5_timeOf 7 = .ok (.aload_n 0, 1) := by decide +kernel
theorem dX5_timeOf_8 : decode cX5_timeOf 8 = .ok (.getfield 33, 3) := by decide +kernel
theorem dX5_timeOf_11 : decode cX5_timeOf 11 = .ok (.if_icmp .ge 68, 3) := by decide +kernel
theorem dX5_timeOf_14 : decode cX5_timeOf 14 = .ok (.lload_n 2, 1) := by decide +kernel
theorem dX5_timeOf_15 : decode cX5_timeOf 15 = .ok (.aload_n 0, 1) := by decide +kernel
theorem dX5_timeOf_16 : decode cX5_timeOf 16 = .ok (.getfield 26, 3) := by decide +kernel
theorem dX5_timeOf_19 : decode cX5_timeOf 19 = .ok (.iload 4, 2) := by decide +kernel
theorem dX5_timeOf_21 : decode cX5_timeOf 21 = .ok (.aaload, 1) := by decide +kernel
theorem dX5_timeOf_22 : decode cX5_timeOf 22 = .ok (.getfield 94, 3) := by decide +kernel
theorem dX5_timeOf_25 : decode cX5_timeOf 25 = .ok (.iload_n 1, 1) := by decide +kernel
theorem dX5_timeOf_26 : decode cX5_timeOf 26 = .ok (.iaload, 1) := by decide +kernel
theorem dX5_timeOf_27 : decode cX5_timeOf 27 = .ok (.aload_n 0, 1) := by decide +kernel
theorem dX5_timeOf_28 : decode cX5_timeOf 28 = .ok (.getfield 26, 3) := by decide +kernel
theorem dX5_timeOf_31 : decode cX5_timeOf 31 = .ok (.iload 4, 2) := by decide +kernel
theorem dX5_timeOf_33 : decode cX5_timeOf 33 = .ok (.aaload, 1) := by decide +kernel
theorem dX5_timeOf_34 : decode cX5_timeOf 34 = .ok (.getfield 71, 3) := by decide +kernel
theorem dX5_timeOf_37 : decode cX5_timeOf 37 = .ok (.iconst 5, 1) := by decide +kernel
theorem dX5_timeOf_38 : decode cX5_timeOf 38 = .ok (.iaload, 1) := by decide +kernel
theorem dX5_timeOf_39 : decode cX5_timeOf 39 = .ok (.imul, 1) := by decide +kernel
theorem dX5_timeOf_40 : decode cX5_timeOf 40 = .ok (.i2l, 1) := by decide +kernel
theorem dX5_timeOf_41 : decode cX5_timeOf 41 = .ok (.ladd, 1) := by decide +kernel
theorem dX5_timeOf_42 : decode cX5_timeOf 42 = .ok (.lstore_n 2, 1) := by decide +kernel
theorem dX5_timeOf_43 : decode cX5_timeOf 43 = .ok (.aload_n 0, 1) := by decide +kernel
theorem dX5_timeOf_44 : decode cX5_timeOf 44 = .ok (.getfield 49, 3) := by decide +kernel
theorem dX5_timeOf_47 : decode cX5_timeOf 47 = .ok (.iload 4, 2) := by decide +kernel
theorem dX5_timeOf_49 : decode cX5_timeOf 49 = .ok (.iload_n 1, 1) := by decide +kernel
theorem dX5_timeOf_50 : decode cX5_timeOf 50 = .ok (.invokevirtual 124, 3) := by decide +kernel
theorem dX5_timeOf_53 : decode cX5_timeOf 53 = .ok (.ifCond .eq 20, 3) := by decide +kernel
theorem dX5_timeOf_56 : decode cX5_timeOf 56 = .ok (.lload_n 2, 1) := by decide +kernel
theorem dX5_timeOf_57 : decode cX5_timeOf 57 = .ok (.aload_n 0, 1) := by decide +kernel
theorem dX5_timeOf_58 : decode cX5_timeOf 58 = .ok (.getfield 26, 3) := by decide +kernel
theorem dX5_timeOf_61 : decode cX5_timeOf 61 = .ok (.iload 4, 2) := by decide +kernel
theorem dX5_timeOf_63 : decode cX5_timeOf 63 = .ok (.aaload, 1) := by decide +kernel
theorem dX5_timeOf_64 : decode cX5_timeOf 64 = .ok (.getfield 71, 3) := by decide +kernel
theorem dX5_timeOf_67 : decode cX5_timeOf 67 = .ok (.bipush 6, 2) := by decide +kernel
theorem dX5_timeOf_69 : decode cX5_timeOf 69 = .ok (.iaload, 1) := by decide +kernel
theorem dX5_timeOf_70 : decode cX5_timeOf 70 = .ok (.i2l, 1) := by decide +kernel
theorem dX5_timeOf_71 : decode cX5_timeOf 71 = .ok (.ladd, 1) := by decide +kernel
theorem dX5_timeOf_72 : decode cX5_timeOf 72 = .ok (.lstore_n 2, 1) := by decide +kernel
theorem dX5_timeOf_73 : decode cX5_timeOf 73 = .ok (.iinc 4 1, 3) := by decide +kernel
theorem dX5_timeOf_76 : decode cX5_timeOf 76 = .ok (.goto (-71), 3) := by decide +kernel
theorem dX5_timeOf_79 : decode cX5_timeOf 79 = .ok (.lload_n 2, 1) := by decide +kernel
theorem dX5_timeOf_80 : decode cX5_timeOf 80 = .ok (.lreturn, 1) := by decide +kernel
set_option maxRecDepth 20000 in
theorem ggX5_overOf_X5_timeOf : GoodIn wsX5_overOf wsX5_timeOf := goodIn_r _ [10, 11, 12, 13, 14, 15, 16, 17, 18, 19, 20, 21, 22, 23, 24, 25, 26, 27, 28, 29, 30, 31, 32, 33, 34, 35, 36] (by decide +kernel) (by decide +kernel)
set_option maxRecDepth 20000 in
theorem gX5_overOf_X5_timeOf : GoodIn wsX5_overOf (wsV RX5 130 RX5 yX5_timeOf wsX5_timeOf) := goodIn_app (goodIn_of _ (by decide +kernel)) ggX5_overOf_X5_timeOf
theorem dX5_overOf_0 : decode cX5_overOf 0 = .ok (.lconst 0, 1) := by decide +kernel
theorem dX5_overOf_1 : decode cX5_overOf 1 = .ok (.aload_n 0, 1) := by decide +kernel
theorem dX5_overOf_2 : decode cX5_overOf 2 = .ok (.iload_n 1, 1) := by decide +kernel
theorem dX5_overOf_3 : decode cX5_overOf 3 = .ok (.invokevirtual 130, 3) := by decide +kernel
theorem dX5_overOf_6 : decode cX5_overOf 6 = .ok (.aload_n 0, 1) := by decide +kernel
theorem dX5_overOf_7 : decode cX5_overOf 7 = .ok (.getfield 36, 3) := by decide +kernel
theorem dX5_overOf_10 : decode cX5_overOf 10 = .ok (.iload_n 1, 1) := by decide +kernel
theorem dX5_overOf_11 : decode cX5_overOf 11 = .ok (.iaload, 1) := by decide +kernel
theorem dX5_overOf_12 : decode cX5_overOf 12 = .ok (.i2l, 1) := by decide +kernel
theorem dX5_overOf_13 : decode cX5_overOf 13 = .ok (.lsub, 1) := by decide +kernel
theorem dX5_overOf_14 : decode cX5_overOf 14 = .ok (.invokestatic 184, 3) := by decide +kernel
theorem dX5_overOf_17 : decode cX5_overOf 17 = .ok (.lreturn, 1) := by decide +kernel
set_option maxRecDepth 20000 in
theorem ggX5_priceOf_X5_setUpPrices : GoodIn wsX5_priceOf wsX5_setUpPrices := goodIn_r _ [5, 6, 7, 8, 9, 10, 11, 12, 13, 14, 15, 16, 17, 18, 19, 20, 21, 22, 96, 97, 98, 99, 100, 101, 102, 103, 104, 105, 106, 107, 108, 109, 110] (by decide +kernel) (by decide +kernel)
set_option maxRecDepth 20000 in
theorem gX5_priceOf_X5_setUpPrices : GoodIn wsX5_priceOf (wsV RX5 187 RX5 yX5_setUpPrices wsX5_setUpPrices) := goodIn_app (goodIn_of _ (by decide +kernel)) ggX5_priceOf_X5_setUpPrices
set_option maxRecDepth 20000 in
theorem ggX5_priceOf_X5_holdPrices : GoodIn wsX5_priceOf wsX5_holdPrices := goodIn_r _ [26, 8, 9, 7, 10, 27, 28, 29, 30, 31, 32, 33, 34, 35, 4, 36, 37, 38, 39, 40, 41, 42, 43, 44, 45, 46, 47, 48, 49, 50, 51, 52, 53, 54, 55, 56, 57, 58, 59, 60, 61, 62, 63, 64, 65, 66, 67, 68, 69, 70, 71, 72, 73, 74, 75, 76, 77, 78, 96, 97, 98, 99, 100, 101, 102, 103, 104, 105, 106, 107, 108, 111, 112, 113] (by decide +kernel) (by decide +kernel)
set_option maxRecDepth 20000 in
theorem gX5_priceOf_X5_holdPrices : GoodIn wsX5_priceOf (wsV RX5 191 RX5 yX5_holdPrices wsX5_holdPrices) := goodIn_app (goodIn_of _ (by decide +kernel)) ggX5_priceOf_X5_holdPrices
set_option maxRecDepth 20000 in
theorem ggX5_priceOf_X5_overPrices : GoodIn wsX5_priceOf wsX5_overPrices := goodIn_r _ [82, 6, 7, 8, 9, 83, 11, 12, 13, 14, 15, 16, 17, 18, 84, 85, 86, 4, 87, 88, 89, 90, 31, 91, 92, 93, 94, 95, 57, 10, 19, 20, 21, 22, 96, 97, 98, 99, 100, 101, 102, 103, 109, 110, 104, 105, 106, 107, 108] (by decide +kernel) (by decide +kernel)
set_option maxRecDepth 20000 in
theorem gX5_priceOf_X5_overPrices : GoodIn wsX5_priceOf (wsV RX5 194 RX5 yX5_overPrices wsX5_overPrices) := goodIn_app (goodIn_of _ (by decide +kernel)) ggX5_priceOf_X5_overPrices
theorem dX5_priceOf_0 : decode cX5_priceOf 0 = .ok (.iload_n 1, 1) := by decide +kernel
theorem dX5_priceOf_1 : decode cX5_priceOf 1 = .ok (.tableswitch 42 0 2 #[27, 32, 37], 27) := by decide +kernel
theorem dX5_priceOf_28 : decode cX5_priceOf 28 = .ok (.aload_n 0, 1) := by decide +kernel
theorem dX5_priceOf_29 : decode cX5_priceOf 29 = .ok (.invokevirtual 187, 3) := by decide +kernel
theorem dX5_priceOf_32 : decode cX5_priceOf 32 = .ok (.lreturn, 1) := by decide +kernel
theorem dX5_priceOf_33 : decode cX5_priceOf 33 = .ok (.aload_n 0, 1) := by decide +kernel
theorem dX5_priceOf_34 : decode cX5_priceOf 34 = .ok (.invokevirtual 191, 3) := by decide +kernel
theorem dX5_priceOf_37 : decode cX5_priceOf 37 = .ok (.lreturn, 1) := by decide +kernel
theorem dX5_priceOf_38 : decode cX5_priceOf 38 = .ok (.aload_n 0, 1) := by decide +kernel
theorem dX5_priceOf_39 : decode cX5_priceOf 39 = .ok (.invokevirtual 194, 3) := by decide +kernel
theorem dX5_priceOf_42 : decode cX5_priceOf 42 = .ok (.lreturn, 1) := by decide +kernel
theorem dX5_priceOf_43 : decode cX5_priceOf 43 = .ok (.aload_n 0, 1) := by decide +kernel
theorem dX5_priceOf_44 : decode cX5_priceOf 44 = .ok (.invokevirtual 187, 3) := by decide +kernel
theorem dX5_priceOf_47 : decode cX5_priceOf 47 = .ok (.aload_n 0, 1) := by decide +kernel
theorem dX5_priceOf_48 : decode cX5_priceOf 48 = .ok (.invokevirtual 191, 3) := by decide +kernel
theorem dX5_priceOf_51 : decode cX5_priceOf 51 = .ok (.ladd, 1) := by decide +kernel
theorem dX5_priceOf_52 : decode cX5_priceOf 52 = .ok (.aload_n 0, 1) := by decide +kernel
theorem dX5_priceOf_53 : decode cX5_priceOf 53 = .ok (.invokevirtual 194, 3) := by decide +kernel
theorem dX5_priceOf_56 : decode cX5_priceOf 56 = .ok (.ladd, 1) := by decide +kernel
theorem dX5_priceOf_57 : decode cX5_priceOf 57 = .ok (.lreturn, 1) := by decide +kernel
set_option maxRecDepth 20000 in
theorem ggX5_setUpPrices_X3_follow : GoodIn wsX5_setUpPrices wsX3_follow := goodIn_r _ [10, 11, 12, 13, 31, 32, 26, 27, 28, 29, 30] (by decide +kernel) (by decide +kernel)
set_option maxRecDepth 20000 in
theorem gX5_setUpPrices_X3_follow : GoodIn wsX5_setUpPrices (wsV RX5 120 RX3 yX3_follow wsX3_follow) := goodIn_app (goodIn_of _ (by decide +kernel)) ggX5_setUpPrices_X3_follow
set_option maxRecDepth 20000 in
theorem ggX5_setUpPrices_X3_setsUp : GoodIn wsX5_setUpPrices wsX3_setsUp := goodIn_r _ [17, 12, 31, 32] (by decide +kernel) (by decide +kernel)
set_option maxRecDepth 20000 in
theorem gX5_setUpPrices_X3_setsUp : GoodIn wsX5_setUpPrices (wsV RX5 124 RX3 yX3_setsUp wsX3_setsUp) := goodIn_app (goodIn_of _ (by decide +kernel)) ggX5_setUpPrices_X3_setsUp
theorem dX5_setUpPrices_0 : decode cX5_setUpPrices 0 = .ok (.aload_n 0, 1) := by decide +kernel
theorem dX5_setUpPrices_1 : decode cX5_setUpPrices 1 = .ok (.getfield 49, 3) := by decide +kernel
theorem dX5_setUpPrices_4 : decode cX5_setUpPrices 4 = .ok (.aload_n 0, 1) := by decide +kernel
theorem dX5_setUpPrices_5 : decode cX5_setUpPrices 5 = .ok (.getfield 26, 3) := by decide +kernel
theorem dX5_setUpPrices_8 : decode cX5_setUpPrices 8 = .ok (.aload_n 0, 1) := by decide +kernel
theorem dX5_setUpPrices_9 : decode cX5_setUpPrices 9 = .ok (.getfield 33, 3) := by decide +kernel
theorem dX5_setUpPrices_12 : decode cX5_setUpPrices 12 = .ok (.invokevirtual 120, 3) := by decide +kernel
theorem dX5_setUpPrices_15 : decode cX5_setUpPrices 15 = .ok (.lconst 0, 1) := by decide +kernel
theorem dX5_setUpPrices_16 : decode cX5_setUpPrices 16 = .ok (.lstore_n 1, 1) := by decide +kernel
theorem dX5_setUpPrices_17 : decode cX5_setUpPrices 17 = .ok (.iconst 1, 1) := by decide +kernel
theorem dX5_setUpPrices_18 : decode cX5_setUpPrices 18 = .ok (.istore_n 3, 1) := by decide +kernel
theorem dX5_setUpPrices_19 : decode cX5_setUpPrices 19 = .ok (.iload_n 3, 1) := by decide +kernel
theorem dX5_setUpPrices_20 : decode cX5_setUpPrices 20 = .ok (.aload_n 0, 1) := by decide +kernel
theorem dX5_setUpPrices_21 : decode cX5_setUpPrices 21 = .ok (.getfield 20, 3) := by decide +kernel
theorem dX5_setUpPrices_24 : decode cX5_setUpPrices 24 = .ok (.if_icmp .gt 56, 3) := by decide +kernel
theorem dX5_setUpPrices_27 : decode cX5_setUpPrices 27 = .ok (.iconst 0, 1) := by decide +kernel
theorem dX5_setUpPrices_28 : decode cX5_setUpPrices 28 = .ok (.istore 4, 2) := by decide +kernel
theorem dX5_setUpPrices_30 : decode cX5_setUpPrices 30 = .ok (.iload 4, 2) := by decide +kernel
theorem dX5_setUpPrices_32 : decode cX5_setUpPrices 32 = .ok (.aload_n 0, 1) := by decide +kernel
theorem dX5_setUpPrices_33 : decode cX5_setUpPrices 33 = .ok (.getfield 33, 3) := by decide +kernel
theorem dX5_setUpPrices_36 : decode cX5_setUpPrices 36 = .ok (.if_icmp .ge 38, 3) := by decide +kernel
theorem dX5_setUpPrices_39 : decode cX5_setUpPrices 39 = .ok (.aload_n 0, 1) := by decide +kernel
theorem dX5_setUpPrices_40 : decode cX5_setUpPrices 40 = .ok (.getfield 49, 3) := by decide +kernel
theorem dX5_setUpPrices_43 : decode cX5_setUpPrices 43 = .ok (.iload 4, 2) := by decide +kernel
theorem dX5_setUpPrices_45 : decode cX5_setUpPrices 45 = .ok (.iload_n 3, 1) := by decide +kernel
theorem dX5_setUpPrices_46 : decode cX5_setUpPrices 46 = .ok (.invokevirtual 124, 3) := by decide +kernel
theorem dX5_setUpPrices_49 : decode cX5_setUpPrices 49 = .ok (.ifCond .eq 19, 3) := by decide +kernel
theorem dX5_setUpPrices_52 : decode cX5_setUpPrices 52 = .ok (.lload_n 1, 1) := by decide +kernel
theorem dX5_setUpPrices_53 : decode cX5_setUpPrices 53 = .ok (.aload_n 0, 1) := by decide +kernel
theorem dX5_setUpPrices_54 : decode cX5_setUpPrices 54 = .ok (.getfield 26, 3) := by decide +kernel
theorem dX5_setUpPrices_57 : decode cX5_setUpPrices 57 = .ok (.iload 4, 2) := by decide +kernel
theorem dX5_setUpPrices_59 : decode cX5_setUpPrices 59 = .ok (.aaload, 1) := by decide +kernel
theorem dX5_setUpPrices_60 : decode cX5_setUpPrices 60 = .ok (.getfield 71, 3) := by decide +kernel
theorem dX5_setUpPrices_63 : decode cX5_setUpPrices 63 = .ok (.iconst 0, 1) := by decide +kernel
theorem dX5_setUpPrices_64 : decode cX5_setUpPrices 64 = .ok (.iaload, 1) := by decide +kernel
theorem dX5_setUpPrices_65 : decode cX5_setUpPrices 65 = .ok (.i2l, 1) := by decide +kernel
theorem dX5_setUpPrices_66 : decode cX5_setUpPrices 66 = .ok (.ladd, 1) := by decide +kernel
theorem dX5_setUpPrices_67 : decode cX5_setUpPrices 67 = .ok (.lstore_n 1, 1) := by decide +kernel
theorem dX5_setUpPrices_68 : decode cX5_setUpPrices 68 = .ok (.iinc 4 1, 3) := by decide +kernel
theorem dX5_setUpPrices_71 : decode cX5_setUpPrices 71 = .ok (.goto (-41), 3) := by decide +kernel
theorem dX5_setUpPrices_74 : decode cX5_setUpPrices 74 = .ok (.iinc 3 1, 3) := by decide +kernel
theorem dX5_setUpPrices_77 : decode cX5_setUpPrices 77 = .ok (.goto (-58), 3) := by decide +kernel
theorem dX5_setUpPrices_80 : decode cX5_setUpPrices 80 = .ok (.lload_n 1, 1) := by decide +kernel
theorem dX5_setUpPrices_81 : decode cX5_setUpPrices 81 = .ok (.lreturn, 1) := by decide +kernel
set_option maxRecDepth 20000 in
theorem ggX5_holdPrices_X5_runItem : GoodIn wsX5_holdPrices wsX5_runItem := goodIn_r _ [15, 3, 5, 4, 2, 16, 17, 18, 19, 20, 21, 22, 23, 24, 25, 26, 27, 28, 29, 30, 31, 32, 14, 33, 34, 1, 35, 36, 37, 38, 39, 40, 41, 42, 43, 44, 45, 46, 8, 9, 10, 47, 48, 49, 50, 51, 52, 53, 54, 55, 56, 57, 58, 59, 60, 61, 62, 63, 64, 65, 66, 67, 68, 69, 70, 71, 72, 73] (by decide +kernel) (by decide +kernel)
set_option maxRecDepth 20000 in
theorem gX5_holdPrices_X5_runItem : GoodIn wsX5_holdPrices (wsV RX5 105 RX5 yX5_runItem wsX5_runItem) := goodIn_app (goodIn_of _ (by decide +kernel)) ggX5_holdPrices_X5_runItem
theorem dX5_holdPrices_0 : decode cX5_holdPrices 0 = .ok (.lconst 0, 1) := by decide +kernel
theorem dX5_holdPrices_1 : decode cX5_holdPrices 1 = .ok (.lstore_n 1, 1) := by decide +kernel
theorem dX5_holdPrices_2 : decode cX5_holdPrices 2 = .ok (.iconst 0, 1) := by decide +kernel
theorem dX5_holdPrices_3 : decode cX5_holdPrices 3 = .ok (.istore_n 3, 1) := by decide +kernel
theorem dX5_holdPrices_4 : decode cX5_holdPrices 4 = .ok (.iload_n 3, 1) := by decide +kernel
theorem dX5_holdPrices_5 : decode cX5_holdPrices 5 = .ok (.aload_n 0, 1) := by decide +kernel
theorem dX5_holdPrices_6 : decode cX5_holdPrices 6 = .ok (.getfield 33, 3) := by decide +kernel
theorem dX5_holdPrices_9 : decode cX5_holdPrices 9 = .ok (.if_icmp .ge 68, 3) := by decide +kernel
theorem dX5_holdPrices_12 : decode cX5_holdPrices 12 = .ok (.aload_n 0, 1) := by decide +kernel
theorem dX5_holdPrices_13 : decode cX5_holdPrices 13 = .ok (.iload_n 3, 1) := by decide +kernel
theorem dX5_holdPrices_14 : decode cX5_holdPrices 14 = .ok (.invokevirtual 105, 3) := by decide +kernel
theorem dX5_holdPrices_17 : decode cX5_holdPrices 17 = .ok (.iconst 1, 1) := by decide +kernel
theorem dX5_holdPrices_18 : decode cX5_holdPrices 18 = .ok (.istore 4, 2) := by decide +kernel
theorem dX5_holdPrices_20 : decode cX5_holdPrices 20 = .ok (.iload 4, 2) := by decide +kernel
theorem dX5_holdPrices_22 : decode cX5_holdPrices 22 = .ok (.aload_n 0, 1) := by decide +kernel
theorem dX5_holdPrices_23 : decode cX5_holdPrices 23 = .ok (.getfield 20, 3) := by decide +kernel
theorem dX5_holdPrices_26 : decode cX5_holdPrices 26 = .ok (.if_icmp .gt 45, 3) := by decide +kernel
theorem dX5_holdPrices_29 : decode cX5_holdPrices 29 = .ok (.lload_n 1, 1) := by decide +kernel
theorem dX5_holdPrices_30 : decode cX5_holdPrices 30 = .ok (.aload_n 0, 1) := by decide +kernel
theorem dX5_holdPrices_31 : decode cX5_holdPrices 31 = .ok (.getfield 26, 3) := by decide +kernel
theorem dX5_holdPrices_34 : decode cX5_holdPrices 34 = .ok (.iload_n 3, 1) := by decide +kernel
theorem dX5_holdPrices_35 : decode cX5_holdPrices 35 = .ok (.aaload, 1) := by decide +kernel
theorem dX5_holdPrices_36 : decode cX5_holdPrices 36 = .ok (.getfield 71, 3) := by decide +kernel
theorem dX5_holdPrices_39 : decode cX5_holdPrices 39 = .ok (.iconst 1, 1) := by decide +kernel
theorem dX5_holdPrices_40 : decode cX5_holdPrices 40 = .ok (.iaload, 1) := by decide +kernel
theorem dX5_holdPrices_41 : decode cX5_holdPrices 41 = .ok (.i2l, 1) := by decide +kernel
theorem dX5_holdPrices_42 : decode cX5_holdPrices 42 = .ok (.iconst 0, 1) := by decide +kernel
theorem dX5_holdPrices_43 : decode cX5_holdPrices 43 = .ok (.aload_n 0, 1) := by decide +kernel
theorem dX5_holdPrices_44 : decode cX5_holdPrices 44 = .ok (.getfield 26, 3) := by decide +kernel
theorem dX5_holdPrices_47 : decode cX5_holdPrices 47 = .ok (.iload_n 3, 1) := by decide +kernel
theorem dX5_holdPrices_48 : decode cX5_holdPrices 48 = .ok (.aaload, 1) := by decide +kernel
theorem dX5_holdPrices_49 : decode cX5_holdPrices 49 = .ok (.getfield 108, 3) := by decide +kernel
theorem dX5_holdPrices_52 : decode cX5_holdPrices 52 = .ok (.getfield 112, 3) := by decide +kernel
theorem dX5_holdPrices_55 : decode cX5_holdPrices 55 = .ok (.iload 4, 2) := by decide +kernel
theorem dX5_holdPrices_57 : decode cX5_holdPrices 57 = .ok (.iaload, 1) := by decide +kernel
theorem dX5_holdPrices_58 : decode cX5_holdPrices 58 = .ok (.invokestatic 17, 3) := by decide +kernel
theorem dX5_holdPrices_61 : decode cX5_holdPrices 61 = .ok (.i2l, 1) := by decide +kernel
theorem dX5_holdPrices_62 : decode cX5_holdPrices 62 = .ok (.lmul, 1) := by decide +kernel
theorem dX5_holdPrices_63 : decode cX5_holdPrices 63 = .ok (.ladd, 1) := by decide +kernel
theorem dX5_holdPrices_64 : decode cX5_holdPrices 64 = .ok (.lstore_n 1, 1) := by decide +kernel
theorem dX5_holdPrices_65 : decode cX5_holdPrices 65 = .ok (.iinc 4 1, 3) := by decide +kernel
theorem dX5_holdPrices_68 : decode cX5_holdPrices 68 = .ok (.goto (-48), 3) := by decide +kernel
theorem dX5_holdPrices_71 : decode cX5_holdPrices 71 = .ok (.iinc 3 1, 3) := by decide +kernel
theorem dX5_holdPrices_74 : decode cX5_holdPrices 74 = .ok (.goto (-70), 3) := by decide +kernel
theorem dX5_holdPrices_77 : decode cX5_holdPrices 77 = .ok (.lload_n 1, 1) := by decide +kernel
theorem dX5_holdPrices_78 : decode cX5_holdPrices 78 = .ok (.lreturn, 1) := by decide +kernel
set_option maxRecDepth 20000 in
theorem ggX5_overPrices_X3_follow : GoodIn wsX5_overPrices wsX3_follow := goodIn_r _ [10, 11, 12, 13, 42, 43, 44, 45, 46, 47, 48] (by decide +kernel) (by decide +kernel)
set_option maxRecDepth 20000 in
theorem gX5_overPrices_X3_follow : GoodIn wsX5_overPrices (wsV RX5 120 RX3 yX3_follow wsX3_follow) := goodIn_app (goodIn_of _ (by decide +kernel)) ggX5_overPrices_X3_follow
set_option maxRecDepth 20000 in
theorem ggX5_overPrices_X5_overOf : GoodIn wsX5_overPrices wsX5_overOf := goodIn_r _ [18, 19, 20, 21, 22, 23, 24, 25, 26, 17, 27, 3, 2, 28, 29, 1, 30, 31, 32, 9, 33, 12, 34, 35, 36, 37, 38, 39, 40, 41, 44, 45, 46, 47, 48, 42, 43] (by decide +kernel) (by decide +kernel)
set_option maxRecDepth 20000 in
theorem gX5_overPrices_X5_overOf : GoodIn wsX5_overPrices (wsV RX5 197 RX5 yX5_overOf wsX5_overOf) := goodIn_app (goodIn_of _ (by decide +kernel)) ggX5_overPrices_X5_overOf
theorem dX5_overPrices_0 : decode cX5_overPrices 0 = .ok (.aload_n 0, 1) := by decide +kernel
theorem dX5_overPrices_1 : decode cX5_overPrices 1 = .ok (.getfield 49, 3) := by decide +kernel
theorem dX5_overPrices_4 : decode cX5_overPrices 4 = .ok (.aload_n 0, 1) := by decide +kernel
theorem dX5_overPrices_5 : decode cX5_overPrices 5 = .ok (.getfield 26, 3) := by decide +kernel
theorem dX5_overPrices_8 : decode cX5_overPrices 8 = .ok (.aload_n 0, 1) := by decide +kernel
theorem dX5_overPrices_9 : decode cX5_overPrices 9 = .ok (.getfield 33, 3) := by decide +kernel
theorem dX5_overPrices_12 : decode cX5_overPrices 12 = .ok (.invokevirtual 120, 3) := by decide +kernel
theorem dX5_overPrices_15 : decode cX5_overPrices 15 = .ok (.lconst 0, 1) := by decide +kernel
theorem dX5_overPrices_16 : decode cX5_overPrices 16 = .ok (.lstore_n 1, 1) := by decide +kernel
theorem dX5_overPrices_17 : decode cX5_overPrices 17 = .ok (.iconst 1, 1) := by decide +kernel
theorem dX5_overPrices_18 : decode cX5_overPrices 18 = .ok (.istore_n 3, 1) := by decide +kernel
theorem dX5_overPrices_19 : decode cX5_overPrices 19 = .ok (.iload_n 3, 1) := by decide +kernel
theorem dX5_overPrices_20 : decode cX5_overPrices 20 = .ok (.aload_n 0, 1) := by decide +kernel
theorem dX5_overPrices_21 : decode cX5_overPrices 21 = .ok (.getfield 20, 3) := by decide +kernel
theorem dX5_overPrices_24 : decode cX5_overPrices 24 = .ok (.if_icmp .gt 25, 3) := by decide +kernel
theorem dX5_overPrices_27 : decode cX5_overPrices 27 = .ok (.lload_n 1, 1) := by decide +kernel
theorem dX5_overPrices_28 : decode cX5_overPrices 28 = .ok (.aload_n 0, 1) := by decide +kernel
theorem dX5_overPrices_29 : decode cX5_overPrices 29 = .ok (.getfield 43, 3) := by decide +kernel
theorem dX5_overPrices_32 : decode cX5_overPrices 32 = .ok (.iconst 0, 1) := by decide +kernel
theorem dX5_overPrices_33 : decode cX5_overPrices 33 = .ok (.iaload, 1) := by decide +kernel
theorem dX5_overPrices_34 : decode cX5_overPrices 34 = .ok (.i2l, 1) := by decide +kernel
theorem dX5_overPrices_35 : decode cX5_overPrices 35 = .ok (.aload_n 0, 1) := by decide +kernel
theorem dX5_overPrices_36 : decode cX5_overPrices 36 = .ok (.iload_n 3, 1) := by decide +kernel
theorem dX5_overPrices_37 : decode cX5_overPrices 37 = .ok (.invokevirtual 197, 3) := by decide +kernel
theorem dX5_overPrices_40 : decode cX5_overPrices 40 = .ok (.lmul, 1) := by decide +kernel
theorem dX5_overPrices_41 : decode cX5_overPrices 41 = .ok (.ladd, 1) := by decide +kernel
theorem dX5_overPrices_42 : decode cX5_overPrices 42 = .ok (.lstore_n 1, 1) := by decide +kernel
theorem dX5_overPrices_43 : decode cX5_overPrices 43 = .ok (.iinc 3 1, 3) := by decide +kernel
theorem dX5_overPrices_46 : decode cX5_overPrices 46 = .ok (.goto (-27), 3) := by decide +kernel
theorem dX5_overPrices_49 : decode cX5_overPrices 49 = .ok (.lload_n 1, 1) := by decide +kernel
theorem dX5_overPrices_50 : decode cX5_overPrices 50 = .ok (.lreturn, 1) := by decide +kernel
set_option maxRecDepth 20000 in
theorem ggX5_findFaults_X5_runItem : GoodIn wsX5_findFaults wsX5_runItem := goodIn_r _ [11, 3, 12, 13, 6, 14, 15, 16, 17, 18, 19, 20, 21, 22, 23, 24, 25, 26, 27, 28, 29, 30, 10, 31, 32, 1, 33, 34, 35, 36, 37, 38, 39, 40, 41, 42, 43, 44, 45, 46, 47, 48, 49, 50, 51, 52, 53, 54, 55, 56, 57, 58, 104, 105, 106, 107, 108, 109, 110, 111, 114, 115, 116, 117, 118, 119, 120, 121] (by decide +kernel) (by decide +kernel)
set_option maxRecDepth 20000 in
theorem gX5_findFaults_X5_runItem : GoodIn wsX5_findFaults (wsV RX5 105 RX5 yX5_runItem wsX5_runItem) := goodIn_app (goodIn_of _ (by decide +kernel)) ggX5_findFaults_X5_runItem
set_option maxRecDepth 20000 in
theorem ggX5_findFaults_X3_follow : GoodIn wsX5_findFaults wsX3_follow := goodIn_r _ [63, 64, 65, 66, 122, 123, 114, 115, 116, 117, 118] (by decide +kernel) (by decide +kernel)
set_option maxRecDepth 20000 in
theorem gX5_findFaults_X3_follow : GoodIn wsX5_findFaults (wsV RX5 120 RX3 yX3_follow wsX3_follow) := goodIn_app (goodIn_of _ (by decide +kernel)) ggX5_findFaults_X3_follow
set_option maxRecDepth 20000 in
theorem ggX5_findFaults_X5_findOwing : GoodIn wsX5_findFaults wsX5_findOwing := goodIn_r _ [70, 1, 3, 12, 4, 71, 41, 42, 17, 43, 19, 44, 45, 46, 47, 72, 73, 74, 75, 76, 77, 78, 104, 105, 106, 107, 108, 109, 110, 111, 114, 115, 116, 117, 118, 119, 120, 121, 112, 113] (by decide +kernel) (by decide +kernel)
set_option maxRecDepth 20000 in
theorem gX5_findFaults_X5_findOwing : GoodIn wsX5_findFaults (wsV RX5 200 RX5 yX5_findOwing wsX5_findOwing) := goodIn_app (goodIn_of _ (by decide +kernel)) ggX5_findFaults_X5_findOwing
set_option maxRecDepth 20000 in
theorem ggX5_findFaults_X5_findBelowLeast : GoodIn wsX5_findFaults wsX5_findBelowLeast := goodIn_r _ [82, 1, 3, 34, 13, 4, 72, 73, 74, 75, 76, 77, 78, 104, 105, 106, 107, 108, 109, 110, 111, 114, 115, 116, 117, 118, 112, 113] (by decide +kernel) (by decide +kernel)
set_option maxRecDepth 20000 in
theorem gX5_findFaults_X5_findBelowLeast : GoodIn wsX5_findFaults (wsV RX5 203 RX5 yX5_findBelowLeast wsX5_findBelowLeast) := goodIn_app (goodIn_of _ (by decide +kernel)) ggX5_findFaults_X5_findBelowLeast
set_option maxRecDepth 20000 in
theorem ggX5_findFaults_X5_findAboveMostOver : GoodIn wsX5_findFaults wsX5_findAboveMostOver := goodIn_r _ [86, 87, 4, 88, 89, 90, 10, 91, 92, 93, 94, 46, 95, 96, 97, 98, 99, 1, 3, 34, 13, 2, 100, 101, 102, 62, 103, 65, 72, 73, 74, 75, 76, 77, 78, 104, 105, 106, 107, 108, 109, 110, 111, 114, 115, 116, 117, 118, 122, 123, 112, 113] (by decide +kernel) (by decide +kernel)
set_option maxRecDepth 20000 in
theorem gX5_findFaults_X5_findAboveMostOver : GoodIn wsX5_findFaults (wsV RX5 206 RX5 yX5_findAboveMostOver wsX5_findAboveMostOver) := goodIn_app (goodIn_of _ (by decide +kernel)) ggX5_findFaults_X5_findAboveMostOver
theorem dX5_findFaults_0 : decode cX5_findFaults 0 = .ok (.iconst 0, 1) := by decide +kernel
theorem dX5_findFaults_1 : decode cX5_findFaults 1 = .ok (.istore_n 1, 1) := by decide +kernel
theorem dX5_findFaults_2 : decode cX5_findFaults 2 = .ok (.iload_n 1, 1) := by decide +kernel
theorem dX5_findFaults_3 : decode cX5_findFaults 3 = .ok (.aload_n 0, 1) := by decide +kernel
theorem dX5_findFaults_4 : decode cX5_findFaults 4 = .ok (.getfield 33, 3) := by decide +kernel
theorem dX5_findFaults_7 : decode cX5_findFaults 7 = .ok (.if_icmp .ge 14, 3) := by decide +kernel
theorem dX5_findFaults_10 : decode cX5_findFaults 10 = .ok (.aload_n 0, 1) := by decide +kernel
theorem dX5_findFaults_11 : decode cX5_findFaults 11 = .ok (.iload_n 1, 1) := by decide +kernel
theorem dX5_findFaults_12 : decode cX5_findFaults 12 = .ok (.invokevirtual 105, 3) := by decide +kernel
theorem dX5_findFaults_15 : decode cX5_findFaults 15 = .ok (.iinc 1 1, 3) := by decide +kernel
theorem dX5_findFaults_18 : decode cX5_findFaults 18 = .ok (.goto (-16), 3) := by decide +kernel
theorem dX5_findFaults_21 : decode cX5_findFaults 21 = .ok (.aload_n 0, 1) := by decide +kernel
theorem dX5_findFaults_22 : decode cX5_findFaults 22 = .ok (.getfield 49, 3) := by decide +kernel
theorem dX5_findFaults_25 : decode cX5_findFaults 25 = .ok (.aload_n 0, 1) := by decide +kernel
theorem dX5_findFaults_26 : decode cX5_findFaults 26 = .ok (.getfield 26, 3) := by decide +kernel
theorem dX5_findFaults_29 : decode cX5_findFaults 29 = .ok (.aload_n 0, 1) := by decide +kernel
theorem dX5_findFaults_30 : decode cX5_findFaults 30 = .ok (.getfield 33, 3) := by decide +kernel
theorem dX5_findFaults_33 : decode cX5_findFaults 33 = .ok (.invokevirtual 120, 3) := by decide +kernel
theorem dX5_findFaults_36 : decode cX5_findFaults 36 = .ok (.aload_n 0, 1) := by decide +kernel
theorem dX5_findFaults_37 : decode cX5_findFaults 37 = .ok (.getfield 56, 3) := by decide +kernel
theorem dX5_findFaults_40 : decode cX5_findFaults 40 = .ok (.iconst 0, 1) := by decide +kernel
theorem dX5_findFaults_41 : decode cX5_findFaults 41 = .ok (.putfield 143, 3) := by decide +kernel
theorem dX5_findFaults_44 : decode cX5_findFaults 44 = .ok (.iconst 1, 1) := by decide +kernel
theorem dX5_findFaults_45 : decode cX5_findFaults 45 = .ok (.istore_n 1, 1) := by decide +kernel
theorem dX5_findFaults_46 : decode cX5_findFaults 46 = .ok (.iload_n 1, 1) := by decide +kernel
theorem dX5_findFaults_47 : decode cX5_findFaults 47 = .ok (.aload_n 0, 1) := by decide +kernel
theorem dX5_findFaults_48 : decode cX5_findFaults 48 = .ok (.getfield 20, 3) := by decide +kernel
theorem dX5_findFaults_51 : decode cX5_findFaults 51 = .ok (.if_icmp .gt 24, 3) := by decide +kernel
theorem dX5_findFaults_54 : decode cX5_findFaults 54 = .ok (.aload_n 0, 1) := by decide +kernel
theorem dX5_findFaults_55 : decode cX5_findFaults 55 = .ok (.iload_n 1, 1) := by decide +kernel
theorem dX5_findFaults_56 : decode cX5_findFaults 56 = .ok (.invokevirtual 200, 3) := by decide +kernel
theorem dX5_findFaults_59 : decode cX5_findFaults 59 = .ok (.aload_n 0, 1) := by decide +kernel
theorem dX5_findFaults_60 : decode cX5_findFaults 60 = .ok (.iload_n 1, 1) := by decide +kernel
theorem dX5_findFaults_61 : decode cX5_findFaults 61 = .ok (.invokevirtual 203, 3) := by decide +kernel
theorem dX5_findFaults_64 : decode cX5_findFaults 64 = .ok (.aload_n 0, 1) := by decide +kernel
theorem dX5_findFaults_65 : decode cX5_findFaults 65 = .ok (.iload_n 1, 1) := by decide +kernel
theorem dX5_findFaults_66 : decode cX5_findFaults 66 = .ok (.invokevirtual 206, 3) := by decide +kernel
theorem dX5_findFaults_69 : decode cX5_findFaults 69 = .ok (.iinc 1 1, 3) := by decide +kernel
theorem dX5_findFaults_72 : decode cX5_findFaults 72 = .ok (.goto (-26), 3) := by decide +kernel
theorem dX5_findFaults_75 : decode cX5_findFaults 75 = .ok (.return_, 1) := by decide +kernel
set_option maxRecDepth 20000 in
theorem ggX5_findOwing_X4_owedAt : GoodIn wsX5_findOwing wsX4_owedAt := goodIn_r _ [9, 10, 11, 12, 13, 14, 35, 36, 37] (by decide +kernel) (by decide +kernel)
set_option maxRecDepth 20000 in
theorem gX5_findOwing_X4_owedAt : GoodIn wsX5_findOwing (wsV RX5 209 RX4 yX4_owedAt wsX4_owedAt) := goodIn_app (goodIn_of _ (by decide +kernel)) ggX5_findOwing_X4_owedAt
set_option maxRecDepth 20000 in
theorem ggX5_findOwing_X1_put : GoodIn wsX5_findOwing wsX1_put := goodIn_r _ [19, 20, 21, 38, 39] (by decide +kernel) (by decide +kernel)
set_option maxRecDepth 20000 in
theorem gX5_findOwing_X1_put : GoodIn wsX5_findOwing (wsV RX5 212 RX1 yX1_put wsX1_put) := goodIn_app (goodIn_of _ (by decide +kernel)) ggX5_findOwing_X1_put
theorem dX5_findOwing_0 : decode cX5_findOwing 0 = .ok (.iconst 0, 1) := by decide +kernel
theorem dX5_findOwing_1 : decode cX5_findOwing 1 = .ok (.istore_n 2, 1) := by decide +kernel
theorem dX5_findOwing_2 : decode cX5_findOwing 2 = .ok (.iload_n 2, 1) := by decide +kernel
theorem dX5_findOwing_3 : decode cX5_findOwing 3 = .ok (.aload_n 0, 1) := by decide +kernel
theorem dX5_findOwing_4 : decode cX5_findOwing 4 = .ok (.getfield 33, 3) := by decide +kernel
theorem dX5_findOwing_7 : decode cX5_findOwing 7 = .ok (.if_icmp .ge 38, 3) := by decide +kernel
theorem dX5_findOwing_10 : decode cX5_findOwing 10 = .ok (.aload_n 0, 1) := by decide +kernel
theorem dX5_findOwing_11 : decode cX5_findOwing 11 = .ok (.getfield 26, 3) := by decide +kernel
theorem dX5_findOwing_14 : decode cX5_findOwing 14 = .ok (.iload_n 2, 1) := by decide +kernel
theorem dX5_findOwing_15 : decode cX5_findOwing 15 = .ok (.aaload, 1) := by decide +kernel
theorem dX5_findOwing_16 : decode cX5_findOwing 16 = .ok (.getfield 108, 3) := by decide +kernel
theorem dX5_findOwing_19 : decode cX5_findOwing 19 = .ok (.iload_n 1, 1) := by decide +kernel
theorem dX5_findOwing_20 : decode cX5_findOwing 20 = .ok (.invokevirtual 209, 3) := by decide +kernel
theorem dX5_findOwing_23 : decode cX5_findOwing 23 = .ok (.istore_n 3, 1) := by decide +kernel
theorem dX5_findOwing_24 : decode cX5_findOwing 24 = .ok (.iload_n 3, 1) := by decide +kernel
theorem dX5_findOwing_25 : decode cX5_findOwing 25 = .ok (.ifCond .le 14, 3) := by decide +kernel
theorem dX5_findOwing_28 : decode cX5_findOwing 28 = .ok (.aload_n 0, 1) := by decide +kernel
theorem dX5_findOwing_29 : decode cX5_findOwing 29 = .ok (.getfield 56, 3) := by decide +kernel
theorem dX5_findOwing_32 : decode cX5_findOwing 32 = .ok (.iconst 1, 1) := by decide +kernel
theorem dX5_findOwing_33 : decode cX5_findOwing 33 = .ok (.iload_n 1, 1) := by decide +kernel
theorem dX5_findOwing_34 : decode cX5_findOwing 34 = .ok (.iload_n 2, 1) := by decide +kernel
theorem dX5_findOwing_35 : decode cX5_findOwing 35 = .ok (.iload_n 3, 1) := by decide +kernel
theorem dX5_findOwing_36 : decode cX5_findOwing 36 = .ok (.invokevirtual 212, 3) := by decide +kernel
theorem dX5_findOwing_39 : decode cX5_findOwing 39 = .ok (.iinc 2 1, 3) := by decide +kernel
theorem dX5_findOwing_42 : decode cX5_findOwing 42 = .ok (.goto (-40), 3) := by decide +kernel
theorem dX5_findOwing_45 : decode cX5_findOwing 45 = .ok (.return_, 1) := by decide +kernel
set_option maxRecDepth 20000 in
theorem ggX5_findBelowLeast_X1_put : GoodIn wsX5_findBelowLeast wsX1_put := goodIn_r _ [10, 11, 12, 26, 27] (by decide +kernel) (by decide +kernel)
set_option maxRecDepth 20000 in
theorem gX5_findBelowLeast_X1_put : GoodIn wsX5_findBelowLeast (wsV RX5 212 RX1 yX1_put wsX1_put) := goodIn_app (goodIn_of _ (by decide +kernel)) ggX5_findBelowLeast_X1_put
theorem dX5_findBelowLeast_0 : decode cX5_findBelowLeast 0 = .ok (.iconst 0, 1) := by decide +kernel
theorem dX5_findBelowLeast_1 : decode cX5_findBelowLeast 1 = .ok (.istore_n 2, 1) := by decide +kernel
theorem dX5_findBelowLeast_2 : decode cX5_findBelowLeast 2 = .ok (.iload_n 2, 1) := by decide +kernel
theorem dX5_findBelowLeast_3 : decode cX5_findBelowLeast 3 = .ok (.aload_n 0, 1) := by decide +kernel
theorem dX5_findBelowLeast_4 : decode cX5_findBelowLeast 4 = .ok (.getfield 33, 3) := by decide +kernel
theorem dX5_findBelowLeast_7 : decode cX5_findBelowLeast 7 = .ok (.if_icmp .ge 58, 3) := by decide +kernel
theorem dX5_findBelowLeast_10 : decode cX5_findBelowLeast 10 = .ok (.aload_n 0, 1) := by decide +kernel
theorem dX5_findBelowLeast_11 : decode cX5_findBelowLeast 11 = .ok (.getfield 26, 3) := by decide +kernel
theorem dX5_findBelowLeast_14 : decode cX5_findBelowLeast 14 = .ok (.iload_n 2, 1) := by decide +kernel
theorem dX5_findBelowLeast_15 : decode cX5_findBelowLeast 15 = .ok (.aaload, 1) := by decide +kernel
theorem dX5_findBelowLeast_16 : decode cX5_findBelowLeast 16 = .ok (.getfield 94, 3) := by decide +kernel
theorem dX5_findBelowLeast_19 : decode cX5_findBelowLeast 19 = .ok (.iload_n 1, 1) := by decide +kernel
theorem dX5_findBelowLeast_20 : decode cX5_findBelowLeast 20 = .ok (.iaload, 1) := by decide +kernel
theorem dX5_findBelowLeast_21 : decode cX5_findBelowLeast 21 = .ok (.istore_n 3, 1) := by decide +kernel
theorem dX5_findBelowLeast_22 : decode cX5_findBelowLeast 22 = .ok (.aload_n 0, 1) := by decide +kernel
theorem dX5_findBelowLeast_23 : decode cX5_findBelowLeast 23 = .ok (.getfield 26, 3) := by decide +kernel
theorem dX5_findBelowLeast_26 : decode cX5_findBelowLeast 26 = .ok (.iload_n 2, 1) := by decide +kernel
theorem dX5_findBelowLeast_27 : decode cX5_findBelowLeast 27 = .ok (.aaload, 1) := by decide +kernel
theorem dX5_findBelowLeast_28 : decode cX5_findBelowLeast 28 = .ok (.getfield 71, 3) := by decide +kernel
theorem dX5_findBelowLeast_31 : decode cX5_findBelowLeast 31 = .ok (.iconst 2, 1) := by decide +kernel
theorem dX5_findBelowLeast_32 : decode cX5_findBelowLeast 32 = .ok (.iaload, 1) := by decide +kernel
theorem dX5_findBelowLeast_33 : decode cX5_findBelowLeast 33 = .ok (.istore 4, 2) := by decide +kernel
theorem dX5_findBelowLeast_35 : decode cX5_findBelowLeast 35 = .ok (.iload_n 3, 1) := by decide +kernel
theorem dX5_findBelowLeast_36 : decode cX5_findBelowLeast 36 = .ok (.ifCond .le 23, 3) := by decide +kernel
theorem dX5_findBelowLeast_39 : decode cX5_findBelowLeast 39 = .ok (.iload_n 3, 1) := by decide +kernel
theorem dX5_findBelowLeast_40 : decode cX5_findBelowLeast 40 = .ok (.iload 4, 2) := by decide +kernel
theorem dX5_findBelowLeast_42 : decode cX5_findBelowLeast 42 = .ok (.if_icmp .ge 17, 3) := by decide +kernel
theorem dX5_findBelowLeast_45 : decode cX5_findBelowLeast 45 = .ok (.aload_n 0, 1) := by decide +kernel
theorem dX5_findBelowLeast_46 : decode cX5_findBelowLeast 46 = .ok (.getfield 56, 3) := by decide +kernel
theorem dX5_findBelowLeast_49 : decode cX5_findBelowLeast 49 = .ok (.iconst 2, 1) := by decide +kernel
theorem dX5_findBelowLeast_50 : decode cX5_findBelowLeast 50 = .ok (.iload_n 1, 1) := by decide +kernel
theorem dX5_findBelowLeast_51 : decode cX5_findBelowLeast 51 = .ok (.iload_n 2, 1) := by decide +kernel
theorem dX5_findBelowLeast_52 : decode cX5_findBelowLeast 52 = .ok (.iload 4, 2) := by decide +kernel
theorem dX5_findBelowLeast_54 : decode cX5_findBelowLeast 54 = .ok (.iload_n 3, 1) := by decide +kernel
theorem dX5_findBelowLeast_55 : decode cX5_findBelowLeast 55 = .ok (.isub, 1) := by decide +kernel
theorem dX5_findBelowLeast_56 : decode cX5_findBelowLeast 56 = .ok (.invokevirtual 212, 3) := by decide +kernel
theorem dX5_findBelowLeast_59 : decode cX5_findBelowLeast 59 = .ok (.iinc 2 1, 3) := by decide +kernel
theorem dX5_findBelowLeast_62 : decode cX5_findBelowLeast 62 = .ok (.goto (-60), 3) := by decide +kernel
theorem dX5_findBelowLeast_65 : decode cX5_findBelowLeast 65 = .ok (.return_, 1) := by decide +kernel
set_option maxRecDepth 20000 in
theorem ggX5_findAboveMostOver_X5_overOf : GoodIn wsX5_findAboveMostOver wsX5_overOf := goodIn_r _ [7, 8, 9, 10, 11, 12, 13, 14, 15, 6, 16, 17, 18, 19, 20, 21, 22, 23, 24, 25, 26, 27, 35, 36, 37, 38, 39, 40, 41, 42, 43, 44, 45, 46, 47, 48, 49] (by decide +kernel) (by decide +kernel)
set_option maxRecDepth 20000 in
theorem gX5_findAboveMostOver_X5_overOf : GoodIn wsX5_findAboveMostOver (wsV RX5 197 RX5 yX5_overOf wsX5_overOf) := goodIn_app (goodIn_of _ (by decide +kernel)) ggX5_findAboveMostOver_X5_overOf
set_option maxRecDepth 20000 in
theorem ggX5_findAboveMostOver_X1_put : GoodIn wsX5_findAboveMostOver wsX1_put := goodIn_r _ [32, 33, 34, 50, 51] (by decide +kernel) (by decide +kernel)
set_option maxRecDepth 20000 in
theorem gX5_findAboveMostOver_X1_put : GoodIn wsX5_findAboveMostOver (wsV RX5 212 RX1 yX1_put wsX1_put) := goodIn_app (goodIn_of _ (by decide +kernel)) ggX5_findAboveMostOver_X1_put
theorem dX5_findAboveMostOver_0 : decode cX5_findAboveMostOver 0 = .ok (.aload_n 0, 1) := by decide +kernel
theorem dX5_findAboveMostOver_1 : decode cX5_findAboveMostOver 1 = .ok (.iload_n 1, 1) := by decide +kernel
theorem dX5_findAboveMostOver_2 : decode cX5_findAboveMostOver 2 = .ok (.invokevirtual 197, 3) := by decide +kernel
theorem dX5_findAboveMostOver_5 : decode cX5_findAboveMostOver 5 = .ok (.aload_n 0, 1) := by decide +kernel
theorem dX5_findAboveMostOver_6 : decode cX5_findAboveMostOver 6 = .ok (.getfield 43, 3) := by decide +kernel
theorem dX5_findAboveMostOver_9 : decode cX5_findAboveMostOver 9 = .ok (.iconst 1, 1) := by decide +kernel
theorem dX5_findAboveMostOver_10 : decode cX5_findAboveMostOver 10 = .ok (.iaload, 1) := by decide +kernel
theorem dX5_findAboveMostOver_11 : decode cX5_findAboveMostOver 11 = .ok (.i2l, 1) := by decide +kernel
theorem dX5_findAboveMostOver_12 : decode cX5_findAboveMostOver 12 = .ok (.lsub, 1) := by decide +kernel
theorem dX5_findAboveMostOver_13 : decode cX5_findAboveMostOver 13 = .ok (.lstore_n 2, 1) := by decide +kernel
theorem dX5_findAboveMostOver_14 : decode cX5_findAboveMostOver 14 = .ok (.lload_n 2, 1) := by decide +kernel
theorem dX5_findAboveMostOver_15 : decode cX5_findAboveMostOver 15 = .ok (.lconst 0, 1) := by decide +kernel
theorem dX5_findAboveMostOver_16 : decode cX5_findAboveMostOver 16 = .ok (.lcmp, 1) := by decide +kernel
theorem dX5_findAboveMostOver_17 : decode cX5_findAboveMostOver 17 = .ok (.ifCond .le 16, 3) := by decide +kernel
theorem dX5_findAboveMostOver_20 : decode cX5_findAboveMostOver 20 = .ok (.aload_n 0, 1) := by decide +kernel
theorem dX5_findAboveMostOver_21 : decode cX5_findAboveMostOver 21 = .ok (.getfield 56, 3) := by decide +kernel
theorem dX5_findAboveMostOver_24 : decode cX5_findAboveMostOver 24 = .ok (.iconst 3, 1) := by decide +kernel
theorem dX5_findAboveMostOver_25 : decode cX5_findAboveMostOver 25 = .ok (.iload_n 1, 1) := by decide +kernel
theorem dX5_findAboveMostOver_26 : decode cX5_findAboveMostOver 26 = .ok (.bipush (-3), 2) := by decide +kernel
theorem dX5_findAboveMostOver_28 : decode cX5_findAboveMostOver 28 = .ok (.lload_n 2, 1) := by decide +kernel
theorem dX5_findAboveMostOver_29 : decode cX5_findAboveMostOver 29 = .ok (.l2i, 1) := by decide +kernel
theorem dX5_findAboveMostOver_30 : decode cX5_findAboveMostOver 30 = .ok (.invokevirtual 212, 3) := by decide +kernel
theorem dX5_findAboveMostOver_33 : decode cX5_findAboveMostOver 33 = .ok (.return_, 1) := by decide +kernel
end
section
theorem dX6_init_0 : decode cX6_init 0 = .ok (.aload_n 0, 1) := by decide +kernel
theorem dX6_init_1 : decode cX6_init 1 = .ok (.invokespecial 1, 3) := by decide +kernel
theorem dX6_init_4 : decode cX6_init 4 = .ok (.aload_n 0, 1) := by decide +kernel
theorem dX6_init_5 : decode cX6_init 5 = .ok (.bipush 48, 2) := by decide +kernel
theorem dX6_init_7 : decode cX6_init 7 = .ok (.newarray .int, 2) := by decide +kernel
theorem dX6_init_9 : decode cX6_init 9 = .ok (.putfield 7, 3) := by decide +kernel
theorem dX6_init_12 : decode cX6_init 12 = .ok (.aload_n 0, 1) := by decide +kernel
theorem dX6_init_13 : decode cX6_init 13 = .ok (.bipush 78, 2) := by decide +kernel
theorem dX6_init_15 : decode cX6_init 15 = .ok (.newarray .int, 2) := by decide +kernel
theorem dX6_init_17 : decode cX6_init 17 = .ok (.putfield 13, 3) := by decide +kernel
theorem dX6_init_20 : decode cX6_init 20 = .ok (.aload_n 0, 1) := by decide +kernel
theorem dX6_init_21 : decode cX6_init 21 = .ok (.bipush 78, 2) := by decide +kernel
theorem dX6_init_23 : decode cX6_init 23 = .ok (.newarray .int, 2) := by decide +kernel
theorem dX6_init_25 : decode cX6_init 25 = .ok (.putfield 16, 3) := by decide +kernel
theorem dX6_init_28 : decode cX6_init 28 = .ok (.aload_n 0, 1) := by decide +kernel
theorem dX6_init_29 : decode cX6_init 29 = .ok (.bipush 36, 2) := by decide +kernel
theorem dX6_init_31 : decode cX6_init 31 = .ok (.newarray .int, 2) := by decide +kernel
theorem dX6_init_33 : decode cX6_init 33 = .ok (.putfield 19, 3) := by decide +kernel
theorem dX6_init_36 : decode cX6_init 36 = .ok (.aload_n 0, 1) := by decide +kernel
theorem dX6_init_37 : decode cX6_init 37 = .ok (.bipush 13, 2) := by decide +kernel
theorem dX6_init_39 : decode cX6_init 39 = .ok (.newarray .int, 2) := by decide +kernel
theorem dX6_init_41 : decode cX6_init 41 = .ok (.putfield 22, 3) := by decide +kernel
theorem dX6_init_44 : decode cX6_init 44 = .ok (.aload_n 0, 1) := by decide +kernel
theorem dX6_init_45 : decode cX6_init 45 = .ok (.bipush 6, 2) := by decide +kernel
theorem dX6_init_47 : decode cX6_init 47 = .ok (.newarray .boolean, 2) := by decide +kernel
theorem dX6_init_49 : decode cX6_init 49 = .ok (.putfield 25, 3) := by decide +kernel
theorem dX6_init_52 : decode cX6_init 52 = .ok (.aload_n 0, 1) := by decide +kernel
theorem dX6_init_53 : decode cX6_init 53 = .ok (.bipush 13, 2) := by decide +kernel
theorem dX6_init_55 : decode cX6_init 55 = .ok (.newarray .long, 2) := by decide +kernel
theorem dX6_init_57 : decode cX6_init 57 = .ok (.putfield 29, 3) := by decide +kernel
theorem dX6_init_60 : decode cX6_init 60 = .ok (.aload_n 0, 1) := by decide +kernel
theorem dX6_init_61 : decode cX6_init 61 = .ok (.bipush 13, 2) := by decide +kernel
theorem dX6_init_63 : decode cX6_init 63 = .ok (.newarray .long, 2) := by decide +kernel
theorem dX6_init_65 : decode cX6_init 65 = .ok (.putfield 33, 3) := by decide +kernel
theorem dX6_init_68 : decode cX6_init 68 = .ok (.aload_n 0, 1) := by decide +kernel
theorem dX6_init_69 : decode cX6_init 69 = .ok (.bipush 13, 2) := by decide +kernel
theorem dX6_init_71 : decode cX6_init 71 = .ok (.newarray .long, 2) := by decide +kernel
theorem dX6_init_73 : decode cX6_init 73 = .ok (.putfield 36, 3) := by decide +kernel
theorem dX6_init_76 : decode cX6_init 76 = .ok (.aload_n 0, 1) := by decide +kernel
theorem dX6_init_77 : decode cX6_init 77 = .ok (.bipush 13, 2) := by decide +kernel
theorem dX6_init_79 : decode cX6_init 79 = .ok (.newarray .long, 2) := by decide +kernel
theorem dX6_init_81 : decode cX6_init 81 = .ok (.putfield 39, 3) := by decide +kernel
theorem dX6_init_84 : decode cX6_init 84 = .ok (.aload_n 0, 1) := by decide +kernel
theorem dX6_init_85 : decode cX6_init 85 = .ok (.bipush 13, 2) := by decide +kernel
theorem dX6_init_87 : decode cX6_init 87 = .ok (.newarray .int, 2) := by decide +kernel
theorem dX6_init_89 : decode cX6_init 89 = .ok (.putfield 42, 3) := by decide +kernel
theorem dX6_init_92 : decode cX6_init 92 = .ok (.aload_n 0, 1) := by decide +kernel
theorem dX6_init_93 : decode cX6_init 93 = .ok (.bipush 78, 2) := by decide +kernel
theorem dX6_init_95 : decode cX6_init 95 = .ok (.newarray .boolean, 2) := by decide +kernel
theorem dX6_init_97 : decode cX6_init 97 = .ok (.putfield 45, 3) := by decide +kernel
theorem dX6_init_100 : decode cX6_init 100 = .ok (.aload_n 0, 1) := by decide +kernel
theorem dX6_init_101 : decode cX6_init 101 = .ok (.sipush 160, 3) := by decide +kernel
theorem dX6_init_104 : decode cX6_init 104 = .ok (.newarray .int, 2) := by decide +kernel
theorem dX6_init_106 : decode cX6_init 106 = .ok (.putfield 48, 3) := by decide +kernel
theorem dX6_init_109 : decode cX6_init 109 = .ok (.aload_n 0, 1) := by decide +kernel
theorem dX6_init_110 : decode cX6_init 110 = .ok (.sipush 160, 3) := by decide +kernel
theorem dX6_init_113 : decode cX6_init 113 = .ok (.newarray .int, 2) := by decide +kernel
theorem dX6_init_115 : decode cX6_init 115 = .ok (.putfield 51, 3) := by decide +kernel
theorem dX6_init_118 : decode cX6_init 118 = .ok (.aload_n 0, 1) := by decide +kernel
theorem dX6_init_119 : decode cX6_init 119 = .ok (.sipush 160, 3) := by decide +kernel
theorem dX6_init_122 : decode cX6_init 122 = .ok (.newarray .int, 2) := by decide +kernel
theorem dX6_init_124 : decode cX6_init 124 = .ok (.putfield 54, 3) := by decide +kernel
theorem dX6_init_127 : decode cX6_init 127 = .ok (.aload_n 0, 1) := by decide +kernel
theorem dX6_init_128 : decode cX6_init 128 = .ok (.sipush 160, 3) := by decide +kernel
theorem dX6_init_131 : decode cX6_init 131 = .ok (.newarray .long, 2) := by decide +kernel
theorem dX6_init_133 : decode cX6_init 133 = .ok (.putfield 57, 3) := by decide +kernel
theorem dX6_init_136 : decode cX6_init 136 = .ok (.aload_n 0, 1) := by decide +kernel
theorem dX6_init_137 : decode cX6_init 137 = .ok (.bipush 78, 2) := by decide +kernel
theorem dX6_init_139 : decode cX6_init 139 = .ok (.newarray .long, 2) := by decide +kernel
theorem dX6_init_141 : decode cX6_init 141 = .ok (.putfield 60, 3) := by decide +kernel
theorem dX6_init_144 : decode cX6_init 144 = .ok (.aload_n 0, 1) := by decide +kernel
theorem dX6_init_145 : decode cX6_init 145 = .ok (.bipush 13, 2) := by decide +kernel
theorem dX6_init_147 : decode cX6_init 147 = .ok (.newarray .int, 2) := by decide +kernel
theorem dX6_init_149 : decode cX6_init 149 = .ok (.putfield 63, 3) := by decide +kernel
theorem dX6_init_152 : decode cX6_init 152 = .ok (.aload_n 0, 1) := by decide +kernel
theorem dX6_init_153 : decode cX6_init 153 = .ok (.bipush 14, 2) := by decide +kernel
theorem dX6_init_155 : decode cX6_init 155 = .ok (.newarray .long, 2) := by decide +kernel
theorem dX6_init_157 : decode cX6_init 157 = .ok (.putfield 66, 3) := by decide +kernel
theorem dX6_init_160 : decode cX6_init 160 = .ok (.aload_n 0, 1) := by decide +kernel
theorem dX6_init_161 : decode cX6_init 161 = .ok (.iload_n 1, 1) := by decide +kernel
theorem dX6_init_162 : decode cX6_init 162 = .ok (.iconst 1, 1) := by decide +kernel
theorem dX6_init_163 : decode cX6_init 163 = .ok (.if_icmp .ge 7, 3) := by decide +kernel
theorem dX6_init_166 : decode cX6_init 166 = .ok (.iconst 1, 1) := by decide +kernel
theorem dX6_init_167 : decode cX6_init 167 = .ok (.goto 15, 3) := by decide +kernel
theorem dX6_init_170 : decode cX6_init 170 = .ok (.iload_n 1, 1) := by decide +kernel
theorem dX6_init_171 : decode cX6_init 171 = .ok (.bipush 12, 2) := by decide +kernel
theorem dX6_init_173 : decode cX6_init 173 = .ok (.if_icmp .le 8, 3) := by decide +kernel
theorem dX6_init_176 : decode cX6_init 176 = .ok (.bipush 12, 2) := by decide +kernel
theorem dX6_init_178 : decode cX6_init 178 = .ok (.goto 4, 3) := by decide +kernel
theorem dX6_init_181 : decode cX6_init 181 = .ok (.iload_n 1, 1) := by decide +kernel
theorem dX6_init_182 : decode cX6_init 182 = .ok (.putfield 69, 3) := by decide +kernel
theorem dX6_init_185 : decode cX6_init 185 = .ok (.iconst 0, 1) := by decide +kernel
theorem dX6_init_186 : decode cX6_init 186 = .ok (.istore_n 2, 1) := by decide +kernel
theorem dX6_init_187 : decode cX6_init 187 = .ok (.iload_n 2, 1) := by decide +kernel
theorem dX6_init_188 : decode cX6_init 188 = .ok (.bipush 13, 2) := by decide +kernel
theorem dX6_init_190 : decode cX6_init 190 = .ok (.if_icmp .ge 18, 3) := by decide +kernel
theorem dX6_init_193 : decode cX6_init 193 = .ok (.aload_n 0, 1) := by decide +kernel
theorem dX6_init_194 : decode cX6_init 194 = .ok (.getfield 22, 3) := by decide +kernel
theorem dX6_init_197 : decode cX6_init 197 = .ok (.iload_n 2, 1) := by decide +kernel
theorem dX6_init_198 : decode cX6_init 198 = .ok (.sipush 10000, 3) := by decide +kernel
theorem dX6_init_201 : decode cX6_init 201 = .ok (.iastore, 1) := by decide +kernel
theorem dX6_init_202 : decode cX6_init 202 = .ok (.iinc 2 1, 3) := by decide +kernel
theorem dX6_init_205 : decode cX6_init 205 = .ok (.goto (-18), 3) := by decide +kernel
theorem dX6_init_208 : decode cX6_init 208 = .ok (.return_, 1) := by decide +kernel
theorem dX6_thrown_0 : decode cX6_thrown 0 = .ok (.aload_n 0, 1) := by decide +kernel
theorem dX6_thrown_1 : decode cX6_thrown 1 = .ok (.getfield 73, 3) := by decide +kernel
theorem dX6_thrown_4 : decode cX6_thrown 4 = .ok (.ireturn, 1) := by decide +kernel
theorem dX6_in_0 : decode cX6_in 0 = .ok (.iload_n 0, 1) := by decide +kernel
theorem dX6_in_1 : decode cX6_in 1 = .ok (.iload_n 1, 1) := by decide +kernel
theorem dX6_in_2 : decode cX6_in 2 = .ok (.if_icmp .lt 12, 3) := by decide +kernel
theorem dX6_in_5 : decode cX6_in 5 = .ok (.iload_n 0, 1) := by decide +kernel
theorem dX6_in_6 : decode cX6_in 6 = .ok (.iload_n 2, 1) := by decide +kernel
theorem dX6_in_7 : decode cX6_in 7 = .ok (.if_icmp .gt 7, 3) := by decide +kernel
theorem dX6_in_10 : decode cX6_in 10 = .ok (.iconst 1, 1) := by decide +kernel
theorem dX6_in_11 : decode cX6_in 11 = .ok (.goto 4, 3) := by decide +kernel
theorem dX6_in_14 : decode cX6_in 14 = .ok (.iconst 0, 1) := by decide +kernel
theorem dX6_in_15 : decode cX6_in 15 = .ok (.ireturn, 1) := by decide +kernel
set_option maxRecDepth 20000 in
theorem ggX6_isItem_X6_in : GoodIn wsX6_isItem wsX6_in := goodIn_r _ [5] (by decide +kernel) (by decide +kernel)
set_option maxRecDepth 20000 in
theorem gX6_isItem_X6_in : GoodIn wsX6_isItem (va_wsS RX6 79 yX6_in wsX6_in) := goodIn_app (goodIn_of _ (by decide +kernel)) ggX6_isItem_X6_in
theorem dX6_isItem_0 : decode cX6_isItem 0 = .ok (.iload_n 1, 1) := by decide +kernel
theorem dX6_isItem_1 : decode cX6_isItem 1 = .ok (.iconst 0, 1) := by decide +kernel
theorem dX6_isItem_2 : decode cX6_isItem 2 = .ok (.aload_n 0, 1) := by decide +kernel
theorem dX6_isItem_3 : decode cX6_isItem 3 = .ok (.getfield 76, 3) := by decide +kernel
theorem dX6_isItem_6 : decode cX6_isItem 6 = .ok (.iconst 1, 1) := by decide +kernel
theorem dX6_isItem_7 : decode cX6_isItem 7 = .ok (.isub, 1) := by decide +kernel
theorem dX6_isItem_8 : decode cX6_isItem 8 = .ok (.invokestatic 79, 3) := by decide +kernel
theorem dX6_isItem_11 : decode cX6_isItem 11 = .ok (.ireturn, 1) := by decide +kernel
set_option maxRecDepth 20000 in
theorem ggX6_isPeriod_X6_in : GoodIn wsX6_isPeriod wsX6_in := goodIn_r _ [5] (by decide +kernel) (by decide +kernel)
set_option maxRecDepth 20000 in
theorem gX6_isPeriod_X6_in : GoodIn wsX6_isPeriod (va_wsS RX6 79 yX6_in wsX6_in) := goodIn_app (goodIn_of _ (by decide +kernel)) ggX6_isPeriod_X6_in
theorem dX6_isPeriod_0 : decode cX6_isPeriod 0 = .ok (.iload_n 1, 1) := by decide +kernel
theorem dX6_isPeriod_1 : decode cX6_isPeriod 1 = .ok (.iconst 1, 1) := by decide +kernel
theorem dX6_isPeriod_2 : decode cX6_isPeriod 2 = .ok (.aload_n 0, 1) := by decide +kernel
theorem dX6_isPeriod_3 : decode cX6_isPeriod 3 = .ok (.getfield 69, 3) := by decide +kernel
theorem dX6_isPeriod_6 : decode cX6_isPeriod 6 = .ok (.invokestatic 79, 3) := by decide +kernel
theorem dX6_isPeriod_9 : decode cX6_isPeriod 9 = .ok (.ireturn, 1) := by decide +kernel
theorem dX6_item_0 : decode cX6_item 0 = .ok (.aload_n 0, 1) := by decide +kernel
theorem dX6_item_1 : decode cX6_item 1 = .ok (.iconst 0, 1) := by decide +kernel
theorem dX6_item_2 : decode cX6_item 2 = .ok (.putfield 73, 3) := by decide +kernel
theorem dX6_item_5 : decode cX6_item 5 = .ok (.aload_n 0, 1) := by decide +kernel
theorem dX6_item_6 : decode cX6_item 6 = .ok (.getfield 76, 3) := by decide +kernel
theorem dX6_item_9 : decode cX6_item 9 = .ok (.bipush 6, 2) := by decide +kernel
theorem dX6_item_11 : decode cX6_item 11 = .ok (.if_icmp .ne 6, 3) := by decide +kernel
theorem dX6_item_14 : decode cX6_item 14 = .ok (.bipush (-4), 2) := by decide +kernel
theorem dX6_item_16 : decode cX6_item 16 = .ok (.ireturn, 1) := by decide +kernel
theorem dX6_item_17 : decode cX6_item 17 = .ok (.aload_n 0, 1) := by decide +kernel
theorem dX6_item_18 : decode cX6_item 18 = .ok (.dup, 1) := by decide +kernel
theorem dX6_item_19 : decode cX6_item 19 = .ok (.getfield 76, 3) := by decide +kernel
theorem dX6_item_22 : decode cX6_item 22 = .ok (.iconst 1, 1) := by decide +kernel
theorem dX6_item_23 : decode cX6_item 23 = .ok (.iadd, 1) := by decide +kernel
theorem dX6_item_24 : decode cX6_item 24 = .ok (.putfield 76, 3) := by decide +kernel
theorem dX6_item_27 : decode cX6_item 27 = .ok (.aload_n 0, 1) := by decide +kernel
theorem dX6_item_28 : decode cX6_item 28 = .ok (.getfield 76, 3) := by decide +kernel
theorem dX6_item_31 : decode cX6_item 31 = .ok (.iconst 1, 1) := by decide +kernel
theorem dX6_item_32 : decode cX6_item 32 = .ok (.isub, 1) := by decide +kernel
theorem dX6_item_33 : decode cX6_item 33 = .ok (.ireturn, 1) := by decide +kernel
theorem dX6_bound_0 : decode cX6_bound 0 = .ok (.iload_n 0, 1) := by decide +kernel
theorem dX6_bound_1 : decode cX6_bound 1 = .ok (.tableswitch 74 0 7 #[47, 51, 54, 58, 61, 65, 68, 72], 47) := by decide +kernel
theorem dX6_bound_48 : decode cX6_bound 48 = .ok (.sipush 10000, 3) := by decide +kernel
theorem dX6_bound_51 : decode cX6_bound 51 = .ok (.ireturn, 1) := by decide +kernel
theorem dX6_bound_52 : decode cX6_bound 52 = .ok (.bipush 100, 2) := by decide +kernel
theorem dX6_bound_54 : decode cX6_bound 54 = .ok (.ireturn, 1) := by decide +kernel
theorem dX6_bound_55 : decode cX6_bound 55 = .ok (.sipush 1000, 3) := by decide +kernel
theorem dX6_bound_58 : decode cX6_bound 58 = .ok (.ireturn, 1) := by decide +kernel
theorem dX6_bound_59 : decode cX6_bound 59 = .ok (.bipush 12, 2) := by decide +kernel
theorem dX6_bound_61 : decode cX6_bound 61 = .ok (.ireturn, 1) := by decide +kernel
theorem dX6_bound_62 : decode cX6_bound 62 = .ok (.sipush 1000, 3) := by decide +kernel
theorem dX6_bound_65 : decode cX6_bound 65 = .ok (.ireturn, 1) := by decide +kernel
theorem dX6_bound_66 : decode cX6_bound 66 = .ok (.bipush 20, 2) := by decide +kernel
theorem dX6_bound_68 : decode cX6_bound 68 = .ok (.ireturn, 1) := by decide +kernel
theorem dX6_bound_69 : decode cX6_bound 69 = .ok (.sipush 200, 3) := by decide +kernel
theorem dX6_bound_72 : decode cX6_bound 72 = .ok (.ireturn, 1) := by decide +kernel
theorem dX6_bound_73 : decode cX6_bound 73 = .ok (.iconst 3, 1) := by decide +kernel
theorem dX6_bound_74 : decode cX6_bound 74 = .ok (.ireturn, 1) := by decide +kernel
theorem dX6_bound_75 : decode cX6_bound 75 = .ok (.iconst (-1), 1) := by decide +kernel
theorem dX6_bound_76 : decode cX6_bound 76 = .ok (.ireturn, 1) := by decide +kernel
set_option maxRecDepth 20000 in
theorem ggX6_set_X6_isItem : GoodIn wsX6_set wsX6_isItem := goodIn_r _ [7, 8, 9, 10, 6, 11, 15, 16, 17, 18, 19, 20, 21, 22, 23, 24, 25, 26, 27, 28, 29, 30, 31, 32, 33, 34, 35, 36, 37, 38, 39] (by decide +kernel) (by decide +kernel)
set_option maxRecDepth 20000 in
theorem gX6_set_X6_isItem : GoodIn wsX6_set (wsV RX6 83 RX6 yX6_isItem wsX6_isItem) := goodIn_app (goodIn_of _ (by decide +kernel)) ggX6_set_X6_isItem
set_option maxRecDepth 20000 in
theorem ggX6_set_X6_bound : GoodIn wsX6_set wsX6_bound := goodIn_r _ [14] (by decide +kernel) (by decide +kernel)
set_option maxRecDepth 20000 in
theorem gX6_set_X6_bound : GoodIn wsX6_set (va_wsS RX6 87 yX6_bound wsX6_bound) := goodIn_app (goodIn_of _ (by decide +kernel)) ggX6_set_X6_bound
set_option maxRecDepth 20000 in
theorem ggX6_set_X6_in : GoodIn wsX6_set wsX6_in := goodIn_r _ [11] (by decide +kernel) (by decide +kernel)
set_option maxRecDepth 20000 in
theorem gX6_set_X6_in : GoodIn wsX6_set (va_wsS RX6 79 yX6_in wsX6_in) := goodIn_app (goodIn_of _ (by decide +kernel)) ggX6_set_X6_in
theorem dX6_set_0 : decode cX6_set 0 = .ok (.aload_n 0, 1) := by decide +kernel
theorem dX6_set_1 : decode cX6_set 1 = .ok (.iconst 0, 1) := by decide +kernel
theorem dX6_set_2 : decode cX6_set 2 = .ok (.putfield 73, 3) := by decide +kernel
theorem dX6_set_5 : decode cX6_set 5 = .ok (.aload_n 0, 1) := by decide +kernel
theorem dX6_set_6 : decode cX6_set 6 = .ok (.iload_n 1, 1) := by decide +kernel
theorem dX6_set_7 : decode cX6_set 7 = .ok (.invokevirtual 83, 3) := by decide +kernel
theorem dX6_set_10 : decode cX6_set 10 = .ok (.ifCond .ne 5, 3) := by decide +kernel
theorem dX6_set_13 : decode cX6_set 13 = .ok (.iconst (-1), 1) := by decide +kernel
theorem dX6_set_14 : decode cX6_set 14 = .ok (.ireturn, 1) := by decide +kernel
theorem dX6_set_15 : decode cX6_set 15 = .ok (.iload_n 3, 1) := by decide +kernel
theorem dX6_set_16 : decode cX6_set 16 = .ok (.iconst 0, 1) := by decide +kernel
theorem dX6_set_17 : decode cX6_set 17 = .ok (.iload_n 2, 1) := by decide +kernel
theorem dX6_set_18 : decode cX6_set 18 = .ok (.invokestatic 87, 3) := by decide +kernel
theorem dX6_set_21 : decode cX6_set 21 = .ok (.invokestatic 79, 3) := by decide +kernel
theorem dX6_set_24 : decode cX6_set 24 = .ok (.ifCond .ne 6, 3) := by decide +kernel
theorem dX6_set_27 : decode cX6_set 27 = .ok (.bipush (-2), 2) := by decide +kernel
theorem dX6_set_29 : decode cX6_set 29 = .ok (.ireturn, 1) := by decide +kernel
theorem dX6_set_30 : decode cX6_set 30 = .ok (.aload_n 0, 1) := by decide +kernel
theorem dX6_set_31 : decode cX6_set 31 = .ok (.getfield 7, 3) := by decide +kernel
theorem dX6_set_34 : decode cX6_set 34 = .ok (.bipush 8, 2) := by decide +kernel
theorem dX6_set_36 : decode cX6_set 36 = .ok (.iload_n 1, 1) := by decide +kernel
theorem dX6_set_37 : decode cX6_set 37 = .ok (.imul, 1) := by decide +kernel
theorem dX6_set_38 : decode cX6_set 38 = .ok (.iload_n 2, 1) := by decide +kernel
theorem dX6_set_39 : decode cX6_set 39 = .ok (.iadd, 1) := by decide +kernel
theorem dX6_set_40 : decode cX6_set 40 = .ok (.iaload, 1) := by decide +kernel
theorem dX6_set_41 : decode cX6_set 41 = .ok (.istore 4, 2) := by decide +kernel
theorem dX6_set_43 : decode cX6_set 43 = .ok (.aload_n 0, 1) := by decide +kernel
theorem dX6_set_44 : decode cX6_set 44 = .ok (.getfield 7, 3) := by decide +kernel
theorem dX6_set_47 : decode cX6_set 47 = .ok (.bipush 8, 2) := by decide +kernel
theorem dX6_set_49 : decode cX6_set 49 = .ok (.iload_n 1, 1) := by decide +kernel
theorem dX6_set_50 : decode cX6_set 50 = .ok (.imul, 1) := by decide +kernel
theorem dX6_set_51 : decode cX6_set 51 = .ok (.iload_n 2, 1) := by decide +kernel
theorem dX6_set_52 : decode cX6_set 52 = .ok (.iadd, 1) := by decide +kernel
theorem dX6_set_53 : decode cX6_set 53 = .ok (.iload_n 3, 1) := by decide +kernel
theorem dX6_set_54 : decode cX6_set 54 = .ok (.iastore, 1) := by decide +kernel
theorem dX6_set_55 : decode cX6_set 55 = .ok (.iload 4, 2) := by decide +kernel
theorem dX6_set_57 : decode cX6_set 57 = .ok (.ireturn, 1) := by decide +kernel
set_option maxRecDepth 20000 in
theorem ggX6_need_X6_isItem : GoodIn wsX6_need wsX6_isItem := goodIn_r _ [7, 8, 9, 10, 6, 11, 17, 18, 19, 20, 21, 22, 23, 24, 25, 26, 27, 28, 29, 30, 31, 32, 33, 34, 35, 36, 37, 38, 39, 40, 41] (by decide +kernel) (by decide +kernel)
set_option maxRecDepth 20000 in
theorem gX6_need_X6_isItem : GoodIn wsX6_need (wsV RX6 83 RX6 yX6_isItem wsX6_isItem) := goodIn_app (goodIn_of _ (by decide +kernel)) ggX6_need_X6_isItem
set_option maxRecDepth 20000 in
theorem ggX6_need_X6_isPeriod : GoodIn wsX6_need wsX6_isPeriod := goodIn_r _ [15, 16, 9, 10, 6, 11, 17, 18, 19, 20, 21, 22, 23, 24, 25, 26, 27, 28, 29, 30, 31, 32, 33, 34, 35, 36, 37, 38, 39, 40, 41] (by decide +kernel) (by decide +kernel)
set_option maxRecDepth 20000 in
theorem gX6_need_X6_isPeriod : GoodIn wsX6_need (wsV RX6 91 RX6 yX6_isPeriod wsX6_isPeriod) := goodIn_app (goodIn_of _ (by decide +kernel)) ggX6_need_X6_isPeriod
set_option maxRecDepth 20000 in
theorem ggX6_need_X6_in : GoodIn wsX6_need wsX6_in := goodIn_r _ [11] (by decide +kernel) (by decide +kernel)
set_option maxRecDepth 20000 in
theorem gX6_need_X6_in : GoodIn wsX6_need (va_wsS RX6 79 yX6_in wsX6_in) := goodIn_app (goodIn_of _ (by decide +kernel)) ggX6_need_X6_in
theorem dX6_need_0 : decode cX6_need 0 = .ok (.aload_n 0, 1) := by decide +kernel
theorem dX6_need_1 : decode cX6_need 1 = .ok (.iconst 0, 1) := by decide +kernel
theorem dX6_need_2 : decode cX6_need 2 = .ok (.putfield 73, 3) := by decide +kernel
theorem dX6_need_5 : decode cX6_need 5 = .ok (.aload_n 0, 1) := by decide +kernel
theorem dX6_need_6 : decode cX6_need 6 = .ok (.iload_n 1, 1) := by decide +kernel
theorem dX6_need_7 : decode cX6_need 7 = .ok (.invokevirtual 83, 3) := by decide +kernel
theorem dX6_need_10 : decode cX6_need 10 = .ok (.ifCond .eq 11, 3) := by decide +kernel
theorem dX6_need_13 : decode cX6_need 13 = .ok (.aload_n 0, 1) := by decide +kernel
theorem dX6_need_14 : decode cX6_need 14 = .ok (.iload_n 2, 1) := by decide +kernel
theorem dX6_need_15 : decode cX6_need 15 = .ok (.invokevirtual 91, 3) := by decide +kernel
theorem dX6_need_18 : decode cX6_need 18 = .ok (.ifCond .ne 5, 3) := by decide +kernel
theorem dX6_need_21 : decode cX6_need 21 = .ok (.iconst (-1), 1) := by decide +kernel
theorem dX6_need_22 : decode cX6_need 22 = .ok (.ireturn, 1) := by decide +kernel
theorem dX6_need_23 : decode cX6_need 23 = .ok (.iload_n 3, 1) := by decide +kernel
theorem dX6_need_24 : decode cX6_need 24 = .ok (.iconst 0, 1) := by decide +kernel
theorem dX6_need_25 : decode cX6_need 25 = .ok (.sipush 1000, 3) := by decide +kernel
theorem dX6_need_28 : decode cX6_need 28 = .ok (.invokestatic 79, 3) := by decide +kernel
theorem dX6_need_31 : decode cX6_need 31 = .ok (.ifCond .ne 6, 3) := by decide +kernel
theorem dX6_need_34 : decode cX6_need 34 = .ok (.bipush (-2), 2) := by decide +kernel
theorem dX6_need_36 : decode cX6_need 36 = .ok (.ireturn, 1) := by decide +kernel
theorem dX6_need_37 : decode cX6_need 37 = .ok (.aload_n 0, 1) := by decide +kernel
theorem dX6_need_38 : decode cX6_need 38 = .ok (.getfield 13, 3) := by decide +kernel
theorem dX6_need_41 : decode cX6_need 41 = .ok (.bipush 13, 2) := by decide +kernel
theorem dX6_need_43 : decode cX6_need 43 = .ok (.iload_n 1, 1) := by decide +kernel
theorem dX6_need_44 : decode cX6_need 44 = .ok (.imul, 1) := by decide +kernel
theorem dX6_need_45 : decode cX6_need 45 = .ok (.iload_n 2, 1) := by decide +kernel
theorem dX6_need_46 : decode cX6_need 46 = .ok (.iadd, 1) := by decide +kernel
theorem dX6_need_47 : decode cX6_need 47 = .ok (.iaload, 1) := by decide +kernel
theorem dX6_need_48 : decode cX6_need 48 = .ok (.istore 4, 2) := by decide +kernel
theorem dX6_need_50 : decode cX6_need 50 = .ok (.aload_n 0, 1) := by decide +kernel
theorem dX6_need_51 : decode cX6_need 51 = .ok (.getfield 13, 3) := by decide +kernel
theorem dX6_need_54 : decode cX6_need 54 = .ok (.bipush 13, 2) := by decide +kernel
theorem dX6_need_56 : decode cX6_need 56 = .ok (.iload_n 1, 1) := by decide +kernel
theorem dX6_need_57 : decode cX6_need 57 = .ok (.imul, 1) := by decide +kernel
theorem dX6_need_58 : decode cX6_need 58 = .ok (.iload_n 2, 1) := by decide +kernel
theorem dX6_need_59 : decode cX6_need 59 = .ok (.iadd, 1) := by decide +kernel
theorem dX6_need_60 : decode cX6_need 60 = .ok (.iload_n 3, 1) := by decide +kernel
theorem dX6_need_61 : decode cX6_need 61 = .ok (.iastore, 1) := by decide +kernel
theorem dX6_need_62 : decode cX6_need 62 = .ok (.iload 4, 2) := by decide +kernel
theorem dX6_need_64 : decode cX6_need 64 = .ok (.ireturn, 1) := by decide +kernel
theorem dX6_isWithin_0 : decode cX6_isWithin 0 = .ok (.iconst 0, 1) := by decide +kernel
theorem dX6_isWithin_1 : decode cX6_isWithin 1 = .ok (.istore_n 3, 1) := by decide +kernel
theorem dX6_isWithin_2 : decode cX6_isWithin 2 = .ok (.iload_n 3, 1) := by decide +kernel
theorem dX6_isWithin_3 : decode cX6_isWithin 3 = .ok (.bipush 6, 2) := by decide +kernel
theorem dX6_isWithin_5 : decode cX6_isWithin 5 = .ok (.if_icmp .ge 25, 3) := by decide +kernel
theorem dX6_isWithin_8 : decode cX6_isWithin 8 = .ok (.aload_n 0, 1) := by decide +kernel
theorem dX6_isWithin_9 : decode cX6_isWithin 9 = .ok (.getfield 25, 3) := by decide +kernel
theorem dX6_isWithin_12 : decode cX6_isWithin 12 = .ok (.iload_n 3, 1) := by decide +kernel
theorem dX6_isWithin_13 : decode cX6_isWithin 13 = .ok (.iload_n 3, 1) := by decide +kernel
theorem dX6_isWithin_14 : decode cX6_isWithin 14 = .ok (.iload_n 1, 1) := by decide +kernel
theorem dX6_isWithin_15 : decode cX6_isWithin 15 = .ok (.if_icmp .ne 7, 3) := by decide +kernel
theorem dX6_isWithin_18 : decode cX6_isWithin 18 = .ok (.iconst 1, 1) := by decide +kernel
theorem dX6_isWithin_19 : decode cX6_isWithin 19 = .ok (.goto 4, 3) := by decide +kernel
theorem dX6_isWithin_22 : decode cX6_isWithin 22 = .ok (.iconst 0, 1) := by decide +kernel
theorem dX6_isWithin_23 : decode cX6_isWithin 23 = .ok (.bastore, 1) := by decide +kernel
theorem dX6_isWithin_24 : decode cX6_isWithin 24 = .ok (.iinc 3 1, 3) := by decide +kernel
theorem dX6_isWithin_27 : decode cX6_isWithin 27 = .ok (.goto (-25), 3) := by decide +kernel
theorem dX6_isWithin_30 : decode cX6_isWithin 30 = .ok (.iconst 0, 1) := by decide +kernel
theorem dX6_isWithin_31 : decode cX6_isWithin 31 = .ok (.istore_n 3, 1) := by decide +kernel
theorem dX6_isWithin_32 : decode cX6_isWithin 32 = .ok (.iload_n 3, 1) := by decide +kernel
theorem dX6_isWithin_33 : decode cX6_isWithin 33 = .ok (.aload_n 0, 1) := by decide +kernel
theorem dX6_isWithin_34 : decode cX6_isWithin 34 = .ok (.getfield 76, 3) := by decide +kernel
theorem dX6_isWithin_37 : decode cX6_isWithin 37 = .ok (.if_icmp .ge 93, 3) := by decide +kernel
theorem dX6_isWithin_40 : decode cX6_isWithin 40 = .ok (.iconst 0, 1) := by decide +kernel
theorem dX6_isWithin_41 : decode cX6_isWithin 41 = .ok (.istore 4, 2) := by decide +kernel
theorem dX6_isWithin_43 : decode cX6_isWithin 43 = .ok (.iload 4, 2) := by decide +kernel
theorem dX6_isWithin_45 : decode cX6_isWithin 45 = .ok (.aload_n 0, 1) := by decide +kernel
theorem dX6_isWithin_46 : decode cX6_isWithin 46 = .ok (.getfield 76, 3) := by decide +kernel
theorem dX6_isWithin_49 : decode cX6_isWithin 49 = .ok (.if_icmp .ge 75, 3) := by decide +kernel
theorem dX6_isWithin_52 : decode cX6_isWithin 52 = .ok (.iconst 0, 1) := by decide +kernel
theorem dX6_isWithin_53 : decode cX6_isWithin 53 = .ok (.istore 5, 2) := by decide +kernel
theorem dX6_isWithin_55 : decode cX6_isWithin 55 = .ok (.iload 5, 2) := by decide +kernel
theorem dX6_isWithin_57 : decode cX6_isWithin 57 = .ok (.aload_n 0, 1) := by decide +kernel
theorem dX6_isWithin_58 : decode cX6_isWithin 58 = .ok (.getfield 76, 3) := by decide +kernel
theorem dX6_isWithin_61 : decode cX6_isWithin 61 = .ok (.if_icmp .ge 57, 3) := by decide +kernel
theorem dX6_isWithin_64 : decode cX6_isWithin 64 = .ok (.aload_n 0, 1) := by decide +kernel
theorem dX6_isWithin_65 : decode cX6_isWithin 65 = .ok (.getfield 25, 3) := by decide +kernel
theorem dX6_isWithin_68 : decode cX6_isWithin 68 = .ok (.iload 5, 2) := by decide +kernel
theorem dX6_isWithin_70 : decode cX6_isWithin 70 = .ok (.aload_n 0, 1) := by decide +kernel
theorem dX6_isWithin_71 : decode cX6_isWithin 71 = .ok (.getfield 25, 3) := by decide +kernel
theorem dX6_isWithin_74 : decode cX6_isWithin 74 = .ok (.iload 5, 2) := by decide +kernel
theorem dX6_isWithin_76 : decode cX6_isWithin 76 = .ok (.baload, 1) := by decide +kernel
theorem dX6_isWithin_77 : decode cX6_isWithin 77 = .ok (.ifCond .ne 29, 3) := by decide +kernel
theorem dX6_isWithin_80 : decode cX6_isWithin 80 = .ok (.aload_n 0, 1) := by decide +kernel
theorem dX6_isWithin_81 : decode cX6_isWithin 81 = .ok (.getfield 25, 3) := by decide +kernel
theorem dX6_isWithin_84 : decode cX6_isWithin 84 = .ok (.iload 4, 2) := by decide +kernel
theorem dX6_isWithin_86 : decode cX6_isWithin 86 = .ok (.baload, 1) := by decide +kernel
theorem dX6_isWithin_87 : decode cX6_isWithin 87 = .ok (.ifCond .eq 23, 3) := by decide +kernel
theorem dX6_isWithin_90 : decode cX6_isWithin 90 = .ok (.aload_n 0, 1) := by decide +kernel
theorem dX6_isWithin_91 : decode cX6_isWithin 91 = .ok (.getfield 19, 3) := by decide +kernel
theorem dX6_isWithin_94 : decode cX6_isWithin 94 = .ok (.bipush 6, 2) := by decide +kernel
theorem dX6_isWithin_96 : decode cX6_isWithin 96 = .ok (.iload 4, 2) := by decide +kernel
theorem dX6_isWithin_98 : decode cX6_isWithin 98 = .ok (.imul, 1) := by decide +kernel
theorem dX6_isWithin_99 : decode cX6_isWithin 99 = .ok (.iload 5, 2) := by decide +kernel
theorem dX6_isWithin_101 : decode cX6_isWithin 101 = .ok (.iadd, 1) := by decide +kernel
theorem dX6_isWithin_102 : decode cX6_isWithin 102 = .ok (.iaload, 1) := by decide +kernel
theorem dX6_isWithin_103 : decode cX6_isWithin 103 = .ok (.ifCond .le 7, 3) := by decide +kernel
theorem dX6_isWithin_106 : decode cX6_isWithin 106 = .ok (.iconst 1, 1) := by decide +kernel
theorem dX6_isWithin_107 : decode cX6_isWithin 107 = .ok (.goto 4, 3) := by decide +kernel
theorem dX6_isWithin_110 : decode cX6_isWithin 110 = .ok (.iconst 0, 1) := by decide +kernel
theorem dX6_isWithin_111 : decode cX6_isWithin 111 = .ok (.bastore, 1) := by decide +kernel
theorem dX6_isWithin_112 : decode cX6_isWithin 112 = .ok (.iinc 5 1, 3) := by decide +kernel
theorem dX6_isWithin_115 : decode cX6_isWithin 115 = .ok (.goto (-60), 3) := by decide +kernel
theorem dX6_isWithin_118 : decode cX6_isWithin 118 = .ok (.iinc 4 1, 3) := by decide +kernel
theorem dX6_isWithin_121 : decode cX6_isWithin 121 = .ok (.goto (-78), 3) := by decide +kernel
theorem dX6_isWithin_124 : decode cX6_isWithin 124 = .ok (.iinc 3 1, 3) := by decide +kernel
theorem dX6_isWithin_127 : decode cX6_isWithin 127 = .ok (.goto (-95), 3) := by decide +kernel
theorem dX6_isWithin_130 : decode cX6_isWithin 130 = .ok (.aload_n 0, 1) := by decide +kernel
theorem dX6_isWithin_131 : decode cX6_isWithin 131 = .ok (.getfield 25, 3) := by decide +kernel
theorem dX6_isWithin_134 : decode cX6_isWithin 134 = .ok (.iload_n 2, 1) := by decide +kernel
theorem dX6_isWithin_135 : decode cX6_isWithin 135 = .ok (.baload, 1) := by decide +kernel
theorem dX6_isWithin_136 : decode cX6_isWithin 136 = .ok (.ireturn, 1) := by decide +kernel
set_option maxRecDepth 20000 in
theorem ggX6_part_X6_isItem : GoodIn wsX6_part wsX6_isItem := goodIn_r _ [7, 8, 9, 10, 6, 11, 17, 18, 19, 20, 21, 22, 23, 24, 25, 26, 27, 28, 29, 30, 31, 32, 33, 34, 35, 36, 37, 38, 39, 40, 41] (by decide +kernel) (by decide +kernel)
set_option maxRecDepth 20000 in
theorem gX6_part_X6_isItem : GoodIn wsX6_part (wsV RX6 83 RX6 yX6_isItem wsX6_isItem) := goodIn_app (goodIn_of _ (by decide +kernel)) ggX6_part_X6_isItem
set_option maxRecDepth 20000 in
theorem ggX6_part_X6_in : GoodIn wsX6_part wsX6_in := goodIn_r _ [11] (by decide +kernel) (by decide +kernel)
set_option maxRecDepth 20000 in
theorem gX6_part_X6_in : GoodIn wsX6_part (va_wsS RX6 79 yX6_in wsX6_in) := goodIn_app (goodIn_of _ (by decide +kernel)) ggX6_part_X6_in
set_option maxRecDepth 20000 in
theorem ggX6_part_X6_isWithin : GoodIn wsX6_part wsX6_isWithin := goodIn_r _ [15, 16, 8, 2, 17, 18, 19, 20, 21, 22, 23, 24, 25, 26, 27, 28, 29, 30, 31, 32, 33, 34, 35, 36, 37, 38, 39, 40, 41] (by decide +kernel) (by decide +kernel)
set_option maxRecDepth 20000 in
theorem gX6_part_X6_isWithin : GoodIn wsX6_part (wsV RX6 94 RX6 yX6_isWithin wsX6_isWithin) := goodIn_app (goodIn_of _ (by decide +kernel)) ggX6_part_X6_isWithin
theorem dX6_part_0 : decode cX6_part 0 = .ok (.aload_n 0, 1) := by decide +kernel
theorem dX6_part_1 : decode cX6_part 1 = .ok (.iconst 0, 1) := by decide +kernel
theorem dX6_part_2 : decode cX6_part 2 = .ok (.putfield 73, 3) := by decide +kernel
theorem dX6_part_5 : decode cX6_part 5 = .ok (.aload_n 0, 1) := by decide +kernel
theorem dX6_part_6 : decode cX6_part 6 = .ok (.iload_n 1, 1) := by decide +kernel
theorem dX6_part_7 : decode cX6_part 7 = .ok (.invokevirtual 83, 3) := by decide +kernel
theorem dX6_part_10 : decode cX6_part 10 = .ok (.ifCond .eq 11, 3) := by decide +kernel
theorem dX6_part_13 : decode cX6_part 13 = .ok (.aload_n 0, 1) := by decide +kernel
theorem dX6_part_14 : decode cX6_part 14 = .ok (.iload_n 2, 1) := by decide +kernel
theorem dX6_part_15 : decode cX6_part 15 = .ok (.invokevirtual 83, 3) := by decide +kernel
theorem dX6_part_18 : decode cX6_part 18 = .ok (.ifCond .ne 5, 3) := by decide +kernel
theorem dX6_part_21 : decode cX6_part 21 = .ok (.iconst (-1), 1) := by decide +kernel
theorem dX6_part_22 : decode cX6_part 22 = .ok (.ireturn, 1) := by decide +kernel
theorem dX6_part_23 : decode cX6_part 23 = .ok (.iload_n 3, 1) := by decide +kernel
theorem dX6_part_24 : decode cX6_part 24 = .ok (.iconst 0, 1) := by decide +kernel
theorem dX6_part_25 : decode cX6_part 25 = .ok (.bipush 9, 2) := by decide +kernel
theorem dX6_part_27 : decode cX6_part 27 = .ok (.invokestatic 79, 3) := by decide +kernel
theorem dX6_part_30 : decode cX6_part 30 = .ok (.ifCond .ne 6, 3) := by decide +kernel
theorem dX6_part_33 : decode cX6_part 33 = .ok (.bipush (-2), 2) := by decide +kernel
theorem dX6_part_35 : decode cX6_part 35 = .ok (.ireturn, 1) := by decide +kernel
theorem dX6_part_36 : decode cX6_part 36 = .ok (.iload_n 3, 1) := by decide +kernel
theorem dX6_part_37 : decode cX6_part 37 = .ok (.ifCond .le 15, 3) := by decide +kernel
theorem dX6_part_40 : decode cX6_part 40 = .ok (.aload_n 0, 1) := by decide +kernel
theorem dX6_part_41 : decode cX6_part 41 = .ok (.iload_n 2, 1) := by decide +kernel
theorem dX6_part_42 : decode cX6_part 42 = .ok (.iload_n 1, 1) := by decide +kernel
theorem dX6_part_43 : decode cX6_part 43 = .ok (.invokevirtual 94, 3) := by decide +kernel
theorem dX6_part_46 : decode cX6_part 46 = .ok (.ifCond .eq 6, 3) := by decide +kernel
theorem dX6_part_49 : decode cX6_part 49 = .ok (.bipush (-3), 2) := by decide +kernel
theorem dX6_part_51 : decode cX6_part 51 = .ok (.ireturn, 1) := by decide +kernel
theorem dX6_part_52 : decode cX6_part 52 = .ok (.aload_n 0, 1) := by decide +kernel
theorem dX6_part_53 : decode cX6_part 53 = .ok (.getfield 19, 3) := by decide +kernel
theorem dX6_part_56 : decode cX6_part 56 = .ok (.bipush 6, 2) := by decide +kernel
theorem dX6_part_58 : decode cX6_part 58 = .ok (.iload_n 1, 1) := by decide +kernel
theorem dX6_part_59 : decode cX6_part 59 = .ok (.imul, 1) := by decide +kernel
theorem dX6_part_60 : decode cX6_part 60 = .ok (.iload_n 2, 1) := by decide +kernel
theorem dX6_part_61 : decode cX6_part 61 = .ok (.iadd, 1) := by decide +kernel
theorem dX6_part_62 : decode cX6_part 62 = .ok (.iaload, 1) := by decide +kernel
theorem dX6_part_63 : decode cX6_part 63 = .ok (.istore 4, 2) := by decide +kernel
theorem dX6_part_65 : decode cX6_part 65 = .ok (.aload_n 0, 1) := by decide +kernel
theorem dX6_part_66 : decode cX6_part 66 = .ok (.getfield 19, 3) := by decide +kernel
theorem dX6_part_69 : decode cX6_part 69 = .ok (.bipush 6, 2) := by decide +kernel
theorem dX6_part_71 : decode cX6_part 71 = .ok (.iload_n 1, 1) := by decide +kernel
theorem dX6_part_72 : decode cX6_part 72 = .ok (.imul, 1) := by decide +kernel
theorem dX6_part_73 : decode cX6_part 73 = .ok (.iload_n 2, 1) := by decide +kernel
theorem dX6_part_74 : decode cX6_part 74 = .ok (.iadd, 1) := by decide +kernel
theorem dX6_part_75 : decode cX6_part 75 = .ok (.iload_n 3, 1) := by decide +kernel
theorem dX6_part_76 : decode cX6_part 76 = .ok (.iastore, 1) := by decide +kernel
theorem dX6_part_77 : decode cX6_part 77 = .ok (.iload 4, 2) := by decide +kernel
theorem dX6_part_79 : decode cX6_part 79 = .ok (.ireturn, 1) := by decide +kernel
set_option maxRecDepth 20000 in
theorem ggX6_make_X6_isItem : GoodIn wsX6_make wsX6_isItem := goodIn_r _ [7, 8, 9, 10, 6, 11, 17, 18, 19, 20, 21, 22, 23, 24, 25, 26, 27, 28, 29, 30, 31, 32, 33, 34, 35, 36, 37, 38, 39, 40, 41] (by decide +kernel) (by decide +kernel)
set_option maxRecDepth 20000 in
theorem gX6_make_X6_isItem : GoodIn wsX6_make (wsV RX6 83 RX6 yX6_isItem wsX6_isItem) := goodIn_app (goodIn_of _ (by decide +kernel)) ggX6_make_X6_isItem
set_option maxRecDepth 20000 in
theorem ggX6_make_X6_isPeriod : GoodIn wsX6_make wsX6_isPeriod := goodIn_r _ [15, 16, 9, 10, 6, 11, 17, 18, 19, 20, 21, 22, 23, 24, 25, 26, 27, 28, 29, 30, 31, 32, 33, 34, 35, 36, 37, 38, 39, 40, 41] (by decide +kernel) (by decide +kernel)
set_option maxRecDepth 20000 in
theorem gX6_make_X6_isPeriod : GoodIn wsX6_make (wsV RX6 91 RX6 yX6_isPeriod wsX6_isPeriod) := goodIn_app (goodIn_of _ (by decide +kernel)) ggX6_make_X6_isPeriod
set_option maxRecDepth 20000 in
theorem ggX6_make_X6_in : GoodIn wsX6_make wsX6_in := goodIn_r _ [11] (by decide +kernel) (by decide +kernel)
set_option maxRecDepth 20000 in
theorem gX6_make_X6_in : GoodIn wsX6_make (va_wsS RX6 79 yX6_in wsX6_in) := goodIn_app (goodIn_of _ (by decide +kernel)) ggX6_make_X6_in
theorem dX6_make_0 : decode cX6_make 0 = .ok (.aload_n 0, 1) := by decide +kernel
theorem dX6_make_1 : decode cX6_make 1 = .ok (.iconst 0, 1) := by decide +kernel
theorem dX6_make_2 : decode cX6_make 2 = .ok (.putfield 73, 3) := by decide +kernel
theorem dX6_make_5 : decode cX6_make 5 = .ok (.aload_n 0, 1) := by decide +kernel
theorem dX6_make_6 : decode cX6_make 6 = .ok (.iload_n 1, 1) := by decide +kernel
theorem dX6_make_7 : decode cX6_make 7 = .ok (.invokevirtual 83, 3) := by decide +kernel
theorem dX6_make_10 : decode cX6_make 10 = .ok (.ifCond .eq 11, 3) := by decide +kernel
theorem dX6_make_13 : decode cX6_make 13 = .ok (.aload_n 0, 1) := by decide +kernel
theorem dX6_make_14 : decode cX6_make 14 = .ok (.iload_n 2, 1) := by decide +kernel
theorem dX6_make_15 : decode cX6_make 15 = .ok (.invokevirtual 91, 3) := by decide +kernel
theorem dX6_make_18 : decode cX6_make 18 = .ok (.ifCond .ne 5, 3) := by decide +kernel
theorem dX6_make_21 : decode cX6_make 21 = .ok (.iconst (-1), 1) := by decide +kernel
theorem dX6_make_22 : decode cX6_make 22 = .ok (.ireturn, 1) := by decide +kernel
theorem dX6_make_23 : decode cX6_make 23 = .ok (.iload_n 3, 1) := by decide +kernel
theorem dX6_make_24 : decode cX6_make 24 = .ok (.iconst 0, 1) := by decide +kernel
theorem dX6_make_25 : decode cX6_make 25 = .ok (.sipush 5000, 3) := by decide +kernel
theorem dX6_make_28 : decode cX6_make 28 = .ok (.invokestatic 79, 3) := by decide +kernel
theorem dX6_make_31 : decode cX6_make 31 = .ok (.ifCond .ne 6, 3) := by decide +kernel
theorem dX6_make_34 : decode cX6_make 34 = .ok (.bipush (-2), 2) := by decide +kernel
theorem dX6_make_36 : decode cX6_make 36 = .ok (.ireturn, 1) := by decide +kernel
theorem dX6_make_37 : decode cX6_make 37 = .ok (.aload_n 0, 1) := by decide +kernel
theorem dX6_make_38 : decode cX6_make 38 = .ok (.getfield 16, 3) := by decide +kernel
theorem dX6_make_41 : decode cX6_make 41 = .ok (.bipush 13, 2) := by decide +kernel
theorem dX6_make_43 : decode cX6_make 43 = .ok (.iload_n 1, 1) := by decide +kernel
theorem dX6_make_44 : decode cX6_make 44 = .ok (.imul, 1) := by decide +kernel
theorem dX6_make_45 : decode cX6_make 45 = .ok (.iload_n 2, 1) := by decide +kernel
theorem dX6_make_46 : decode cX6_make 46 = .ok (.iadd, 1) := by decide +kernel
theorem dX6_make_47 : decode cX6_make 47 = .ok (.iaload, 1) := by decide +kernel
theorem dX6_make_48 : decode cX6_make 48 = .ok (.istore 4, 2) := by decide +kernel
theorem dX6_make_50 : decode cX6_make 50 = .ok (.aload_n 0, 1) := by decide +kernel
theorem dX6_make_51 : decode cX6_make 51 = .ok (.getfield 16, 3) := by decide +kernel
theorem dX6_make_54 : decode cX6_make 54 = .ok (.bipush 13, 2) := by decide +kernel
theorem dX6_make_56 : decode cX6_make 56 = .ok (.iload_n 1, 1) := by decide +kernel
theorem dX6_make_57 : decode cX6_make 57 = .ok (.imul, 1) := by decide +kernel
theorem dX6_make_58 : decode cX6_make 58 = .ok (.iload_n 2, 1) := by decide +kernel
theorem dX6_make_59 : decode cX6_make 59 = .ok (.iadd, 1) := by decide +kernel
theorem dX6_make_60 : decode cX6_make 60 = .ok (.iload_n 3, 1) := by decide +kernel
theorem dX6_make_61 : decode cX6_make 61 = .ok (.iastore, 1) := by decide +kernel
theorem dX6_make_62 : decode cX6_make 62 = .ok (.iload 4, 2) := by decide +kernel
theorem dX6_make_64 : decode cX6_make 64 = .ok (.ireturn, 1) := by decide +kernel
set_option maxRecDepth 20000 in
theorem ggX6_capacity_X6_isPeriod : GoodIn wsX6_capacity wsX6_isPeriod := goodIn_r _ [7, 8, 9, 10, 6, 11, 12, 13, 14, 15, 16, 17, 18, 19, 20, 21, 22, 23, 24, 25, 26, 27, 28, 29, 30, 31, 32, 33, 34, 35, 36] (by decide +kernel) (by decide +kernel)
set_option maxRecDepth 20000 in
theorem gX6_capacity_X6_isPeriod : GoodIn wsX6_capacity (wsV RX6 91 RX6 yX6_isPeriod wsX6_isPeriod) := goodIn_app (goodIn_of _ (by decide +kernel)) ggX6_capacity_X6_isPeriod
set_option maxRecDepth 20000 in
theorem ggX6_capacity_X6_in : GoodIn wsX6_capacity wsX6_in := goodIn_r _ [11] (by decide +kernel) (by decide +kernel)
set_option maxRecDepth 20000 in
theorem gX6_capacity_X6_in : GoodIn wsX6_capacity (va_wsS RX6 79 yX6_in wsX6_in) := goodIn_app (goodIn_of _ (by decide +kernel)) ggX6_capacity_X6_in
theorem dX6_capacity_0 : decode cX6_capacity 0 = .ok (.aload_n 0, 1) := by decide +kernel
theorem dX6_capacity_1 : decode cX6_capacity 1 = .ok (.iconst 0, 1) := by decide +kernel
theorem dX6_capacity_2 : decode cX6_capacity 2 = .ok (.putfield 73, 3) := by decide +kernel
theorem dX6_capacity_5 : decode cX6_capacity 5 = .ok (.aload_n 0, 1) := by decide +kernel
theorem dX6_capacity_6 : decode cX6_capacity 6 = .ok (.iload_n 1, 1) := by decide +kernel
theorem dX6_capacity_7 : decode cX6_capacity 7 = .ok (.invokevirtual 91, 3) := by decide +kernel
theorem dX6_capacity_10 : decode cX6_capacity 10 = .ok (.ifCond .ne 5, 3) := by decide +kernel
theorem dX6_capacity_13 : decode cX6_capacity 13 = .ok (.iconst (-1), 1) := by decide +kernel
theorem dX6_capacity_14 : decode cX6_capacity 14 = .ok (.ireturn, 1) := by decide +kernel
theorem dX6_capacity_15 : decode cX6_capacity 15 = .ok (.iload_n 2, 1) := by decide +kernel
theorem dX6_capacity_16 : decode cX6_capacity 16 = .ok (.iconst 0, 1) := by decide +kernel
theorem dX6_capacity_17 : decode cX6_capacity 17 = .ok (.sipush 10000, 3) := by decide +kernel
theorem dX6_capacity_20 : decode cX6_capacity 20 = .ok (.invokestatic 79, 3) := by decide +kernel
theorem dX6_capacity_23 : decode cX6_capacity 23 = .ok (.ifCond .ne 6, 3) := by decide +kernel
theorem dX6_capacity_26 : decode cX6_capacity 26 = .ok (.bipush (-2), 2) := by decide +kernel
theorem dX6_capacity_28 : decode cX6_capacity 28 = .ok (.ireturn, 1) := by decide +kernel
theorem dX6_capacity_29 : decode cX6_capacity 29 = .ok (.aload_n 0, 1) := by decide +kernel
theorem dX6_capacity_30 : decode cX6_capacity 30 = .ok (.getfield 22, 3) := by decide +kernel
theorem dX6_capacity_33 : decode cX6_capacity 33 = .ok (.iload_n 1, 1) := by decide +kernel
theorem dX6_capacity_34 : decode cX6_capacity 34 = .ok (.iaload, 1) := by decide +kernel
theorem dX6_capacity_35 : decode cX6_capacity 35 = .ok (.istore_n 3, 1) := by decide +kernel
theorem dX6_capacity_36 : decode cX6_capacity 36 = .ok (.aload_n 0, 1) := by decide +kernel
theorem dX6_capacity_37 : decode cX6_capacity 37 = .ok (.getfield 22, 3) := by decide +kernel
theorem dX6_capacity_40 : decode cX6_capacity 40 = .ok (.iload_n 1, 1) := by decide +kernel
theorem dX6_capacity_41 : decode cX6_capacity 41 = .ok (.iload_n 2, 1) := by decide +kernel
theorem dX6_capacity_42 : decode cX6_capacity 42 = .ok (.iastore, 1) := by decide +kernel
theorem dX6_capacity_43 : decode cX6_capacity 43 = .ok (.iload_n 3, 1) := by decide +kernel
theorem dX6_capacity_44 : decode cX6_capacity 44 = .ok (.ireturn, 1) := by decide +kernel
set_option maxRecDepth 20000 in
theorem ggX6_over_X6_in : GoodIn wsX6_over wsX6_in := goodIn_r _ [7] (by decide +kernel) (by decide +kernel)
set_option maxRecDepth 20000 in
theorem gX6_over_X6_in : GoodIn wsX6_over (va_wsS RX6 79 yX6_in wsX6_in) := goodIn_app (goodIn_of _ (by decide +kernel)) ggX6_over_X6_in
theorem dX6_over_0 : decode cX6_over 0 = .ok (.aload_n 0, 1) := by decide +kernel
theorem dX6_over_1 : decode cX6_over 1 = .ok (.iconst 0, 1) := by decide +kernel
theorem dX6_over_2 : decode cX6_over 2 = .ok (.putfield 73, 3) := by decide +kernel
theorem dX6_over_5 : decode cX6_over 5 = .ok (.iload_n 1, 1) := by decide +kernel
theorem dX6_over_6 : decode cX6_over 6 = .ok (.iconst 0, 1) := by decide +kernel
theorem dX6_over_7 : decode cX6_over 7 = .ok (.iconst 1, 1) := by decide +kernel
theorem dX6_over_8 : decode cX6_over 8 = .ok (.invokestatic 79, 3) := by decide +kernel
theorem dX6_over_11 : decode cX6_over 11 = .ok (.ifCond .eq 23, 3) := by decide +kernel
theorem dX6_over_14 : decode cX6_over 14 = .ok (.iload_n 2, 1) := by decide +kernel
theorem dX6_over_15 : decode cX6_over 15 = .ok (.iconst 0, 1) := by decide +kernel
theorem dX6_over_16 : decode cX6_over 16 = .ok (.iload_n 1, 1) := by decide +kernel
theorem dX6_over_17 : decode cX6_over 17 = .ok (.ifCond .ne 8, 3) := by decide +kernel
theorem dX6_over_20 : decode cX6_over 20 = .ok (.bipush 100, 2) := by decide +kernel
theorem dX6_over_22 : decode cX6_over 22 = .ok (.goto 6, 3) := by decide +kernel
theorem dX6_over_25 : decode cX6_over 25 = .ok (.sipush 10000, 3) := by decide +kernel
theorem dX6_over_28 : decode cX6_over 28 = .ok (.invokestatic 79, 3) := by decide +kernel
theorem dX6_over_31 : decode cX6_over 31 = .ok (.ifCond .ne 6, 3) := by decide +kernel
theorem dX6_over_34 : decode cX6_over 34 = .ok (.bipush (-2), 2) := by decide +kernel
theorem dX6_over_36 : decode cX6_over 36 = .ok (.ireturn, 1) := by decide +kernel
theorem dX6_over_37 : decode cX6_over 37 = .ok (.iload_n 1, 1) := by decide +kernel
theorem dX6_over_38 : decode cX6_over 38 = .ok (.ifCond .ne 10, 3) := by decide +kernel
theorem dX6_over_41 : decode cX6_over 41 = .ok (.aload_n 0, 1) := by decide +kernel
theorem dX6_over_42 : decode cX6_over 42 = .ok (.getfield 98, 3) := by decide +kernel
theorem dX6_over_45 : decode cX6_over 45 = .ok (.goto 7, 3) := by decide +kernel
theorem dX6_over_48 : decode cX6_over 48 = .ok (.aload_n 0, 1) := by decide +kernel
theorem dX6_over_49 : decode cX6_over 49 = .ok (.getfield 101, 3) := by decide +kernel
theorem dX6_over_52 : decode cX6_over 52 = .ok (.istore_n 3, 1) := by decide +kernel
theorem dX6_over_53 : decode cX6_over 53 = .ok (.aload_n 0, 1) := by decide +kernel
theorem dX6_over_54 : decode cX6_over 54 = .ok (.iload_n 1, 1) := by decide +kernel
theorem dX6_over_55 : decode cX6_over 55 = .ok (.ifCond .ne 7, 3) := by decide +kernel
theorem dX6_over_58 : decode cX6_over 58 = .ok (.iload_n 2, 1) := by decide +kernel
theorem dX6_over_59 : decode cX6_over 59 = .ok (.goto 7, 3) := by decide +kernel
theorem dX6_over_62 : decode cX6_over 62 = .ok (.aload_n 0, 1) := by decide +kernel
theorem dX6_over_63 : decode cX6_over 63 = .ok (.getfield 98, 3) := by decide +kernel
theorem dX6_over_66 : decode cX6_over 66 = .ok (.putfield 98, 3) := by decide +kernel
theorem dX6_over_69 : decode cX6_over 69 = .ok (.aload_n 0, 1) := by decide +kernel
theorem dX6_over_70 : decode cX6_over 70 = .ok (.iload_n 1, 1) := by decide +kernel
theorem dX6_over_71 : decode cX6_over 71 = .ok (.iconst 1, 1) := by decide +kernel
theorem dX6_over_72 : decode cX6_over 72 = .ok (.if_icmp .ne 7, 3) := by decide +kernel
theorem dX6_over_75 : decode cX6_over 75 = .ok (.iload_n 2, 1) := by decide +kernel
theorem dX6_over_76 : decode cX6_over 76 = .ok (.goto 7, 3) := by decide +kernel
theorem dX6_over_79 : decode cX6_over 79 = .ok (.aload_n 0, 1) := by decide +kernel
theorem dX6_over_80 : decode cX6_over 80 = .ok (.getfield 101, 3) := by decide +kernel
theorem dX6_over_83 : decode cX6_over 83 = .ok (.putfield 101, 3) := by decide +kernel
theorem dX6_over_86 : decode cX6_over 86 = .ok (.iload_n 3, 1) := by decide +kernel
theorem dX6_over_87 : decode cX6_over 87 = .ok (.ireturn, 1) := by decide +kernel
theorem dX6_grossOf_0 : decode cX6_grossOf 0 = .ok (.aload_n 0, 1) := by decide +kernel
theorem dX6_grossOf_1 : decode cX6_grossOf 1 = .ok (.getfield 13, 3) := by decide +kernel
theorem dX6_grossOf_4 : decode cX6_grossOf 4 = .ok (.bipush 13, 2) := by decide +kernel
theorem dX6_grossOf_6 : decode cX6_grossOf 6 = .ok (.iload_n 1, 1) := by decide +kernel
theorem dX6_grossOf_7 : decode cX6_grossOf 7 = .ok (.imul, 1) := by decide +kernel
theorem dX6_grossOf_8 : decode cX6_grossOf 8 = .ok (.iload_n 2, 1) := by decide +kernel
theorem dX6_grossOf_9 : decode cX6_grossOf 9 = .ok (.iadd, 1) := by decide +kernel
theorem dX6_grossOf_10 : decode cX6_grossOf 10 = .ok (.iaload, 1) := by decide +kernel
theorem dX6_grossOf_11 : decode cX6_grossOf 11 = .ok (.istore_n 3, 1) := by decide +kernel
theorem dX6_grossOf_12 : decode cX6_grossOf 12 = .ok (.iconst 0, 1) := by decide +kernel
theorem dX6_grossOf_13 : decode cX6_grossOf 13 = .ok (.istore 4, 2) := by decide +kernel
theorem dX6_grossOf_15 : decode cX6_grossOf 15 = .ok (.iload 4, 2) := by decide +kernel
theorem dX6_grossOf_17 : decode cX6_grossOf 17 = .ok (.aload_n 0, 1) := by decide +kernel
theorem dX6_grossOf_18 : decode cX6_grossOf 18 = .ok (.getfield 76, 3) := by decide +kernel
theorem dX6_grossOf_21 : decode cX6_grossOf 21 = .ok (.if_icmp .ge 37, 3) := by decide +kernel
theorem dX6_grossOf_24 : decode cX6_grossOf 24 = .ok (.iload_n 3, 1) := by decide +kernel
theorem dX6_grossOf_25 : decode cX6_grossOf 25 = .ok (.aload_n 0, 1) := by decide +kernel
theorem dX6_grossOf_26 : decode cX6_grossOf 26 = .ok (.getfield 19, 3) := by decide +kernel
theorem dX6_grossOf_29 : decode cX6_grossOf 29 = .ok (.bipush 6, 2) := by decide +kernel
theorem dX6_grossOf_31 : decode cX6_grossOf 31 = .ok (.iload_n 1, 1) := by decide +kernel
theorem dX6_grossOf_32 : decode cX6_grossOf 32 = .ok (.imul, 1) := by decide +kernel
theorem dX6_grossOf_33 : decode cX6_grossOf 33 = .ok (.iload 4, 2) := by decide +kernel
theorem dX6_grossOf_35 : decode cX6_grossOf 35 = .ok (.iadd, 1) := by decide +kernel
theorem dX6_grossOf_36 : decode cX6_grossOf 36 = .ok (.iaload, 1) := by decide +kernel
theorem dX6_grossOf_37 : decode cX6_grossOf 37 = .ok (.aload_n 0, 1) := by decide +kernel
theorem dX6_grossOf_38 : decode cX6_grossOf 38 = .ok (.getfield 16, 3) := by decide +kernel
theorem dX6_grossOf_41 : decode cX6_grossOf 41 = .ok (.bipush 13, 2) := by decide +kernel
theorem dX6_grossOf_43 : decode cX6_grossOf 43 = .ok (.iload 4, 2) := by decide +kernel
theorem dX6_grossOf_45 : decode cX6_grossOf 45 = .ok (.imul, 1) := by decide +kernel
theorem dX6_grossOf_46 : decode cX6_grossOf 46 = .ok (.iload_n 2, 1) := by decide +kernel
theorem dX6_grossOf_47 : decode cX6_grossOf 47 = .ok (.iadd, 1) := by decide +kernel
theorem dX6_grossOf_48 : decode cX6_grossOf 48 = .ok (.iaload, 1) := by decide +kernel
theorem dX6_grossOf_49 : decode cX6_grossOf 49 = .ok (.imul, 1) := by decide +kernel
theorem dX6_grossOf_50 : decode cX6_grossOf 50 = .ok (.iadd, 1) := by decide +kernel
theorem dX6_grossOf_51 : decode cX6_grossOf 51 = .ok (.istore_n 3, 1) := by decide +kernel
theorem dX6_grossOf_52 : decode cX6_grossOf 52 = .ok (.iinc 4 1, 3) := by decide +kernel
theorem dX6_grossOf_55 : decode cX6_grossOf 55 = .ok (.goto (-40), 3) := by decide +kernel
theorem dX6_grossOf_58 : decode cX6_grossOf 58 = .ok (.iload_n 3, 1) := by decide +kernel
theorem dX6_grossOf_59 : decode cX6_grossOf 59 = .ok (.ireturn, 1) := by decide +kernel
set_option maxRecDepth 20000 in
theorem ggX6_gross_X6_isItem : GoodIn wsX6_gross wsX6_isItem := goodIn_r _ [6, 7, 8, 9, 5, 10, 23, 24, 25, 26, 27, 28, 29, 30, 31, 32, 33, 34, 35, 36, 37, 38, 39, 40, 41, 42, 43, 44, 45, 46, 47] (by decide +kernel) (by decide +kernel)
set_option maxRecDepth 20000 in
theorem gX6_gross_X6_isItem : GoodIn wsX6_gross (wsV RX6 83 RX6 yX6_isItem wsX6_isItem) := goodIn_app (goodIn_of _ (by decide +kernel)) ggX6_gross_X6_isItem
set_option maxRecDepth 20000 in
theorem ggX6_gross_X6_isPeriod : GoodIn wsX6_gross wsX6_isPeriod := goodIn_r _ [14, 15, 8, 9, 5, 10, 23, 24, 25, 26, 27, 28, 29, 30, 31, 32, 33, 34, 35, 36, 37, 38, 39, 40, 41, 42, 43, 44, 45, 46, 47] (by decide +kernel) (by decide +kernel)
set_option maxRecDepth 20000 in
theorem gX6_gross_X6_isPeriod : GoodIn wsX6_gross (wsV RX6 91 RX6 yX6_isPeriod wsX6_isPeriod) := goodIn_app (goodIn_of _ (by decide +kernel)) ggX6_gross_X6_isPeriod
set_option maxRecDepth 20000 in
theorem ggX6_gross_X6_grossOf : GoodIn wsX6_gross wsX6_grossOf := goodIn_r _ [19, 20, 7, 21, 22, 23, 24, 25, 26, 27, 28, 29, 30, 31, 32, 33, 34, 35, 36, 37, 38, 39, 40, 41, 42, 43, 44, 45, 46, 47] (by decide +kernel) (by decide +kernel)
set_option maxRecDepth 20000 in
theorem gX6_gross_X6_grossOf : GoodIn wsX6_gross (wsV RX6 104 RX6 yX6_grossOf wsX6_grossOf) := goodIn_app (goodIn_of _ (by decide +kernel)) ggX6_gross_X6_grossOf
theorem dX6_gross_0 : decode cX6_gross 0 = .ok (.aload_n 0, 1) := by decide +kernel
theorem dX6_gross_1 : decode cX6_gross 1 = .ok (.iconst 0, 1) := by decide +kernel
theorem dX6_gross_2 : decode cX6_gross 2 = .ok (.putfield 73, 3) := by decide +kernel
theorem dX6_gross_5 : decode cX6_gross 5 = .ok (.aload_n 0, 1) := by decide +kernel
theorem dX6_gross_6 : decode cX6_gross 6 = .ok (.iload_n 1, 1) := by decide +kernel
theorem dX6_gross_7 : decode cX6_gross 7 = .ok (.invokevirtual 83, 3) := by decide +kernel
theorem dX6_gross_10 : decode cX6_gross 10 = .ok (.ifCond .eq 20, 3) := by decide +kernel
theorem dX6_gross_13 : decode cX6_gross 13 = .ok (.aload_n 0, 1) := by decide +kernel
theorem dX6_gross_14 : decode cX6_gross 14 = .ok (.iload_n 2, 1) := by decide +kernel
theorem dX6_gross_15 : decode cX6_gross 15 = .ok (.invokevirtual 91, 3) := by decide +kernel
theorem dX6_gross_18 : decode cX6_gross 18 = .ok (.ifCond .eq 12, 3) := by decide +kernel
theorem dX6_gross_21 : decode cX6_gross 21 = .ok (.aload_n 0, 1) := by decide +kernel
theorem dX6_gross_22 : decode cX6_gross 22 = .ok (.iload_n 1, 1) := by decide +kernel
theorem dX6_gross_23 : decode cX6_gross 23 = .ok (.iload_n 2, 1) := by decide +kernel
theorem dX6_gross_24 : decode cX6_gross 24 = .ok (.invokevirtual 104, 3) := by decide +kernel
theorem dX6_gross_27 : decode cX6_gross 27 = .ok (.goto 4, 3) := by decide +kernel
theorem dX6_gross_30 : decode cX6_gross 30 = .ok (.iconst (-1), 1) := by decide +kernel
theorem dX6_gross_31 : decode cX6_gross 31 = .ok (.ireturn, 1) := by decide +kernel
set_option maxRecDepth 20000 in
theorem ggX6_run_X6_grossOf : GoodIn wsX6_run wsX6_grossOf := goodIn_r _ [12, 13, 14, 15, 7, 16, 17, 18, 19, 20, 21, 22, 23, 24, 25, 26, 27, 28, 29, 30, 31, 32, 33, 34, 35, 36, 37, 38, 39, 40] (by decide +kernel) (by decide +kernel)
set_option maxRecDepth 20000 in
theorem gX6_run_X6_grossOf : GoodIn wsX6_run (wsV RX6 104 RX6 yX6_grossOf wsX6_grossOf) := goodIn_app (goodIn_of _ (by decide +kernel)) ggX6_run_X6_grossOf
theorem dX6_run_0 : decode cX6_run 0 = .ok (.aload_n 0, 1) := by decide +kernel
theorem dX6_run_1 : decode cX6_run 1 = .ok (.getfield 7, 3) := by decide +kernel
theorem dX6_run_4 : decode cX6_run 4 = .ok (.bipush 8, 2) := by decide +kernel
theorem dX6_run_6 : decode cX6_run 6 = .ok (.iload_n 1, 1) := by decide +kernel
theorem dX6_run_7 : decode cX6_run 7 = .ok (.imul, 1) := by decide +kernel
theorem dX6_run_8 : decode cX6_run 8 = .ok (.iconst 3, 1) := by decide +kernel
theorem dX6_run_9 : decode cX6_run 9 = .ok (.iadd, 1) := by decide +kernel
theorem dX6_run_10 : decode cX6_run 10 = .ok (.iaload, 1) := by decide +kernel
theorem dX6_run_11 : decode cX6_run 11 = .ok (.istore_n 2, 1) := by decide +kernel
theorem dX6_run_12 : decode cX6_run 12 = .ok (.aload_n 0, 1) := by decide +kernel
theorem dX6_run_13 : decode cX6_run 13 = .ok (.getfield 7, 3) := by decide +kernel
theorem dX6_run_16 : decode cX6_run 16 = .ok (.bipush 8, 2) := by decide +kernel
theorem dX6_run_18 : decode cX6_run 18 = .ok (.iload_n 1, 1) := by decide +kernel
theorem dX6_run_19 : decode cX6_run 19 = .ok (.imul, 1) := by decide +kernel
theorem dX6_run_20 : decode cX6_run 20 = .ok (.bipush 7, 2) := by decide +kernel
theorem dX6_run_22 : decode cX6_run 22 = .ok (.iadd, 1) := by decide +kernel
theorem dX6_run_23 : decode cX6_run 23 = .ok (.iaload, 1) := by decide +kernel
theorem dX6_run_24 : decode cX6_run 24 = .ok (.istore_n 3, 1) := by decide +kernel
theorem dX6_run_25 : decode cX6_run 25 = .ok (.iconst 0, 1) := by decide +kernel
theorem dX6_run_26 : decode cX6_run 26 = .ok (.istore 4, 2) := by decide +kernel
theorem dX6_run_28 : decode cX6_run 28 = .ok (.iload 4, 2) := by decide +kernel
theorem dX6_run_30 : decode cX6_run 30 = .ok (.bipush 13, 2) := by decide +kernel
theorem dX6_run_32 : decode cX6_run 32 = .ok (.if_icmp .ge 41, 3) := by decide +kernel
theorem dX6_run_35 : decode cX6_run 35 = .ok (.aload_n 0, 1) := by decide +kernel
theorem dX6_run_36 : decode cX6_run 36 = .ok (.getfield 29, 3) := by decide +kernel
theorem dX6_run_39 : decode cX6_run 39 = .ok (.iload 4, 2) := by decide +kernel
theorem dX6_run_41 : decode cX6_run 41 = .ok (.lconst 0, 1) := by decide +kernel
theorem dX6_run_42 : decode cX6_run 42 = .ok (.lastore, 1) := by decide +kernel
theorem dX6_run_43 : decode cX6_run 43 = .ok (.aload_n 0, 1) := by decide +kernel
theorem dX6_run_44 : decode cX6_run 44 = .ok (.getfield 33, 3) := by decide +kernel
theorem dX6_run_47 : decode cX6_run 47 = .ok (.iload 4, 2) := by decide +kernel
theorem dX6_run_49 : decode cX6_run 49 = .ok (.lconst 0, 1) := by decide +kernel
theorem dX6_run_50 : decode cX6_run 50 = .ok (.lastore, 1) := by decide +kernel
theorem dX6_run_51 : decode cX6_run 51 = .ok (.aload_n 0, 1) := by decide +kernel
theorem dX6_run_52 : decode cX6_run 52 = .ok (.getfield 36, 3) := by decide +kernel
theorem dX6_run_55 : decode cX6_run 55 = .ok (.iload 4, 2) := by decide +kernel
theorem dX6_run_57 : decode cX6_run 57 = .ok (.lconst 0, 1) := by decide +kernel
theorem dX6_run_58 : decode cX6_run 58 = .ok (.lastore, 1) := by decide +kernel
theorem dX6_run_59 : decode cX6_run 59 = .ok (.aload_n 0, 1) := by decide +kernel
theorem dX6_run_60 : decode cX6_run 60 = .ok (.getfield 39, 3) := by decide +kernel
theorem dX6_run_63 : decode cX6_run 63 = .ok (.iload 4, 2) := by decide +kernel
theorem dX6_run_65 : decode cX6_run 65 = .ok (.lconst 0, 1) := by decide +kernel
theorem dX6_run_66 : decode cX6_run 66 = .ok (.lastore, 1) := by decide +kernel
theorem dX6_run_67 : decode cX6_run 67 = .ok (.iinc 4 1, 3) := by decide +kernel
theorem dX6_run_70 : decode cX6_run 70 = .ok (.goto (-42), 3) := by decide +kernel
theorem dX6_run_73 : decode cX6_run 73 = .ok (.aload_n 0, 1) := by decide +kernel
theorem dX6_run_74 : decode cX6_run 74 = .ok (.getfield 29, 3) := by decide +kernel
theorem dX6_run_77 : decode cX6_run 77 = .ok (.iconst 0, 1) := by decide +kernel
theorem dX6_run_78 : decode cX6_run 78 = .ok (.aload_n 0, 1) := by decide +kernel
theorem dX6_run_79 : decode cX6_run 79 = .ok (.getfield 7, 3) := by decide +kernel
theorem dX6_run_82 : decode cX6_run 82 = .ok (.bipush 8, 2) := by decide +kernel
theorem dX6_run_84 : decode cX6_run 84 = .ok (.iload_n 1, 1) := by decide +kernel
theorem dX6_run_85 : decode cX6_run 85 = .ok (.imul, 1) := by decide +kernel
theorem dX6_run_86 : decode cX6_run 86 = .ok (.iconst 4, 1) := by decide +kernel
theorem dX6_run_87 : decode cX6_run 87 = .ok (.iadd, 1) := by decide +kernel
theorem dX6_run_88 : decode cX6_run 88 = .ok (.iaload, 1) := by decide +kernel
theorem dX6_run_89 : decode cX6_run 89 = .ok (.i2l, 1) := by decide +kernel
theorem dX6_run_90 : decode cX6_run 90 = .ok (.lastore, 1) := by decide +kernel
theorem dX6_run_91 : decode cX6_run 91 = .ok (.aload_n 0, 1) := by decide +kernel
theorem dX6_run_92 : decode cX6_run 92 = .ok (.getfield 39, 3) := by decide +kernel
theorem dX6_run_95 : decode cX6_run 95 = .ok (.iconst 0, 1) := by decide +kernel
theorem dX6_run_96 : decode cX6_run 96 = .ok (.aload_n 0, 1) := by decide +kernel
theorem dX6_run_97 : decode cX6_run 97 = .ok (.getfield 29, 3) := by decide +kernel
theorem dX6_run_100 : decode cX6_run 100 = .ok (.iconst 0, 1) := by decide +kernel
theorem dX6_run_101 : decode cX6_run 101 = .ok (.laload, 1) := by decide +kernel
theorem dX6_run_102 : decode cX6_run 102 = .ok (.lastore, 1) := by decide +kernel
theorem dX6_run_103 : decode cX6_run 103 = .ok (.lconst 0, 1) := by decide +kernel
theorem dX6_run_104 : decode cX6_run 104 = .ok (.lstore 4, 2) := by decide +kernel
theorem dX6_run_106 : decode cX6_run 106 = .ok (.iconst 1, 1) := by decide +kernel
theorem dX6_run_107 : decode cX6_run 107 = .ok (.istore 6, 2) := by decide +kernel
theorem dX6_run_109 : decode cX6_run 109 = .ok (.iload 6, 2) := by decide +kernel
theorem dX6_run_111 : decode cX6_run 111 = .ok (.aload_n 0, 1) := by decide +kernel
theorem dX6_run_112 : decode cX6_run 112 = .ok (.getfield 69, 3) := by decide +kernel
theorem dX6_run_115 : decode cX6_run 115 = .ok (.if_icmp .gt 197, 3) := by decide +kernel
theorem dX6_run_118 : decode cX6_run 118 = .ok (.iload 6, 2) := by decide +kernel
theorem dX6_run_120 : decode cX6_run 120 = .ok (.iload_n 3, 1) := by decide +kernel
theorem dX6_run_121 : decode cX6_run 121 = .ok (.isub, 1) := by decide +kernel
theorem dX6_run_122 : decode cX6_run 122 = .ok (.iconst 1, 1) := by decide +kernel
theorem dX6_run_123 : decode cX6_run 123 = .ok (.if_icmp .lt 25, 3) := by decide +kernel
theorem dX6_run_126 : decode cX6_run 126 = .ok (.aload_n 0, 1) := by decide +kernel
theorem dX6_run_127 : decode cX6_run 127 = .ok (.getfield 29, 3) := by decide +kernel
theorem dX6_run_130 : decode cX6_run 130 = .ok (.iload 6, 2) := by decide +kernel
theorem dX6_run_132 : decode cX6_run 132 = .ok (.aload_n 0, 1) := by decide +kernel
theorem dX6_run_133 : decode cX6_run 133 = .ok (.getfield 16, 3) := by decide +kernel
theorem dX6_run_136 : decode cX6_run 136 = .ok (.bipush 13, 2) := by decide +kernel
theorem dX6_run_138 : decode cX6_run 138 = .ok (.iload_n 1, 1) := by decide +kernel
theorem dX6_run_139 : decode cX6_run 139 = .ok (.imul, 1) := by decide +kernel
theorem dX6_run_140 : decode cX6_run 140 = .ok (.iload 6, 2) := by decide +kernel
theorem dX6_run_142 : decode cX6_run 142 = .ok (.iadd, 1) := by decide +kernel
theorem dX6_run_143 : decode cX6_run 143 = .ok (.iload_n 3, 1) := by decide +kernel
theorem dX6_run_144 : decode cX6_run 144 = .ok (.isub, 1) := by decide +kernel
theorem dX6_run_145 : decode cX6_run 145 = .ok (.iaload, 1) := by decide +kernel
theorem dX6_run_146 : decode cX6_run 146 = .ok (.i2l, 1) := by decide +kernel
theorem dX6_run_147 : decode cX6_run 147 = .ok (.lastore, 1) := by decide +kernel
theorem dX6_run_148 : decode cX6_run 148 = .ok (.lload 4, 2) := by decide +kernel
theorem dX6_run_150 : decode cX6_run 150 = .ok (.aload_n 0, 1) := by decide +kernel
theorem dX6_run_151 : decode cX6_run 151 = .ok (.iload_n 1, 1) := by decide +kernel
theorem dX6_run_152 : decode cX6_run 152 = .ok (.iload 6, 2) := by decide +kernel
theorem dX6_run_154 : decode cX6_run 154 = .ok (.invokevirtual 104, 3) := by decide +kernel
theorem dX6_run_157 : decode cX6_run 157 = .ok (.i2l, 1) := by decide +kernel
theorem dX6_run_158 : decode cX6_run 158 = .ok (.ladd, 1) := by decide +kernel
theorem dX6_run_159 : decode cX6_run 159 = .ok (.lstore 7, 2) := by decide +kernel
theorem dX6_run_161 : decode cX6_run 161 = .ok (.iconst 0, 1) := by decide +kernel
theorem dX6_run_162 : decode cX6_run 162 = .ok (.istore 9, 2) := by decide +kernel
theorem dX6_run_164 : decode cX6_run 164 = .ok (.iload 9, 2) := by decide +kernel
theorem dX6_run_166 : decode cX6_run 166 = .ok (.iload 6, 2) := by decide +kernel
theorem dX6_run_168 : decode cX6_run 168 = .ok (.if_icmp .gt 55, 3) := by decide +kernel
theorem dX6_run_171 : decode cX6_run 171 = .ok (.aload_n 0, 1) := by decide +kernel
theorem dX6_run_172 : decode cX6_run 172 = .ok (.getfield 29, 3) := by decide +kernel
theorem dX6_run_175 : decode cX6_run 175 = .ok (.iload 9, 2) := by decide +kernel
theorem dX6_run_177 : decode cX6_run 177 = .ok (.laload, 1) := by decide +kernel
theorem dX6_run_178 : decode cX6_run 178 = .ok (.lload 7, 2) := by decide +kernel
theorem dX6_run_180 : decode cX6_run 180 = .ok (.lcmp, 1) := by decide +kernel
theorem dX6_run_181 : decode cX6_run 181 = .ok (.ifCond .ge 13, 3) := by decide +kernel
theorem dX6_run_184 : decode cX6_run 184 = .ok (.aload_n 0, 1) := by decide +kernel
theorem dX6_run_185 : decode cX6_run 185 = .ok (.getfield 29, 3) := by decide +kernel
theorem dX6_run_188 : decode cX6_run 188 = .ok (.iload 9, 2) := by decide +kernel
theorem dX6_run_190 : decode cX6_run 190 = .ok (.laload, 1) := by decide +kernel
theorem dX6_run_191 : decode cX6_run 191 = .ok (.goto 5, 3) := by decide +kernel
theorem dX6_run_194 : decode cX6_run 194 = .ok (.lload 7, 2) := by decide +kernel
theorem dX6_run_196 : decode cX6_run 196 = .ok (.lstore 10, 2) := by decide +kernel
theorem dX6_run_198 : decode cX6_run 198 = .ok (.aload_n 0, 1) := by decide +kernel
theorem dX6_run_199 : decode cX6_run 199 = .ok (.getfield 29, 3) := by decide +kernel
theorem dX6_run_202 : decode cX6_run 202 = .ok (.iload 9, 2) := by decide +kernel
theorem dX6_run_204 : decode cX6_run 204 = .ok (.dup2, 1) := by decide +kernel
theorem dX6_run_205 : decode cX6_run 205 = .ok (.laload, 1) := by decide +kernel
theorem dX6_run_206 : decode cX6_run 206 = .ok (.lload 10, 2) := by decide +kernel
theorem dX6_run_208 : decode cX6_run 208 = .ok (.lsub, 1) := by decide +kernel
theorem dX6_run_209 : decode cX6_run 209 = .ok (.lastore, 1) := by decide +kernel
theorem dX6_run_210 : decode cX6_run 210 = .ok (.lload 7, 2) := by decide +kernel
theorem dX6_run_212 : decode cX6_run 212 = .ok (.lload 10, 2) := by decide +kernel
theorem dX6_run_214 : decode cX6_run 214 = .ok (.lsub, 1) := by decide +kernel
theorem dX6_run_215 : decode cX6_run 215 = .ok (.lstore 7, 2) := by decide +kernel
theorem dX6_run_217 : decode cX6_run 217 = .ok (.iinc 9 1, 3) := by decide +kernel
theorem dX6_run_220 : decode cX6_run 220 = .ok (.goto (-56), 3) := by decide +kernel
theorem dX6_run_223 : decode cX6_run 223 = .ok (.lload 7, 2) := by decide +kernel
theorem dX6_run_225 : decode cX6_run 225 = .ok (.lstore 4, 2) := by decide +kernel
theorem dX6_run_227 : decode cX6_run 227 = .ok (.aload_n 0, 1) := by decide +kernel
theorem dX6_run_228 : decode cX6_run 228 = .ok (.getfield 33, 3) := by decide +kernel
theorem dX6_run_231 : decode cX6_run 231 = .ok (.iload 6, 2) := by decide +kernel
theorem dX6_run_233 : decode cX6_run 233 = .ok (.lload 4, 2) := by decide +kernel
theorem dX6_run_235 : decode cX6_run 235 = .ok (.lastore, 1) := by decide +kernel
theorem dX6_run_236 : decode cX6_run 236 = .ok (.iload_n 2, 1) := by decide +kernel
theorem dX6_run_237 : decode cX6_run 237 = .ok (.ifCond .le 36, 3) := by decide +kernel
theorem dX6_run_240 : decode cX6_run 240 = .ok (.iload 6, 2) := by decide +kernel
theorem dX6_run_242 : decode cX6_run 242 = .ok (.iload_n 2, 1) := by decide +kernel
theorem dX6_run_243 : decode cX6_run 243 = .ok (.isub, 1) := by decide +kernel
theorem dX6_run_244 : decode cX6_run 244 = .ok (.ifCond .lt 29, 3) := by decide +kernel
theorem dX6_run_247 : decode cX6_run 247 = .ok (.aload_n 0, 1) := by decide +kernel
theorem dX6_run_248 : decode cX6_run 248 = .ok (.getfield 36, 3) := by decide +kernel
theorem dX6_run_251 : decode cX6_run 251 = .ok (.iload 6, 2) := by decide +kernel
theorem dX6_run_253 : decode cX6_run 253 = .ok (.aload_n 0, 1) := by decide +kernel
theorem dX6_run_254 : decode cX6_run 254 = .ok (.getfield 29, 3) := by decide +kernel
theorem dX6_run_257 : decode cX6_run 257 = .ok (.iload 6, 2) := by decide +kernel
theorem dX6_run_259 : decode cX6_run 259 = .ok (.iload_n 2, 1) := by decide +kernel
theorem dX6_run_260 : decode cX6_run 260 = .ok (.isub, 1) := by decide +kernel
theorem dX6_run_261 : decode cX6_run 261 = .ok (.laload, 1) := by decide +kernel
theorem dX6_run_262 : decode cX6_run 262 = .ok (.lastore, 1) := by decide +kernel
theorem dX6_run_263 : decode cX6_run 263 = .ok (.aload_n 0, 1) := by decide +kernel
theorem dX6_run_264 : decode cX6_run 264 = .ok (.getfield 29, 3) := by decide +kernel
theorem dX6_run_267 : decode cX6_run 267 = .ok (.iload 6, 2) := by decide +kernel
theorem dX6_run_269 : decode cX6_run 269 = .ok (.iload_n 2, 1) := by decide +kernel
theorem dX6_run_270 : decode cX6_run 270 = .ok (.isub, 1) := by decide +kernel
theorem dX6_run_271 : decode cX6_run 271 = .ok (.lconst 0, 1) := by decide +kernel
theorem dX6_run_272 : decode cX6_run 272 = .ok (.lastore, 1) := by decide +kernel
theorem dX6_run_273 : decode cX6_run 273 = .ok (.iconst 0, 1) := by decide +kernel
theorem dX6_run_274 : decode cX6_run 274 = .ok (.istore 9, 2) := by decide +kernel
theorem dX6_run_276 : decode cX6_run 276 = .ok (.iload 9, 2) := by decide +kernel
theorem dX6_run_278 : decode cX6_run 278 = .ok (.iload 6, 2) := by decide +kernel
theorem dX6_run_280 : decode cX6_run 280 = .ok (.if_icmp .gt 26, 3) := by decide +kernel
theorem dX6_run_283 : decode cX6_run 283 = .ok (.aload_n 0, 1) := by decide +kernel
theorem dX6_run_284 : decode cX6_run 284 = .ok (.getfield 39, 3) := by decide +kernel
theorem dX6_run_287 : decode cX6_run 287 = .ok (.iload 6, 2) := by decide +kernel
theorem dX6_run_289 : decode cX6_run 289 = .ok (.dup2, 1) := by decide +kernel
theorem dX6_run_290 : decode cX6_run 290 = .ok (.laload, 1) := by decide +kernel
theorem dX6_run_291 : decode cX6_run 291 = .ok (.aload_n 0, 1) := by decide +kernel
theorem dX6_run_292 : decode cX6_run 292 = .ok (.getfield 29, 3) := by decide +kernel
theorem dX6_run_295 : decode cX6_run 295 = .ok (.iload 9, 2) := by decide +kernel
theorem dX6_run_297 : decode cX6_run 297 = .ok (.laload, 1) := by decide +kernel
theorem dX6_run_298 : decode cX6_run 298 = .ok (.ladd, 1) := by decide +kernel
theorem dX6_run_299 : decode cX6_run 299 = .ok (.lastore, 1) := by decide +kernel
theorem dX6_run_300 : decode cX6_run 300 = .ok (.iinc 9 1, 3) := by decide +kernel
theorem dX6_run_303 : decode cX6_run 303 = .ok (.goto (-27), 3) := by decide +kernel
theorem dX6_run_306 : decode cX6_run 306 = .ok (.iinc 6 1, 3) := by decide +kernel
theorem dX6_run_309 : decode cX6_run 309 = .ok (.goto (-200), 3) := by decide +kernel
theorem dX6_run_312 : decode cX6_run 312 = .ok (.return_, 1) := by decide +kernel
set_option maxRecDepth 20000 in
theorem ggX6_stock_X6_isItem : GoodIn wsX6_stock wsX6_isItem := goodIn_r _ [10, 11, 12, 13, 9, 14, 29, 30, 31, 32, 33, 34, 35, 36, 37, 38, 39, 40, 41, 42, 43, 44, 45, 46, 47, 48, 49, 50, 51, 52, 53] (by decide +kernel) (by decide +kernel)
set_option maxRecDepth 20000 in
theorem gX6_stock_X6_isItem : GoodIn wsX6_stock (wsV RX6 83 RX6 yX6_isItem wsX6_isItem) := goodIn_app (goodIn_of _ (by decide +kernel)) ggX6_stock_X6_isItem
set_option maxRecDepth 20000 in
theorem ggX6_stock_X6_in : GoodIn wsX6_stock wsX6_in := goodIn_r _ [14] (by decide +kernel) (by decide +kernel)
set_option maxRecDepth 20000 in
theorem gX6_stock_X6_in : GoodIn wsX6_stock (va_wsS RX6 79 yX6_in wsX6_in) := goodIn_app (goodIn_of _ (by decide +kernel)) ggX6_stock_X6_in
set_option maxRecDepth 20000 in
theorem ggX6_stock_X6_run : GoodIn wsX6_stock wsX6_run := goodIn_r _ [18, 19, 20, 5, 21, 4, 2, 22, 23, 24, 25, 9, 26, 27, 11, 28, 29, 30, 31, 32, 33, 34, 35, 36, 37, 38, 39, 40, 41, 42, 43, 44, 45, 46, 47, 48, 49, 50, 51, 52, 53] (by decide +kernel) (by decide +kernel)
set_option maxRecDepth 20000 in
theorem gX6_stock_X6_run : GoodIn wsX6_stock (wsV RX6 110 RX6 yX6_run wsX6_run) := goodIn_app (goodIn_of _ (by decide +kernel)) ggX6_stock_X6_run
theorem dX6_stock_0 : decode cX6_stock 0 = .ok (.aload_n 0, 1) := by decide +kernel
theorem dX6_stock_1 : decode cX6_stock 1 = .ok (.iconst 0, 1) := by decide +kernel
theorem dX6_stock_2 : decode cX6_stock 2 = .ok (.putfield 73, 3) := by decide +kernel
theorem dX6_stock_5 : decode cX6_stock 5 = .ok (.aload_n 0, 1) := by decide +kernel
theorem dX6_stock_6 : decode cX6_stock 6 = .ok (.iload_n 1, 1) := by decide +kernel
theorem dX6_stock_7 : decode cX6_stock 7 = .ok (.invokevirtual 83, 3) := by decide +kernel
theorem dX6_stock_10 : decode cX6_stock 10 = .ok (.ifCond .eq 15, 3) := by decide +kernel
theorem dX6_stock_13 : decode cX6_stock 13 = .ok (.iload_n 2, 1) := by decide +kernel
theorem dX6_stock_14 : decode cX6_stock 14 = .ok (.iconst 0, 1) := by decide +kernel
theorem dX6_stock_15 : decode cX6_stock 15 = .ok (.aload_n 0, 1) := by decide +kernel
theorem dX6_stock_16 : decode cX6_stock 16 = .ok (.getfield 69, 3) := by decide +kernel
theorem dX6_stock_19 : decode cX6_stock 19 = .ok (.invokestatic 79, 3) := by decide +kernel
theorem dX6_stock_22 : decode cX6_stock 22 = .ok (.ifCond .ne 7, 3) := by decide +kernel
theorem dX6_stock_25 : decode cX6_stock 25 = .ok (.ldc2_w 108, 3) := by decide +kernel
theorem dX6_stock_28 : decode cX6_stock 28 = .ok (.lreturn, 1) := by decide +kernel
theorem dX6_stock_29 : decode cX6_stock 29 = .ok (.aload_n 0, 1) := by decide +kernel
theorem dX6_stock_30 : decode cX6_stock 30 = .ok (.iload_n 1, 1) := by decide +kernel
theorem dX6_stock_31 : decode cX6_stock 31 = .ok (.invokevirtual 110, 3) := by decide +kernel
theorem dX6_stock_34 : decode cX6_stock 34 = .ok (.aload_n 0, 1) := by decide +kernel
theorem dX6_stock_35 : decode cX6_stock 35 = .ok (.getfield 39, 3) := by decide +kernel
theorem dX6_stock_38 : decode cX6_stock 38 = .ok (.iload_n 2, 1) := by decide +kernel
theorem dX6_stock_39 : decode cX6_stock 39 = .ok (.laload, 1) := by decide +kernel
theorem dX6_stock_40 : decode cX6_stock 40 = .ok (.aload_n 0, 1) := by decide +kernel
theorem dX6_stock_41 : decode cX6_stock 41 = .ok (.getfield 33, 3) := by decide +kernel
theorem dX6_stock_44 : decode cX6_stock 44 = .ok (.iload_n 2, 1) := by decide +kernel
theorem dX6_stock_45 : decode cX6_stock 45 = .ok (.laload, 1) := by decide +kernel
theorem dX6_stock_46 : decode cX6_stock 46 = .ok (.lsub, 1) := by decide +kernel
theorem dX6_stock_47 : decode cX6_stock 47 = .ok (.lreturn, 1) := by decide +kernel
set_option maxRecDepth 20000 in
theorem ggX6_spoilt_X6_isItem : GoodIn wsX6_spoilt wsX6_isItem := goodIn_r _ [7, 8, 9, 10, 6, 11, 32, 33, 34, 35, 36, 37, 38, 39, 40, 41, 42, 43, 44, 45, 46, 47, 48, 49, 50, 51, 52, 53, 54, 55, 56] (by decide +kernel) (by decide +kernel)
set_option maxRecDepth 20000 in
theorem gX6_spoilt_X6_isItem : GoodIn wsX6_spoilt (wsV RX6 83 RX6 yX6_isItem wsX6_isItem) := goodIn_app (goodIn_of _ (by decide +kernel)) ggX6_spoilt_X6_isItem
set_option maxRecDepth 20000 in
theorem ggX6_spoilt_X6_isPeriod : GoodIn wsX6_spoilt wsX6_isPeriod := goodIn_r _ [15, 16, 9, 10, 6, 11, 32, 33, 34, 35, 36, 37, 38, 39, 40, 41, 42, 43, 44, 45, 46, 47, 48, 49, 50, 51, 52, 53, 54, 55, 56] (by decide +kernel) (by decide +kernel)
set_option maxRecDepth 20000 in
theorem gX6_spoilt_X6_isPeriod : GoodIn wsX6_spoilt (wsV RX6 91 RX6 yX6_isPeriod wsX6_isPeriod) := goodIn_app (goodIn_of _ (by decide +kernel)) ggX6_spoilt_X6_isPeriod
set_option maxRecDepth 20000 in
theorem ggX6_spoilt_X6_run : GoodIn wsX6_spoilt wsX6_run := goodIn_r _ [20, 21, 22, 23, 2, 24, 16, 25, 26, 27, 28, 6, 29, 30, 8, 31, 32, 33, 34, 35, 36, 37, 38, 39, 40, 41, 42, 43, 44, 45, 46, 47, 48, 49, 50, 51, 52, 53, 54, 55, 56] (by decide +kernel) (by decide +kernel)
set_option maxRecDepth 20000 in
theorem gX6_spoilt_X6_run : GoodIn wsX6_spoilt (wsV RX6 110 RX6 yX6_run wsX6_run) := goodIn_app (goodIn_of _ (by decide +kernel)) ggX6_spoilt_X6_run
theorem dX6_spoilt_0 : decode cX6_spoilt 0 = .ok (.aload_n 0, 1) := by decide +kernel
theorem dX6_spoilt_1 : decode cX6_spoilt 1 = .ok (.iconst 0, 1) := by decide +kernel
theorem dX6_spoilt_2 : decode cX6_spoilt 2 = .ok (.putfield 73, 3) := by decide +kernel
theorem dX6_spoilt_5 : decode cX6_spoilt 5 = .ok (.aload_n 0, 1) := by decide +kernel
theorem dX6_spoilt_6 : decode cX6_spoilt 6 = .ok (.iload_n 1, 1) := by decide +kernel
theorem dX6_spoilt_7 : decode cX6_spoilt 7 = .ok (.invokevirtual 83, 3) := by decide +kernel
theorem dX6_spoilt_10 : decode cX6_spoilt 10 = .ok (.ifCond .eq 11, 3) := by decide +kernel
theorem dX6_spoilt_13 : decode cX6_spoilt 13 = .ok (.aload_n 0, 1) := by decide +kernel
theorem dX6_spoilt_14 : decode cX6_spoilt 14 = .ok (.iload_n 2, 1) := by decide +kernel
theorem dX6_spoilt_15 : decode cX6_spoilt 15 = .ok (.invokevirtual 91, 3) := by decide +kernel
theorem dX6_spoilt_18 : decode cX6_spoilt 18 = .ok (.ifCond .ne 5, 3) := by decide +kernel
theorem dX6_spoilt_21 : decode cX6_spoilt 21 = .ok (.iconst (-1), 1) := by decide +kernel
theorem dX6_spoilt_22 : decode cX6_spoilt 22 = .ok (.ireturn, 1) := by decide +kernel
theorem dX6_spoilt_23 : decode cX6_spoilt 23 = .ok (.aload_n 0, 1) := by decide +kernel
theorem dX6_spoilt_24 : decode cX6_spoilt 24 = .ok (.iload_n 1, 1) := by decide +kernel
theorem dX6_spoilt_25 : decode cX6_spoilt 25 = .ok (.invokevirtual 110, 3) := by decide +kernel
theorem dX6_spoilt_28 : decode cX6_spoilt 28 = .ok (.aload_n 0, 1) := by decide +kernel
theorem dX6_spoilt_29 : decode cX6_spoilt 29 = .ok (.getfield 36, 3) := by decide +kernel
theorem dX6_spoilt_32 : decode cX6_spoilt 32 = .ok (.iload_n 2, 1) := by decide +kernel
theorem dX6_spoilt_33 : decode cX6_spoilt 33 = .ok (.laload, 1) := by decide +kernel
theorem dX6_spoilt_34 : decode cX6_spoilt 34 = .ok (.l2i, 1) := by decide +kernel
theorem dX6_spoilt_35 : decode cX6_spoilt 35 = .ok (.ireturn, 1) := by decide +kernel
theorem dX6_machine_0 : decode cX6_machine 0 = .ok (.aload_n 0, 1) := by decide +kernel
theorem dX6_machine_1 : decode cX6_machine 1 = .ok (.getfield 42, 3) := by decide +kernel
theorem dX6_machine_4 : decode cX6_machine 4 = .ok (.iconst 0, 1) := by decide +kernel
theorem dX6_machine_5 : decode cX6_machine 5 = .ok (.bipush (-3), 2) := by decide +kernel
theorem dX6_machine_7 : decode cX6_machine 7 = .ok (.iastore, 1) := by decide +kernel
theorem dX6_machine_8 : decode cX6_machine 8 = .ok (.iconst 1, 1) := by decide +kernel
theorem dX6_machine_9 : decode cX6_machine 9 = .ok (.istore_n 1, 1) := by decide +kernel
theorem dX6_machine_10 : decode cX6_machine 10 = .ok (.iload_n 1, 1) := by decide +kernel
theorem dX6_machine_11 : decode cX6_machine 11 = .ok (.aload_n 0, 1) := by decide +kernel
theorem dX6_machine_12 : decode cX6_machine 12 = .ok (.getfield 69, 3) := by decide +kernel
theorem dX6_machine_15 : decode cX6_machine 15 = .ok (.if_icmp .gt 121, 3) := by decide +kernel
theorem dX6_machine_18 : decode cX6_machine 18 = .ok (.aload_n 0, 1) := by decide +kernel
theorem dX6_machine_19 : decode cX6_machine 19 = .ok (.getfield 42, 3) := by decide +kernel
theorem dX6_machine_22 : decode cX6_machine 22 = .ok (.iload_n 1, 1) := by decide +kernel
theorem dX6_machine_23 : decode cX6_machine 23 = .ok (.aload_n 0, 1) := by decide +kernel
theorem dX6_machine_24 : decode cX6_machine 24 = .ok (.getfield 42, 3) := by decide +kernel
theorem dX6_machine_27 : decode cX6_machine 27 = .ok (.iload_n 1, 1) := by decide +kernel
theorem dX6_machine_28 : decode cX6_machine 28 = .ok (.iconst 1, 1) := by decide +kernel
theorem dX6_machine_29 : decode cX6_machine 29 = .ok (.isub, 1) := by decide +kernel
theorem dX6_machine_30 : decode cX6_machine 30 = .ok (.iaload, 1) := by decide +kernel
theorem dX6_machine_31 : decode cX6_machine 31 = .ok (.iastore, 1) := by decide +kernel
theorem dX6_machine_32 : decode cX6_machine 32 = .ok (.iconst 0, 1) := by decide +kernel
theorem dX6_machine_33 : decode cX6_machine 33 = .ok (.istore_n 2, 1) := by decide +kernel
theorem dX6_machine_34 : decode cX6_machine 34 = .ok (.iload_n 2, 1) := by decide +kernel
theorem dX6_machine_35 : decode cX6_machine 35 = .ok (.aload_n 0, 1) := by decide +kernel
theorem dX6_machine_36 : decode cX6_machine 36 = .ok (.getfield 76, 3) := by decide +kernel
theorem dX6_machine_39 : decode cX6_machine 39 = .ok (.if_icmp .ge 91, 3) := by decide +kernel
theorem dX6_machine_42 : decode cX6_machine 42 = .ok (.aload_n 0, 1) := by decide +kernel
theorem dX6_machine_43 : decode cX6_machine 43 = .ok (.getfield 16, 3) := by decide +kernel
theorem dX6_machine_46 : decode cX6_machine 46 = .ok (.bipush 13, 2) := by decide +kernel
theorem dX6_machine_48 : decode cX6_machine 48 = .ok (.iload_n 2, 1) := by decide +kernel
theorem dX6_machine_49 : decode cX6_machine 49 = .ok (.imul, 1) := by decide +kernel
theorem dX6_machine_50 : decode cX6_machine 50 = .ok (.iload_n 1, 1) := by decide +kernel
theorem dX6_machine_51 : decode cX6_machine 51 = .ok (.iadd, 1) := by decide +kernel
theorem dX6_machine_52 : decode cX6_machine 52 = .ok (.iaload, 1) := by decide +kernel
theorem dX6_machine_53 : decode cX6_machine 53 = .ok (.ifCond .le 7, 3) := by decide +kernel
theorem dX6_machine_56 : decode cX6_machine 56 = .ok (.iconst 1, 1) := by decide +kernel
theorem dX6_machine_57 : decode cX6_machine 57 = .ok (.goto 4, 3) := by decide +kernel
theorem dX6_machine_60 : decode cX6_machine 60 = .ok (.iconst 0, 1) := by decide +kernel
theorem dX6_machine_61 : decode cX6_machine 61 = .ok (.istore_n 3, 1) := by decide +kernel
theorem dX6_machine_62 : decode cX6_machine 62 = .ok (.aload_n 0, 1) := by decide +kernel
theorem dX6_machine_63 : decode cX6_machine 63 = .ok (.getfield 45, 3) := by decide +kernel
theorem dX6_machine_66 : decode cX6_machine 66 = .ok (.bipush 13, 2) := by decide +kernel
theorem dX6_machine_68 : decode cX6_machine 68 = .ok (.iload_n 2, 1) := by decide +kernel
theorem dX6_machine_69 : decode cX6_machine 69 = .ok (.imul, 1) := by decide +kernel
theorem dX6_machine_70 : decode cX6_machine 70 = .ok (.iload_n 1, 1) := by decide +kernel
theorem dX6_machine_71 : decode cX6_machine 71 = .ok (.iadd, 1) := by decide +kernel
theorem dX6_machine_72 : decode cX6_machine 72 = .ok (.iload_n 3, 1) := by decide +kernel
theorem dX6_machine_73 : decode cX6_machine 73 = .ok (.ifCond .eq 19, 3) := by decide +kernel
theorem dX6_machine_76 : decode cX6_machine 76 = .ok (.iload_n 2, 1) := by decide +kernel
theorem dX6_machine_77 : decode cX6_machine 77 = .ok (.aload_n 0, 1) := by decide +kernel
theorem dX6_machine_78 : decode cX6_machine 78 = .ok (.getfield 42, 3) := by decide +kernel
theorem dX6_machine_81 : decode cX6_machine 81 = .ok (.iload_n 1, 1) := by decide +kernel
theorem dX6_machine_82 : decode cX6_machine 82 = .ok (.iconst 1, 1) := by decide +kernel
theorem dX6_machine_83 : decode cX6_machine 83 = .ok (.isub, 1) := by decide +kernel
theorem dX6_machine_84 : decode cX6_machine 84 = .ok (.iaload, 1) := by decide +kernel
theorem dX6_machine_85 : decode cX6_machine 85 = .ok (.if_icmp .eq 7, 3) := by decide +kernel
theorem dX6_machine_88 : decode cX6_machine 88 = .ok (.iconst 1, 1) := by decide +kernel
theorem dX6_machine_89 : decode cX6_machine 89 = .ok (.goto 4, 3) := by decide +kernel
theorem dX6_machine_92 : decode cX6_machine 92 = .ok (.iconst 0, 1) := by decide +kernel
theorem dX6_machine_93 : decode cX6_machine 93 = .ok (.bastore, 1) := by decide +kernel
theorem dX6_machine_94 : decode cX6_machine 94 = .ok (.aload_n 0, 1) := by decide +kernel
theorem dX6_machine_95 : decode cX6_machine 95 = .ok (.getfield 42, 3) := by decide +kernel
theorem dX6_machine_98 : decode cX6_machine 98 = .ok (.iload_n 1, 1) := by decide +kernel
theorem dX6_machine_99 : decode cX6_machine 99 = .ok (.aload_n 0, 1) := by decide +kernel
theorem dX6_machine_100 : decode cX6_machine 100 = .ok (.getfield 45, 3) := by decide +kernel
theorem dX6_machine_103 : decode cX6_machine 103 = .ok (.bipush 13, 2) := by decide +kernel
theorem dX6_machine_105 : decode cX6_machine 105 = .ok (.iload_n 2, 1) := by decide +kernel
theorem dX6_machine_106 : decode cX6_machine 106 = .ok (.imul, 1) := by decide +kernel
theorem dX6_machine_107 : decode cX6_machine 107 = .ok (.iload_n 1, 1) := by decide +kernel
theorem dX6_machine_108 : decode cX6_machine 108 = .ok (.iadd, 1) := by decide +kernel
theorem dX6_machine_109 : decode cX6_machine 109 = .ok (.baload, 1) := by decide +kernel
theorem dX6_machine_110 : decode cX6_machine 110 = .ok (.ifCond .eq 7, 3) := by decide +kernel
theorem dX6_machine_113 : decode cX6_machine 113 = .ok (.iload_n 2, 1) := by decide +kernel
theorem dX6_machine_114 : decode cX6_machine 114 = .ok (.goto 9, 3) := by decide +kernel
theorem dX6_machine_117 : decode cX6_machine 117 = .ok (.aload_n 0, 1) := by decide +kernel
theorem dX6_machine_118 : decode cX6_machine 118 = .ok (.getfield 42, 3) := by decide +kernel
theorem dX6_machine_121 : decode cX6_machine 121 = .ok (.iload_n 1, 1) := by decide +kernel
theorem dX6_machine_122 : decode cX6_machine 122 = .ok (.iaload, 1) := by decide +kernel
theorem dX6_machine_123 : decode cX6_machine 123 = .ok (.iastore, 1) := by decide +kernel
theorem dX6_machine_124 : decode cX6_machine 124 = .ok (.iinc 2 1, 3) := by decide +kernel
theorem dX6_machine_127 : decode cX6_machine 127 = .ok (.goto (-93), 3) := by decide +kernel
theorem dX6_machine_130 : decode cX6_machine 130 = .ok (.iinc 1 1, 3) := by decide +kernel
theorem dX6_machine_133 : decode cX6_machine 133 = .ok (.goto (-123), 3) := by decide +kernel
theorem dX6_machine_136 : decode cX6_machine 136 = .ok (.return_, 1) := by decide +kernel
set_option maxRecDepth 20000 in
theorem ggX6_isSetUp_X6_isItem : GoodIn wsX6_isSetUp wsX6_isItem := goodIn_r _ [7, 8, 9, 10, 6, 11, 23, 24, 25, 26, 27, 28, 29, 30, 31, 32, 33, 34, 35, 36, 37, 38, 39, 40, 41, 42, 43, 44, 45, 46, 47] (by decide +kernel) (by decide +kernel)
set_option maxRecDepth 20000 in
theorem gX6_isSetUp_X6_isItem : GoodIn wsX6_isSetUp (wsV RX6 83 RX6 yX6_isItem wsX6_isItem) := goodIn_app (goodIn_of _ (by decide +kernel)) ggX6_isSetUp_X6_isItem
set_option maxRecDepth 20000 in
theorem ggX6_isSetUp_X6_isPeriod : GoodIn wsX6_isSetUp wsX6_isPeriod := goodIn_r _ [15, 16, 9, 10, 6, 11, 23, 24, 25, 26, 27, 28, 29, 30, 31, 32, 33, 34, 35, 36, 37, 38, 39, 40, 41, 42, 43, 44, 45, 46, 47] (by decide +kernel) (by decide +kernel)
set_option maxRecDepth 20000 in
theorem gX6_isSetUp_X6_isPeriod : GoodIn wsX6_isSetUp (wsV RX6 91 RX6 yX6_isPeriod wsX6_isPeriod) := goodIn_app (goodIn_of _ (by decide +kernel)) ggX6_isSetUp_X6_isPeriod
set_option maxRecDepth 20000 in
theorem ggX6_isSetUp_X6_machine : GoodIn wsX6_isSetUp wsX6_machine := goodIn_r _ [20, 21, 16, 8, 22, 2, 23, 24, 25, 26, 27, 28, 29, 30, 31, 32, 33, 34, 35, 36, 37, 38, 39, 40, 41, 42, 43, 44, 45, 46, 47] (by decide +kernel) (by decide +kernel)
set_option maxRecDepth 20000 in
theorem gX6_isSetUp_X6_machine : GoodIn wsX6_isSetUp (wsV RX6 114 RX6 yX6_machine wsX6_machine) := goodIn_app (goodIn_of _ (by decide +kernel)) ggX6_isSetUp_X6_machine
theorem dX6_isSetUp_0 : decode cX6_isSetUp 0 = .ok (.aload_n 0, 1) := by decide +kernel
theorem dX6_isSetUp_1 : decode cX6_isSetUp 1 = .ok (.iconst 0, 1) := by decide +kernel
theorem dX6_isSetUp_2 : decode cX6_isSetUp 2 = .ok (.putfield 73, 3) := by decide +kernel
theorem dX6_isSetUp_5 : decode cX6_isSetUp 5 = .ok (.aload_n 0, 1) := by decide +kernel
theorem dX6_isSetUp_6 : decode cX6_isSetUp 6 = .ok (.iload_n 1, 1) := by decide +kernel
theorem dX6_isSetUp_7 : decode cX6_isSetUp 7 = .ok (.invokevirtual 83, 3) := by decide +kernel
theorem dX6_isSetUp_10 : decode cX6_isSetUp 10 = .ok (.ifCond .eq 11, 3) := by decide +kernel
theorem dX6_isSetUp_13 : decode cX6_isSetUp 13 = .ok (.aload_n 0, 1) := by decide +kernel
theorem dX6_isSetUp_14 : decode cX6_isSetUp 14 = .ok (.iload_n 2, 1) := by decide +kernel
theorem dX6_isSetUp_15 : decode cX6_isSetUp 15 = .ok (.invokevirtual 91, 3) := by decide +kernel
theorem dX6_isSetUp_18 : decode cX6_isSetUp 18 = .ok (.ifCond .ne 5, 3) := by decide +kernel
theorem dX6_isSetUp_21 : decode cX6_isSetUp 21 = .ok (.iconst (-1), 1) := by decide +kernel
theorem dX6_isSetUp_22 : decode cX6_isSetUp 22 = .ok (.ireturn, 1) := by decide +kernel
theorem dX6_isSetUp_23 : decode cX6_isSetUp 23 = .ok (.aload_n 0, 1) := by decide +kernel
theorem dX6_isSetUp_24 : decode cX6_isSetUp 24 = .ok (.invokevirtual 114, 3) := by decide +kernel
theorem dX6_isSetUp_27 : decode cX6_isSetUp 27 = .ok (.aload_n 0, 1) := by decide +kernel
theorem dX6_isSetUp_28 : decode cX6_isSetUp 28 = .ok (.getfield 45, 3) := by decide +kernel
theorem dX6_isSetUp_31 : decode cX6_isSetUp 31 = .ok (.bipush 13, 2) := by decide +kernel
theorem dX6_isSetUp_33 : decode cX6_isSetUp 33 = .ok (.iload_n 1, 1) := by decide +kernel
theorem dX6_isSetUp_34 : decode cX6_isSetUp 34 = .ok (.imul, 1) := by decide +kernel
theorem dX6_isSetUp_35 : decode cX6_isSetUp 35 = .ok (.iload_n 2, 1) := by decide +kernel
theorem dX6_isSetUp_36 : decode cX6_isSetUp 36 = .ok (.iadd, 1) := by decide +kernel
theorem dX6_isSetUp_37 : decode cX6_isSetUp 37 = .ok (.baload, 1) := by decide +kernel
theorem dX6_isSetUp_38 : decode cX6_isSetUp 38 = .ok (.ifCond .eq 7, 3) := by decide +kernel
theorem dX6_isSetUp_41 : decode cX6_isSetUp 41 = .ok (.iconst 1, 1) := by decide +kernel
theorem dX6_isSetUp_42 : decode cX6_isSetUp 42 = .ok (.goto 4, 3) := by decide +kernel
theorem dX6_isSetUp_45 : decode cX6_isSetUp 45 = .ok (.iconst 0, 1) := by decide +kernel
theorem dX6_isSetUp_46 : decode cX6_isSetUp 46 = .ok (.ireturn, 1) := by decide +kernel
set_option maxRecDepth 20000 in
theorem ggX6_stands_X6_in : GoodIn wsX6_stands wsX6_in := goodIn_r _ [7] (by decide +kernel) (by decide +kernel)
set_option maxRecDepth 20000 in
theorem gX6_stands_X6_in : GoodIn wsX6_stands (va_wsS RX6 79 yX6_in wsX6_in) := goodIn_app (goodIn_of _ (by decide +kernel)) ggX6_stands_X6_in
set_option maxRecDepth 20000 in
theorem ggX6_stands_X6_machine : GoodIn wsX6_stands wsX6_machine := goodIn_r _ [11, 3, 2, 12, 13, 14, 15, 16, 17, 18, 19, 20, 21, 22, 23, 24, 25, 26, 27, 28, 29, 30, 31, 32, 33, 34, 35, 36, 37, 38, 39] (by decide +kernel) (by decide +kernel)
set_option maxRecDepth 20000 in
theorem gX6_stands_X6_machine : GoodIn wsX6_stands (wsV RX6 114 RX6 yX6_machine wsX6_machine) := goodIn_app (goodIn_of _ (by decide +kernel)) ggX6_stands_X6_machine
theorem dX6_stands_0 : decode cX6_stands 0 = .ok (.aload_n 0, 1) := by decide +kernel
theorem dX6_stands_1 : decode cX6_stands 1 = .ok (.iconst 0, 1) := by decide +kernel
theorem dX6_stands_2 : decode cX6_stands 2 = .ok (.putfield 73, 3) := by decide +kernel
theorem dX6_stands_5 : decode cX6_stands 5 = .ok (.iload_n 1, 1) := by decide +kernel
theorem dX6_stands_6 : decode cX6_stands 6 = .ok (.iconst 0, 1) := by decide +kernel
theorem dX6_stands_7 : decode cX6_stands 7 = .ok (.aload_n 0, 1) := by decide +kernel
theorem dX6_stands_8 : decode cX6_stands 8 = .ok (.getfield 69, 3) := by decide +kernel
theorem dX6_stands_11 : decode cX6_stands 11 = .ok (.invokestatic 79, 3) := by decide +kernel
theorem dX6_stands_14 : decode cX6_stands 14 = .ok (.ifCond .ne 5, 3) := by decide +kernel
theorem dX6_stands_17 : decode cX6_stands 17 = .ok (.iconst (-1), 1) := by decide +kernel
theorem dX6_stands_18 : decode cX6_stands 18 = .ok (.ireturn, 1) := by decide +kernel
theorem dX6_stands_19 : decode cX6_stands 19 = .ok (.aload_n 0, 1) := by decide +kernel
theorem dX6_stands_20 : decode cX6_stands 20 = .ok (.invokevirtual 114, 3) := by decide +kernel
theorem dX6_stands_23 : decode cX6_stands 23 = .ok (.aload_n 0, 1) := by decide +kernel
theorem dX6_stands_24 : decode cX6_stands 24 = .ok (.getfield 42, 3) := by decide +kernel
theorem dX6_stands_27 : decode cX6_stands 27 = .ok (.iload_n 1, 1) := by decide +kernel
theorem dX6_stands_28 : decode cX6_stands 28 = .ok (.iaload, 1) := by decide +kernel
theorem dX6_stands_29 : decode cX6_stands 29 = .ok (.ireturn, 1) := by decide +kernel
set_option maxRecDepth 20000 in
theorem ggX6_timeOf_X6_machine : GoodIn wsX6_timeOf wsX6_machine := goodIn_r _ [9, 10, 11, 1, 2, 4, 12, 13, 14, 15, 16, 17, 18, 19, 20, 21, 22, 23, 24, 25, 26, 27, 28, 29, 30, 31, 32, 33, 34, 35, 36] (by decide +kernel) (by decide +kernel)
set_option maxRecDepth 20000 in
theorem gX6_timeOf_X6_machine : GoodIn wsX6_timeOf (wsV RX6 114 RX6 yX6_machine wsX6_machine) := goodIn_app (goodIn_of _ (by decide +kernel)) ggX6_timeOf_X6_machine
theorem dX6_timeOf_0 : decode cX6_timeOf 0 = .ok (.aload_n 0, 1) := by decide +kernel
theorem dX6_timeOf_1 : decode cX6_timeOf 1 = .ok (.invokevirtual 114, 3) := by decide +kernel
theorem dX6_timeOf_4 : decode cX6_timeOf 4 = .ok (.lconst 0, 1) := by decide +kernel
theorem dX6_timeOf_5 : decode cX6_timeOf 5 = .ok (.lstore_n 2, 1) := by decide +kernel
theorem dX6_timeOf_6 : decode cX6_timeOf 6 = .ok (.iconst 0, 1) := by decide +kernel
theorem dX6_timeOf_7 : decode cX6_timeOf 7 = .ok (.istore 4, 2) := by decide +kernel
theorem dX6_timeOf_9 : decode cX6_timeOf 9 = .ok (.iload 4, 2) := by decide +kernel
theorem dX6_timeOf_11 : decode cX6_timeOf 11 = .ok (.aload_n 0, 1) := by decide +kernel
theorem dX6_timeOf_12 : decode cX6_timeOf 12 = .ok (.getfield 76, 3) := by decide +kernel
theorem dX6_timeOf_15 : decode cX6_timeOf 15 = .ok (.if_icmp .ge 73, 3) := by decide +kernel
theorem dX6_timeOf_18 : decode cX6_timeOf 18 = .ok (.lload_n 2, 1) := by decide +kernel
theorem dX6_timeOf_19 : decode cX6_timeOf 19 = .ok (.aload_n 0, 1) := by decide +kernel
theorem dX6_timeOf_20 : decode cX6_timeOf 20 = .ok (.getfield 16, 3) := by decide +kernel
theorem dX6_timeOf_23 : decode cX6_timeOf 23 = .ok (.bipush 13, 2) := by decide +kernel
theorem dX6_timeOf_25 : decode cX6_timeOf 25 = .ok (.iload 4, 2) := by decide +kernel
theorem dX6_timeOf_27 : decode cX6_timeOf 27 = .ok (.imul, 1) := by decide +kernel
theorem dX6_timeOf_28 : decode cX6_timeOf 28 = .ok (.iload_n 1, 1) := by decide +kernel
theorem dX6_timeOf_29 : decode cX6_timeOf 29 = .ok (.iadd, 1) := by decide +kernel
theorem dX6_timeOf_30 : decode cX6_timeOf 30 = .ok (.iaload, 1) := by decide +kernel
theorem dX6_timeOf_31 : decode cX6_timeOf 31 = .ok (.i2l, 1) := by decide +kernel
theorem dX6_timeOf_32 : decode cX6_timeOf 32 = .ok (.aload_n 0, 1) := by decide +kernel
theorem dX6_timeOf_33 : decode cX6_timeOf 33 = .ok (.getfield 7, 3) := by decide +kernel
theorem dX6_timeOf_36 : decode cX6_timeOf 36 = .ok (.bipush 8, 2) := by decide +kernel
theorem dX6_timeOf_38 : decode cX6_timeOf 38 = .ok (.iload 4, 2) := by decide +kernel
theorem dX6_timeOf_40 : decode cX6_timeOf 40 = .ok (.imul, 1) := by decide +kernel
theorem dX6_timeOf_41 : decode cX6_timeOf 41 = .ok (.iconst 5, 1) := by decide +kernel
theorem dX6_timeOf_42 : decode cX6_timeOf 42 = .ok (.iadd, 1) := by decide +kernel
theorem dX6_timeOf_43 : decode cX6_timeOf 43 = .ok (.iaload, 1) := by decide +kernel
theorem dX6_timeOf_44 : decode cX6_timeOf 44 = .ok (.i2l, 1) := by decide +kernel
theorem dX6_timeOf_45 : decode cX6_timeOf 45 = .ok (.lmul, 1) := by decide +kernel
theorem dX6_timeOf_46 : decode cX6_timeOf 46 = .ok (.aload_n 0, 1) := by decide +kernel
theorem dX6_timeOf_47 : decode cX6_timeOf 47 = .ok (.getfield 45, 3) := by decide +kernel
theorem dX6_timeOf_50 : decode cX6_timeOf 50 = .ok (.bipush 13, 2) := by decide +kernel
theorem dX6_timeOf_52 : decode cX6_timeOf 52 = .ok (.iload 4, 2) := by decide +kernel
theorem dX6_timeOf_54 : decode cX6_timeOf 54 = .ok (.imul, 1) := by decide +kernel
theorem dX6_timeOf_55 : decode cX6_timeOf 55 = .ok (.iload_n 1, 1) := by decide +kernel
theorem dX6_timeOf_56 : decode cX6_timeOf 56 = .ok (.iadd, 1) := by decide +kernel
theorem dX6_timeOf_57 : decode cX6_timeOf 57 = .ok (.baload, 1) := by decide +kernel
theorem dX6_timeOf_58 : decode cX6_timeOf 58 = .ok (.ifCond .eq 19, 3) := by decide +kernel
theorem dX6_timeOf_61 : decode cX6_timeOf 61 = .ok (.aload_n 0, 1) := by decide +kernel
theorem dX6_timeOf_62 : decode cX6_timeOf 62 = .ok (.getfield 7, 3) := by decide +kernel
theorem dX6_timeOf_65 : decode cX6_timeOf 65 = .ok (.bipush 8, 2) := by decide +kernel
theorem dX6_timeOf_67 : decode cX6_timeOf 67 = .ok (.iload 4, 2) := by decide +kernel
theorem dX6_timeOf_69 : decode cX6_timeOf 69 = .ok (.imul, 1) := by decide +kernel
theorem dX6_timeOf_70 : decode cX6_timeOf 70 = .ok (.bipush 6, 2) := by decide +kernel
theorem dX6_timeOf_72 : decode cX6_timeOf 72 = .ok (.iadd, 1) := by decide +kernel
theorem dX6_timeOf_73 : decode cX6_timeOf 73 = .ok (.iaload, 1) := by decide +kernel
theorem dX6_timeOf_74 : decode cX6_timeOf 74 = .ok (.goto 4, 3) := by decide +kernel
theorem dX6_timeOf_77 : decode cX6_timeOf 77 = .ok (.iconst 0, 1) := by decide +kernel
theorem dX6_timeOf_78 : decode cX6_timeOf 78 = .ok (.i2l, 1) := by decide +kernel
theorem dX6_timeOf_79 : decode cX6_timeOf 79 = .ok (.ladd, 1) := by decide +kernel
theorem dX6_timeOf_80 : decode cX6_timeOf 80 = .ok (.ladd, 1) := by decide +kernel
theorem dX6_timeOf_81 : decode cX6_timeOf 81 = .ok (.lstore_n 2, 1) := by decide +kernel
theorem dX6_timeOf_82 : decode cX6_timeOf 82 = .ok (.iinc 4 1, 3) := by decide +kernel
theorem dX6_timeOf_85 : decode cX6_timeOf 85 = .ok (.goto (-76), 3) := by decide +kernel
theorem dX6_timeOf_88 : decode cX6_timeOf 88 = .ok (.lload_n 2, 1) := by decide +kernel
theorem dX6_timeOf_89 : decode cX6_timeOf 89 = .ok (.lreturn, 1) := by decide +kernel
set_option maxRecDepth 20000 in
theorem ggX6_overOf_X6_timeOf : GoodIn wsX6_overOf wsX6_timeOf := goodIn_r _ [6, 7, 8, 9, 10, 11, 12, 13, 5, 14, 15, 16, 17, 18, 19, 20, 21, 22, 23, 24, 25, 26, 27, 28, 29, 30, 31, 32, 33, 34, 35, 36, 37, 38, 39, 40, 41] (by decide +kernel) (by decide +kernel)
set_option maxRecDepth 20000 in
theorem gX6_overOf_X6_timeOf : GoodIn wsX6_overOf (wsV RX6 117 RX6 yX6_timeOf wsX6_timeOf) := goodIn_app (goodIn_of _ (by decide +kernel)) ggX6_overOf_X6_timeOf
theorem dX6_overOf_0 : decode cX6_overOf 0 = .ok (.aload_n 0, 1) := by decide +kernel
theorem dX6_overOf_1 : decode cX6_overOf 1 = .ok (.iload_n 1, 1) := by decide +kernel
theorem dX6_overOf_2 : decode cX6_overOf 2 = .ok (.invokevirtual 117, 3) := by decide +kernel
theorem dX6_overOf_5 : decode cX6_overOf 5 = .ok (.aload_n 0, 1) := by decide +kernel
theorem dX6_overOf_6 : decode cX6_overOf 6 = .ok (.getfield 22, 3) := by decide +kernel
theorem dX6_overOf_9 : decode cX6_overOf 9 = .ok (.iload_n 1, 1) := by decide +kernel
theorem dX6_overOf_10 : decode cX6_overOf 10 = .ok (.iaload, 1) := by decide +kernel
theorem dX6_overOf_11 : decode cX6_overOf 11 = .ok (.i2l, 1) := by decide +kernel
theorem dX6_overOf_12 : decode cX6_overOf 12 = .ok (.lsub, 1) := by decide +kernel
theorem dX6_overOf_13 : decode cX6_overOf 13 = .ok (.lstore_n 2, 1) := by decide +kernel
theorem dX6_overOf_14 : decode cX6_overOf 14 = .ok (.lload_n 2, 1) := by decide +kernel
theorem dX6_overOf_15 : decode cX6_overOf 15 = .ok (.lconst 0, 1) := by decide +kernel
theorem dX6_overOf_16 : decode cX6_overOf 16 = .ok (.lcmp, 1) := by decide +kernel
theorem dX6_overOf_17 : decode cX6_overOf 17 = .ok (.ifCond .le 7, 3) := by decide +kernel
theorem dX6_overOf_20 : decode cX6_overOf 20 = .ok (.lload_n 2, 1) := by decide +kernel
theorem dX6_overOf_21 : decode cX6_overOf 21 = .ok (.goto 4, 3) := by decide +kernel
theorem dX6_overOf_24 : decode cX6_overOf 24 = .ok (.lconst 0, 1) := by decide +kernel
theorem dX6_overOf_25 : decode cX6_overOf 25 = .ok (.lreturn, 1) := by decide +kernel
set_option maxRecDepth 20000 in
theorem ggX6_time_X6_isPeriod : GoodIn wsX6_time wsX6_isPeriod := goodIn_r _ [7, 8, 9, 10, 6, 11, 25, 26, 27, 28, 29, 30, 31, 32, 33, 34, 35, 36, 37, 38, 39, 40, 41, 42, 43, 44, 45, 46, 47, 48, 49] (by decide +kernel) (by decide +kernel)
set_option maxRecDepth 20000 in
theorem gX6_time_X6_isPeriod : GoodIn wsX6_time (wsV RX6 91 RX6 yX6_isPeriod wsX6_isPeriod) := goodIn_app (goodIn_of _ (by decide +kernel)) ggX6_time_X6_isPeriod
set_option maxRecDepth 20000 in
theorem ggX6_time_X6_timeOf : GoodIn wsX6_time wsX6_timeOf := goodIn_r _ [15, 16, 17, 18, 19, 20, 21, 22, 6, 23, 24, 8, 25, 26, 27, 28, 29, 30, 31, 32, 33, 34, 35, 36, 37, 38, 39, 40, 41, 42, 43, 44, 45, 46, 47, 48, 49] (by decide +kernel) (by decide +kernel)
set_option maxRecDepth 20000 in
theorem gX6_time_X6_timeOf : GoodIn wsX6_time (wsV RX6 117 RX6 yX6_timeOf wsX6_timeOf) := goodIn_app (goodIn_of _ (by decide +kernel)) ggX6_time_X6_timeOf
theorem dX6_time_0 : decode cX6_time 0 = .ok (.aload_n 0, 1) := by decide +kernel
theorem dX6_time_1 : decode cX6_time 1 = .ok (.iconst 0, 1) := by decide +kernel
theorem dX6_time_2 : decode cX6_time 2 = .ok (.putfield 73, 3) := by decide +kernel
theorem dX6_time_5 : decode cX6_time 5 = .ok (.aload_n 0, 1) := by decide +kernel
theorem dX6_time_6 : decode cX6_time 6 = .ok (.iload_n 1, 1) := by decide +kernel
theorem dX6_time_7 : decode cX6_time 7 = .ok (.invokevirtual 91, 3) := by decide +kernel
theorem dX6_time_10 : decode cX6_time 10 = .ok (.ifCond .eq 11, 3) := by decide +kernel
theorem dX6_time_13 : decode cX6_time 13 = .ok (.aload_n 0, 1) := by decide +kernel
theorem dX6_time_14 : decode cX6_time 14 = .ok (.iload_n 1, 1) := by decide +kernel
theorem dX6_time_15 : decode cX6_time 15 = .ok (.invokevirtual 117, 3) := by decide +kernel
theorem dX6_time_18 : decode cX6_time 18 = .ok (.goto 6, 3) := by decide +kernel
theorem dX6_time_21 : decode cX6_time 21 = .ok (.ldc2_w 108, 3) := by decide +kernel
theorem dX6_time_24 : decode cX6_time 24 = .ok (.lreturn, 1) := by decide +kernel
set_option maxRecDepth 20000 in
theorem ggX6_priceOf_X6_overOf : GoodIn wsX6_priceOf wsX6_overOf := goodIn_r _ [12, 13, 14, 15, 16, 11, 17, 3, 18, 5, 4, 19, 20, 21, 22, 23, 1, 36, 37, 38, 39, 40, 41, 42, 43, 44, 45, 46, 47, 48, 49, 50, 51, 52, 53, 54, 55, 56, 57, 58, 59, 60] (by decide +kernel) (by decide +kernel)
set_option maxRecDepth 20000 in
theorem gX6_priceOf_X6_overOf : GoodIn wsX6_priceOf (wsV RX6 121 RX6 yX6_overOf wsX6_overOf) := goodIn_app (goodIn_of _ (by decide +kernel)) ggX6_priceOf_X6_overOf
set_option maxRecDepth 20000 in
theorem ggX6_priceOf_X6_run : GoodIn wsX6_priceOf wsX6_run := goodIn_r _ [27, 5, 28, 7, 29, 6, 1, 18, 30, 31, 32, 11, 33, 34, 3, 35, 36, 37, 38, 39, 40, 41, 42, 43, 44, 45, 46, 47, 48, 49, 50, 51, 52, 53, 54, 55, 56, 57, 58, 59, 60] (by decide +kernel) (by decide +kernel)
set_option maxRecDepth 20000 in
theorem gX6_priceOf_X6_run : GoodIn wsX6_priceOf (wsV RX6 110 RX6 yX6_run wsX6_run) := goodIn_app (goodIn_of _ (by decide +kernel)) ggX6_priceOf_X6_run
set_option maxRecDepth 20000 in
theorem ggX6_priceOf_X6_machine : GoodIn wsX6_priceOf wsX6_machine := goodIn_r _ [22, 23, 1, 3, 18, 4, 36, 37, 38, 39, 40, 41, 42, 43, 44, 45, 46, 47, 48, 49, 50, 51, 52, 53, 54, 55, 56, 57, 58, 59, 60] (by decide +kernel) (by decide +kernel)
set_option maxRecDepth 20000 in
theorem gX6_priceOf_X6_machine : GoodIn wsX6_priceOf (wsV RX6 114 RX6 yX6_machine wsX6_machine) := goodIn_app (goodIn_of _ (by decide +kernel)) ggX6_priceOf_X6_machine
theorem dX6_priceOf_0 : decode cX6_priceOf 0 = .ok (.lconst 0, 1) := by decide +kernel
theorem dX6_priceOf_1 : decode cX6_priceOf 1 = .ok (.lstore_n 2, 1) := by decide +kernel
theorem dX6_priceOf_2 : decode cX6_priceOf 2 = .ok (.iconst 1, 1) := by decide +kernel
theorem dX6_priceOf_3 : decode cX6_priceOf 3 = .ok (.istore 4, 2) := by decide +kernel
theorem dX6_priceOf_5 : decode cX6_priceOf 5 = .ok (.iload 4, 2) := by decide +kernel
theorem dX6_priceOf_7 : decode cX6_priceOf 7 = .ok (.aload_n 0, 1) := by decide +kernel
theorem dX6_priceOf_8 : decode cX6_priceOf 8 = .ok (.getfield 69, 3) := by decide +kernel
theorem dX6_priceOf_11 : decode cX6_priceOf 11 = .ok (.if_icmp .gt 38, 3) := by decide +kernel
theorem dX6_priceOf_14 : decode cX6_priceOf 14 = .ok (.lload_n 2, 1) := by decide +kernel
theorem dX6_priceOf_15 : decode cX6_priceOf 15 = .ok (.iload_n 1, 1) := by decide +kernel
theorem dX6_priceOf_16 : decode cX6_priceOf 16 = .ok (.iconst 2, 1) := by decide +kernel
theorem dX6_priceOf_17 : decode cX6_priceOf 17 = .ok (.if_icmp .eq 8, 3) := by decide +kernel
theorem dX6_priceOf_20 : decode cX6_priceOf 20 = .ok (.iload_n 1, 1) := by decide +kernel
theorem dX6_priceOf_21 : decode cX6_priceOf 21 = .ok (.iconst 3, 1) := by decide +kernel
theorem dX6_priceOf_22 : decode cX6_priceOf 22 = .ok (.if_icmp .ne 18, 3) := by decide +kernel
theorem dX6_priceOf_25 : decode cX6_priceOf 25 = .ok (.aload_n 0, 1) := by decide +kernel
theorem dX6_priceOf_26 : decode cX6_priceOf 26 = .ok (.iload 4, 2) := by decide +kernel
theorem dX6_priceOf_28 : decode cX6_priceOf 28 = .ok (.invokevirtual 121, 3) := by decide +kernel
theorem dX6_priceOf_31 : decode cX6_priceOf 31 = .ok (.aload_n 0, 1) := by decide +kernel
theorem dX6_priceOf_32 : decode cX6_priceOf 32 = .ok (.getfield 98, 3) := by decide +kernel
theorem dX6_priceOf_35 : decode cX6_priceOf 35 = .ok (.i2l, 1) := by decide +kernel
theorem dX6_priceOf_36 : decode cX6_priceOf 36 = .ok (.lmul, 1) := by decide +kernel
theorem dX6_priceOf_37 : decode cX6_priceOf 37 = .ok (.goto 4, 3) := by decide +kernel
theorem dX6_priceOf_40 : decode cX6_priceOf 40 = .ok (.lconst 0, 1) := by decide +kernel
theorem dX6_priceOf_41 : decode cX6_priceOf 41 = .ok (.ladd, 1) := by decide +kernel
theorem dX6_priceOf_42 : decode cX6_priceOf 42 = .ok (.lstore_n 2, 1) := by decide +kernel
theorem dX6_priceOf_43 : decode cX6_priceOf 43 = .ok (.iinc 4 1, 3) := by decide +kernel
theorem dX6_priceOf_46 : decode cX6_priceOf 46 = .ok (.goto (-41), 3) := by decide +kernel
theorem dX6_priceOf_49 : decode cX6_priceOf 49 = .ok (.iconst 0, 1) := by decide +kernel
theorem dX6_priceOf_50 : decode cX6_priceOf 50 = .ok (.istore 4, 2) := by decide +kernel
theorem dX6_priceOf_52 : decode cX6_priceOf 52 = .ok (.iload 4, 2) := by decide +kernel
theorem dX6_priceOf_54 : decode cX6_priceOf 54 = .ok (.aload_n 0, 1) := by decide +kernel
theorem dX6_priceOf_55 : decode cX6_priceOf 55 = .ok (.getfield 76, 3) := by decide +kernel
theorem dX6_priceOf_58 : decode cX6_priceOf 58 = .ok (.if_icmp .ge 137, 3) := by decide +kernel
theorem dX6_priceOf_61 : decode cX6_priceOf 61 = .ok (.aload_n 0, 1) := by decide +kernel
theorem dX6_priceOf_62 : decode cX6_priceOf 62 = .ok (.iload 4, 2) := by decide +kernel
theorem dX6_priceOf_64 : decode cX6_priceOf 64 = .ok (.invokevirtual 110, 3) := by decide +kernel
theorem dX6_priceOf_67 : decode cX6_priceOf 67 = .ok (.aload_n 0, 1) := by decide +kernel
theorem dX6_priceOf_68 : decode cX6_priceOf 68 = .ok (.invokevirtual 114, 3) := by decide +kernel
theorem dX6_priceOf_71 : decode cX6_priceOf 71 = .ok (.iconst 1, 1) := by decide +kernel
theorem dX6_priceOf_72 : decode cX6_priceOf 72 = .ok (.istore 5, 2) := by decide +kernel
theorem dX6_priceOf_74 : decode cX6_priceOf 74 = .ok (.iload 5, 2) := by decide +kernel
theorem dX6_priceOf_76 : decode cX6_priceOf 76 = .ok (.aload_n 0, 1) := by decide +kernel
theorem dX6_priceOf_77 : decode cX6_priceOf 77 = .ok (.getfield 69, 3) := by decide +kernel
theorem dX6_priceOf_80 : decode cX6_priceOf 80 = .ok (.if_icmp .gt 109, 3) := by decide +kernel
theorem dX6_priceOf_83 : decode cX6_priceOf 83 = .ok (.lload_n 2, 1) := by decide +kernel
theorem dX6_priceOf_84 : decode cX6_priceOf 84 = .ok (.iload_n 1, 1) := by decide +kernel
theorem dX6_priceOf_85 : decode cX6_priceOf 85 = .ok (.ifCond .eq 8, 3) := by decide +kernel
theorem dX6_priceOf_88 : decode cX6_priceOf 88 = .ok (.iload_n 1, 1) := by decide +kernel
theorem dX6_priceOf_89 : decode cX6_priceOf 89 = .ok (.iconst 3, 1) := by decide +kernel
theorem dX6_priceOf_90 : decode cX6_priceOf 90 = .ok (.if_icmp .ne 33, 3) := by decide +kernel
theorem dX6_priceOf_93 : decode cX6_priceOf 93 = .ok (.aload_n 0, 1) := by decide +kernel
theorem dX6_priceOf_94 : decode cX6_priceOf 94 = .ok (.getfield 45, 3) := by decide +kernel
theorem dX6_priceOf_97 : decode cX6_priceOf 97 = .ok (.bipush 13, 2) := by decide +kernel
theorem dX6_priceOf_99 : decode cX6_priceOf 99 = .ok (.iload 4, 2) := by decide +kernel
theorem dX6_priceOf_101 : decode cX6_priceOf 101 = .ok (.imul, 1) := by decide +kernel
theorem dX6_priceOf_102 : decode cX6_priceOf 102 = .ok (.iload 5, 2) := by decide +kernel
theorem dX6_priceOf_104 : decode cX6_priceOf 104 = .ok (.iadd, 1) := by decide +kernel
theorem dX6_priceOf_105 : decode cX6_priceOf 105 = .ok (.baload, 1) := by decide +kernel
theorem dX6_priceOf_106 : decode cX6_priceOf 106 = .ok (.ifCond .eq 17, 3) := by decide +kernel
theorem dX6_priceOf_109 : decode cX6_priceOf 109 = .ok (.aload_n 0, 1) := by decide +kernel
theorem dX6_priceOf_110 : decode cX6_priceOf 110 = .ok (.getfield 7, 3) := by decide +kernel
theorem dX6_priceOf_113 : decode cX6_priceOf 113 = .ok (.bipush 8, 2) := by decide +kernel
theorem dX6_priceOf_115 : decode cX6_priceOf 115 = .ok (.iload 4, 2) := by decide +kernel
theorem dX6_priceOf_117 : decode cX6_priceOf 117 = .ok (.imul, 1) := by decide +kernel
theorem dX6_priceOf_118 : decode cX6_priceOf 118 = .ok (.iaload, 1) := by decide +kernel
theorem dX6_priceOf_119 : decode cX6_priceOf 119 = .ok (.i2l, 1) := by decide +kernel
theorem dX6_priceOf_120 : decode cX6_priceOf 120 = .ok (.goto 4, 3) := by decide +kernel
theorem dX6_priceOf_123 : decode cX6_priceOf 123 = .ok (.lconst 0, 1) := by decide +kernel
theorem dX6_priceOf_124 : decode cX6_priceOf 124 = .ok (.ladd, 1) := by decide +kernel
theorem dX6_priceOf_125 : decode cX6_priceOf 125 = .ok (.lstore_n 2, 1) := by decide +kernel
theorem dX6_priceOf_126 : decode cX6_priceOf 126 = .ok (.aload_n 0, 1) := by decide +kernel
theorem dX6_priceOf_127 : decode cX6_priceOf 127 = .ok (.getfield 39, 3) := by decide +kernel
theorem dX6_priceOf_130 : decode cX6_priceOf 130 = .ok (.iload 5, 2) := by decide +kernel
theorem dX6_priceOf_132 : decode cX6_priceOf 132 = .ok (.laload, 1) := by decide +kernel
theorem dX6_priceOf_133 : decode cX6_priceOf 133 = .ok (.aload_n 0, 1) := by decide +kernel
theorem dX6_priceOf_134 : decode cX6_priceOf 134 = .ok (.getfield 33, 3) := by decide +kernel
theorem dX6_priceOf_137 : decode cX6_priceOf 137 = .ok (.iload 5, 2) := by decide +kernel
theorem dX6_priceOf_139 : decode cX6_priceOf 139 = .ok (.laload, 1) := by decide +kernel
theorem dX6_priceOf_140 : decode cX6_priceOf 140 = .ok (.lsub, 1) := by decide +kernel
theorem dX6_priceOf_141 : decode cX6_priceOf 141 = .ok (.lstore 6, 2) := by decide +kernel
theorem dX6_priceOf_143 : decode cX6_priceOf 143 = .ok (.lload_n 2, 1) := by decide +kernel
theorem dX6_priceOf_144 : decode cX6_priceOf 144 = .ok (.iload_n 1, 1) := by decide +kernel
theorem dX6_priceOf_145 : decode cX6_priceOf 145 = .ok (.iconst 1, 1) := by decide +kernel
theorem dX6_priceOf_146 : decode cX6_priceOf 146 = .ok (.if_icmp .eq 8, 3) := by decide +kernel
theorem dX6_priceOf_149 : decode cX6_priceOf 149 = .ok (.iload_n 1, 1) := by decide +kernel
theorem dX6_priceOf_150 : decode cX6_priceOf 150 = .ok (.iconst 3, 1) := by decide +kernel
theorem dX6_priceOf_151 : decode cX6_priceOf 151 = .ok (.if_icmp .ne 29, 3) := by decide +kernel
theorem dX6_priceOf_154 : decode cX6_priceOf 154 = .ok (.lload 6, 2) := by decide +kernel
theorem dX6_priceOf_156 : decode cX6_priceOf 156 = .ok (.lconst 0, 1) := by decide +kernel
theorem dX6_priceOf_157 : decode cX6_priceOf 157 = .ok (.lcmp, 1) := by decide +kernel
theorem dX6_priceOf_158 : decode cX6_priceOf 158 = .ok (.ifCond .le 22, 3) := by decide +kernel
theorem dX6_priceOf_161 : decode cX6_priceOf 161 = .ok (.lload 6, 2) := by decide +kernel
theorem dX6_priceOf_163 : decode cX6_priceOf 163 = .ok (.aload_n 0, 1) := by decide +kernel
theorem dX6_priceOf_164 : decode cX6_priceOf 164 = .ok (.getfield 7, 3) := by decide +kernel
theorem dX6_priceOf_167 : decode cX6_priceOf 167 = .ok (.bipush 8, 2) := by decide +kernel
theorem dX6_priceOf_169 : decode cX6_priceOf 169 = .ok (.iload 4, 2) := by decide +kernel
theorem dX6_priceOf_171 : decode cX6_priceOf 171 = .ok (.imul, 1) := by decide +kernel
theorem dX6_priceOf_172 : decode cX6_priceOf 172 = .ok (.iconst 1, 1) := by decide +kernel
theorem dX6_priceOf_173 : decode cX6_priceOf 173 = .ok (.iadd, 1) := by decide +kernel
theorem dX6_priceOf_174 : decode cX6_priceOf 174 = .ok (.iaload, 1) := by decide +kernel
theorem dX6_priceOf_175 : decode cX6_priceOf 175 = .ok (.i2l, 1) := by decide +kernel
theorem dX6_priceOf_176 : decode cX6_priceOf 176 = .ok (.lmul, 1) := by decide +kernel
theorem dX6_priceOf_177 : decode cX6_priceOf 177 = .ok (.goto 4, 3) := by decide +kernel
theorem dX6_priceOf_180 : decode cX6_priceOf 180 = .ok (.lconst 0, 1) := by decide +kernel
theorem dX6_priceOf_181 : decode cX6_priceOf 181 = .ok (.ladd, 1) := by decide +kernel
theorem dX6_priceOf_182 : decode cX6_priceOf 182 = .ok (.lstore_n 2, 1) := by decide +kernel
theorem dX6_priceOf_183 : decode cX6_priceOf 183 = .ok (.iinc 5 1, 3) := by decide +kernel
theorem dX6_priceOf_186 : decode cX6_priceOf 186 = .ok (.goto (-112), 3) := by decide +kernel
theorem dX6_priceOf_189 : decode cX6_priceOf 189 = .ok (.iinc 4 1, 3) := by decide +kernel
theorem dX6_priceOf_192 : decode cX6_priceOf 192 = .ok (.goto (-140), 3) := by decide +kernel
theorem dX6_priceOf_195 : decode cX6_priceOf 195 = .ok (.lload_n 2, 1) := by decide +kernel
theorem dX6_priceOf_196 : decode cX6_priceOf 196 = .ok (.lreturn, 1) := by decide +kernel
set_option maxRecDepth 20000 in
theorem ggX6_price_X6_in : GoodIn wsX6_price wsX6_in := goodIn_r _ [6] (by decide +kernel) (by decide +kernel)
set_option maxRecDepth 20000 in
theorem gX6_price_X6_in : GoodIn wsX6_price (va_wsS RX6 79 yX6_in wsX6_in) := goodIn_app (goodIn_of _ (by decide +kernel)) ggX6_price_X6_in
set_option maxRecDepth 20000 in
theorem ggX6_price_X6_priceOf : GoodIn wsX6_price wsX6_priceOf := goodIn_r _ [10, 11, 12, 13, 14, 15, 16, 17, 18, 19, 20, 5, 21, 22, 23, 24, 25, 26, 27, 28, 29, 30, 31, 32, 33, 34, 35, 36, 37, 38, 39, 40, 41, 42, 43, 44, 45, 46, 47, 48, 49, 50, 51, 52, 53, 54, 55, 56, 57, 58, 59, 60, 61, 62, 63, 64, 65, 66, 67, 68, 69] (by decide +kernel) (by decide +kernel)
set_option maxRecDepth 20000 in
theorem gX6_price_X6_priceOf : GoodIn wsX6_price (wsV RX6 124 RX6 yX6_priceOf wsX6_priceOf) := goodIn_app (goodIn_of _ (by decide +kernel)) ggX6_price_X6_priceOf
theorem dX6_price_0 : decode cX6_price 0 = .ok (.aload_n 0, 1) := by decide +kernel
theorem dX6_price_1 : decode cX6_price 1 = .ok (.iconst 0, 1) := by decide +kernel
theorem dX6_price_2 : decode cX6_price 2 = .ok (.putfield 73, 3) := by decide +kernel
theorem dX6_price_5 : decode cX6_price 5 = .ok (.iload_n 1, 1) := by decide +kernel
theorem dX6_price_6 : decode cX6_price 6 = .ok (.iconst 0, 1) := by decide +kernel
theorem dX6_price_7 : decode cX6_price 7 = .ok (.iconst 3, 1) := by decide +kernel
theorem dX6_price_8 : decode cX6_price 8 = .ok (.invokestatic 79, 3) := by decide +kernel
theorem dX6_price_11 : decode cX6_price 11 = .ok (.ifCond .eq 11, 3) := by decide +kernel
theorem dX6_price_14 : decode cX6_price 14 = .ok (.aload_n 0, 1) := by decide +kernel
theorem dX6_price_15 : decode cX6_price 15 = .ok (.iload_n 1, 1) := by decide +kernel
theorem dX6_price_16 : decode cX6_price 16 = .ok (.invokevirtual 124, 3) := by decide +kernel
theorem dX6_price_19 : decode cX6_price 19 = .ok (.goto 6, 3) := by decide +kernel
theorem dX6_price_22 : decode cX6_price 22 = .ok (.ldc2_w 108, 3) := by decide +kernel
theorem dX6_price_25 : decode cX6_price 25 = .ok (.lreturn, 1) := by decide +kernel
set_option maxRecDepth 20000 in
theorem ggX6_share_X6_in : GoodIn wsX6_share wsX6_in := goodIn_r _ [7] (by decide +kernel) (by decide +kernel)
set_option maxRecDepth 20000 in
theorem gX6_share_X6_in : GoodIn wsX6_share (va_wsS RX6 79 yX6_in wsX6_in) := goodIn_app (goodIn_of _ (by decide +kernel)) ggX6_share_X6_in
set_option maxRecDepth 20000 in
theorem ggX6_share_X6_priceOf : GoodIn wsX6_share wsX6_priceOf := goodIn_r _ [11, 12, 13, 14, 15, 16, 17, 18, 19, 20, 21, 6, 22, 23, 24, 25, 26, 27, 28, 29, 30, 31, 32, 33, 34, 35, 36, 37, 38, 39, 40, 41, 42, 43, 44, 45, 46, 47, 48, 49, 50, 51, 52, 53, 54, 55, 56, 57, 58, 59, 60, 61, 62, 63, 64, 65, 66, 67, 68, 69, 70] (by decide +kernel) (by decide +kernel)
set_option maxRecDepth 20000 in
theorem gX6_share_X6_priceOf : GoodIn wsX6_share (wsV RX6 124 RX6 yX6_priceOf wsX6_priceOf) := goodIn_app (goodIn_of _ (by decide +kernel)) ggX6_share_X6_priceOf
theorem dX6_share_0 : decode cX6_share 0 = .ok (.aload_n 0, 1) := by decide +kernel
theorem dX6_share_1 : decode cX6_share 1 = .ok (.iconst 0, 1) := by decide +kernel
theorem dX6_share_2 : decode cX6_share 2 = .ok (.putfield 73, 3) := by decide +kernel
theorem dX6_share_5 : decode cX6_share 5 = .ok (.iload_n 1, 1) := by decide +kernel
theorem dX6_share_6 : decode cX6_share 6 = .ok (.iconst 0, 1) := by decide +kernel
theorem dX6_share_7 : decode cX6_share 7 = .ok (.iconst 3, 1) := by decide +kernel
theorem dX6_share_8 : decode cX6_share 8 = .ok (.invokestatic 79, 3) := by decide +kernel
theorem dX6_share_11 : decode cX6_share 11 = .ok (.ifCond .eq 12, 3) := by decide +kernel
theorem dX6_share_14 : decode cX6_share 14 = .ok (.iload_n 2, 1) := by decide +kernel
theorem dX6_share_15 : decode cX6_share 15 = .ok (.iconst 0, 1) := by decide +kernel
theorem dX6_share_16 : decode cX6_share 16 = .ok (.iconst 3, 1) := by decide +kernel
theorem dX6_share_17 : decode cX6_share 17 = .ok (.invokestatic 79, 3) := by decide +kernel
theorem dX6_share_20 : decode cX6_share 20 = .ok (.ifCond .ne 7, 3) := by decide +kernel
theorem dX6_share_23 : decode cX6_share 23 = .ok (.ldc2_w 108, 3) := by decide +kernel
theorem dX6_share_26 : decode cX6_share 26 = .ok (.lreturn, 1) := by decide +kernel
theorem dX6_share_27 : decode cX6_share 27 = .ok (.aload_n 0, 1) := by decide +kernel
theorem dX6_share_28 : decode cX6_share 28 = .ok (.iload_n 2, 1) := by decide +kernel
theorem dX6_share_29 : decode cX6_share 29 = .ok (.invokevirtual 124, 3) := by decide +kernel
theorem dX6_share_32 : decode cX6_share 32 = .ok (.lstore_n 3, 1) := by decide +kernel
theorem dX6_share_33 : decode cX6_share 33 = .ok (.lload_n 3, 1) := by decide +kernel
theorem dX6_share_34 : decode cX6_share 34 = .ok (.lconst 0, 1) := by decide +kernel
theorem dX6_share_35 : decode cX6_share 35 = .ok (.lcmp, 1) := by decide +kernel
theorem dX6_share_36 : decode cX6_share 36 = .ok (.ifCond .ne 10, 3) := by decide +kernel
theorem dX6_share_39 : decode cX6_share 39 = .ok (.aload_n 0, 1) := by decide +kernel
theorem dX6_share_40 : decode cX6_share 40 = .ok (.iconst 1, 1) := by decide +kernel
theorem dX6_share_41 : decode cX6_share 41 = .ok (.putfield 73, 3) := by decide +kernel
theorem dX6_share_44 : decode cX6_share 44 = .ok (.lconst 0, 1) := by decide +kernel
theorem dX6_share_45 : decode cX6_share 45 = .ok (.lreturn, 1) := by decide +kernel
theorem dX6_share_46 : decode cX6_share 46 = .ok (.ldc2_w 127, 3) := by decide +kernel
theorem dX6_share_49 : decode cX6_share 49 = .ok (.aload_n 0, 1) := by decide +kernel
theorem dX6_share_50 : decode cX6_share 50 = .ok (.iload_n 1, 1) := by decide +kernel
theorem dX6_share_51 : decode cX6_share 51 = .ok (.invokevirtual 124, 3) := by decide +kernel
theorem dX6_share_54 : decode cX6_share 54 = .ok (.lmul, 1) := by decide +kernel
theorem dX6_share_55 : decode cX6_share 55 = .ok (.lload_n 3, 1) := by decide +kernel
theorem dX6_share_56 : decode cX6_share 56 = .ok (.ldiv, 1) := by decide +kernel
theorem dX6_share_57 : decode cX6_share 57 = .ok (.lreturn, 1) := by decide +kernel
theorem dX6_note_0 : decode cX6_note 0 = .ok (.lload 4, 2) := by decide +kernel
theorem dX6_note_2 : decode cX6_note 2 = .ok (.lconst 0, 1) := by decide +kernel
theorem dX6_note_3 : decode cX6_note 3 = .ok (.lcmp, 1) := by decide +kernel
theorem dX6_note_4 : decode cX6_note 4 = .ok (.ifCond .le 54, 3) := by decide +kernel
theorem dX6_note_7 : decode cX6_note 7 = .ok (.aload_n 0, 1) := by decide +kernel
theorem dX6_note_8 : decode cX6_note 8 = .ok (.getfield 48, 3) := by decide +kernel
theorem dX6_note_11 : decode cX6_note 11 = .ok (.aload_n 0, 1) := by decide +kernel
theorem dX6_note_12 : decode cX6_note 12 = .ok (.getfield 129, 3) := by decide +kernel
theorem dX6_note_15 : decode cX6_note 15 = .ok (.iload_n 1, 1) := by decide +kernel
theorem dX6_note_16 : decode cX6_note 16 = .ok (.iastore, 1) := by decide +kernel
theorem dX6_note_17 : decode cX6_note 17 = .ok (.aload_n 0, 1) := by decide +kernel
theorem dX6_note_18 : decode cX6_note 18 = .ok (.getfield 51, 3) := by decide +kernel
theorem dX6_note_21 : decode cX6_note 21 = .ok (.aload_n 0, 1) := by decide +kernel
theorem dX6_note_22 : decode cX6_note 22 = .ok (.getfield 129, 3) := by decide +kernel
theorem dX6_note_25 : decode cX6_note 25 = .ok (.iload_n 2, 1) := by decide +kernel
theorem dX6_note_26 : decode cX6_note 26 = .ok (.iastore, 1) := by decide +kernel
theorem dX6_note_27 : decode cX6_note 27 = .ok (.aload_n 0, 1) := by decide +kernel
theorem dX6_note_28 : decode cX6_note 28 = .ok (.getfield 54, 3) := by decide +kernel
theorem dX6_note_31 : decode cX6_note 31 = .ok (.aload_n 0, 1) := by decide +kernel
theorem dX6_note_32 : decode cX6_note 32 = .ok (.getfield 129, 3) := by decide +kernel
theorem dX6_note_35 : decode cX6_note 35 = .ok (.iload_n 3, 1) := by decide +kernel
theorem dX6_note_36 : decode cX6_note 36 = .ok (.iastore, 1) := by decide +kernel
theorem dX6_note_37 : decode cX6_note 37 = .ok (.aload_n 0, 1) := by decide +kernel
theorem dX6_note_38 : decode cX6_note 38 = .ok (.getfield 57, 3) := by decide +kernel
theorem dX6_note_41 : decode cX6_note 41 = .ok (.aload_n 0, 1) := by decide +kernel
theorem dX6_note_42 : decode cX6_note 42 = .ok (.getfield 129, 3) := by decide +kernel
theorem dX6_note_45 : decode cX6_note 45 = .ok (.lload 4, 2) := by decide +kernel
theorem dX6_note_47 : decode cX6_note 47 = .ok (.lastore, 1) := by decide +kernel
theorem dX6_note_48 : decode cX6_note 48 = .ok (.aload_n 0, 1) := by decide +kernel
theorem dX6_note_49 : decode cX6_note 49 = .ok (.dup, 1) := by decide +kernel
theorem dX6_note_50 : decode cX6_note 50 = .ok (.getfield 129, 3) := by decide +kernel
theorem dX6_note_53 : decode cX6_note 53 = .ok (.iconst 1, 1) := by decide +kernel
theorem dX6_note_54 : decode cX6_note 54 = .ok (.iadd, 1) := by decide +kernel
theorem dX6_note_55 : decode cX6_note 55 = .ok (.putfield 129, 3) := by decide +kernel
theorem dX6_note_58 : decode cX6_note 58 = .ok (.return_, 1) := by decide +kernel
set_option maxRecDepth 20000 in
theorem ggX6_find_X6_run : GoodIn wsX6_find wsX6_run := goodIn_r _ [13, 7, 14, 5, 15, 16, 3, 6, 17, 18, 19, 12, 20, 21, 2, 22, 46, 47, 48, 49, 50, 51, 52, 53, 54, 55, 56, 57, 58, 59, 60, 61, 62, 63, 64, 65, 66, 67, 68, 69, 70] (by decide +kernel) (by decide +kernel)
set_option maxRecDepth 20000 in
theorem gX6_find_X6_run : GoodIn wsX6_find (wsV RX6 110 RX6 yX6_run wsX6_run) := goodIn_app (goodIn_of _ (by decide +kernel)) ggX6_find_X6_run
set_option maxRecDepth 20000 in
theorem ggX6_find_X6_note : GoodIn wsX6_find wsX6_note := goodIn_r _ [26, 27, 1, 28, 29, 30, 46, 47, 48, 49, 50, 51, 52, 53, 54, 55, 56, 57, 58, 59, 60, 61, 62, 63, 64, 65, 66, 67, 68, 69, 70] (by decide +kernel) (by decide +kernel)
set_option maxRecDepth 20000 in
theorem gX6_find_X6_note : GoodIn wsX6_find (wsV RX6 132 RX6 yX6_note wsX6_note) := goodIn_app (goodIn_of _ (by decide +kernel)) ggX6_find_X6_note
set_option maxRecDepth 20000 in
theorem ggX6_find_X6_overOf : GoodIn wsX6_find wsX6_overOf := goodIn_r _ [34, 35, 36, 37, 38, 12, 39, 2, 6, 7, 40, 41, 42, 43, 44, 45, 3, 46, 47, 48, 49, 50, 51, 52, 53, 54, 55, 56, 57, 58, 59, 60, 61, 62, 63, 64, 65, 66, 67, 68, 69, 70] (by decide +kernel) (by decide +kernel)
set_option maxRecDepth 20000 in
theorem gX6_find_X6_overOf : GoodIn wsX6_find (wsV RX6 121 RX6 yX6_overOf wsX6_overOf) := goodIn_app (goodIn_of _ (by decide +kernel)) ggX6_find_X6_overOf
theorem dX6_find_0 : decode cX6_find 0 = .ok (.aload_n 0, 1) := by decide +kernel
theorem dX6_find_1 : decode cX6_find 1 = .ok (.iconst 0, 1) := by decide +kernel
theorem dX6_find_2 : decode cX6_find 2 = .ok (.putfield 129, 3) := by decide +kernel
theorem dX6_find_5 : decode cX6_find 5 = .ok (.iconst 0, 1) := by decide +kernel
theorem dX6_find_6 : decode cX6_find 6 = .ok (.istore_n 1, 1) := by decide +kernel
theorem dX6_find_7 : decode cX6_find 7 = .ok (.iload_n 1, 1) := by decide +kernel
theorem dX6_find_8 : decode cX6_find 8 = .ok (.aload_n 0, 1) := by decide +kernel
theorem dX6_find_9 : decode cX6_find 9 = .ok (.getfield 76, 3) := by decide +kernel
theorem dX6_find_12 : decode cX6_find 12 = .ok (.if_icmp .ge 47, 3) := by decide +kernel
theorem dX6_find_15 : decode cX6_find 15 = .ok (.aload_n 0, 1) := by decide +kernel
theorem dX6_find_16 : decode cX6_find 16 = .ok (.iload_n 1, 1) := by decide +kernel
theorem dX6_find_17 : decode cX6_find 17 = .ok (.invokevirtual 110, 3) := by decide +kernel
theorem dX6_find_20 : decode cX6_find 20 = .ok (.iconst 1, 1) := by decide +kernel
theorem dX6_find_21 : decode cX6_find 21 = .ok (.istore_n 2, 1) := by decide +kernel
theorem dX6_find_22 : decode cX6_find 22 = .ok (.iload_n 2, 1) := by decide +kernel
theorem dX6_find_23 : decode cX6_find 23 = .ok (.aload_n 0, 1) := by decide +kernel
theorem dX6_find_24 : decode cX6_find 24 = .ok (.getfield 69, 3) := by decide +kernel
theorem dX6_find_27 : decode cX6_find 27 = .ok (.if_icmp .gt 26, 3) := by decide +kernel
theorem dX6_find_30 : decode cX6_find 30 = .ok (.aload_n 0, 1) := by decide +kernel
theorem dX6_find_31 : decode cX6_find 31 = .ok (.getfield 60, 3) := by decide +kernel
theorem dX6_find_34 : decode cX6_find 34 = .ok (.bipush 13, 2) := by decide +kernel
theorem dX6_find_36 : decode cX6_find 36 = .ok (.iload_n 1, 1) := by decide +kernel
theorem dX6_find_37 : decode cX6_find 37 = .ok (.imul, 1) := by decide +kernel
theorem dX6_find_38 : decode cX6_find 38 = .ok (.iload_n 2, 1) := by decide +kernel
theorem dX6_find_39 : decode cX6_find 39 = .ok (.iadd, 1) := by decide +kernel
theorem dX6_find_40 : decode cX6_find 40 = .ok (.aload_n 0, 1) := by decide +kernel
theorem dX6_find_41 : decode cX6_find 41 = .ok (.getfield 33, 3) := by decide +kernel
theorem dX6_find_44 : decode cX6_find 44 = .ok (.iload_n 2, 1) := by decide +kernel
theorem dX6_find_45 : decode cX6_find 45 = .ok (.laload, 1) := by decide +kernel
theorem dX6_find_46 : decode cX6_find 46 = .ok (.lastore, 1) := by decide +kernel
theorem dX6_find_47 : decode cX6_find 47 = .ok (.iinc 2 1, 3) := by decide +kernel
theorem dX6_find_50 : decode cX6_find 50 = .ok (.goto (-28), 3) := by decide +kernel
theorem dX6_find_53 : decode cX6_find 53 = .ok (.iinc 1 1, 3) := by decide +kernel
theorem dX6_find_56 : decode cX6_find 56 = .ok (.goto (-49), 3) := by decide +kernel
theorem dX6_find_59 : decode cX6_find 59 = .ok (.iconst 1, 1) := by decide +kernel
theorem dX6_find_60 : decode cX6_find 60 = .ok (.istore_n 1, 1) := by decide +kernel
theorem dX6_find_61 : decode cX6_find 61 = .ok (.iload_n 1, 1) := by decide +kernel
theorem dX6_find_62 : decode cX6_find 62 = .ok (.aload_n 0, 1) := by decide +kernel
theorem dX6_find_63 : decode cX6_find 63 = .ok (.getfield 69, 3) := by decide +kernel
theorem dX6_find_66 : decode cX6_find 66 = .ok (.if_icmp .gt 119, 3) := by decide +kernel
theorem dX6_find_69 : decode cX6_find 69 = .ok (.iconst 0, 1) := by decide +kernel
theorem dX6_find_70 : decode cX6_find 70 = .ok (.istore_n 2, 1) := by decide +kernel
theorem dX6_find_71 : decode cX6_find 71 = .ok (.iload_n 2, 1) := by decide +kernel
theorem dX6_find_72 : decode cX6_find 72 = .ok (.aload_n 0, 1) := by decide +kernel
theorem dX6_find_73 : decode cX6_find 73 = .ok (.getfield 76, 3) := by decide +kernel
theorem dX6_find_76 : decode cX6_find 76 = .ok (.if_icmp .ge 27, 3) := by decide +kernel
theorem dX6_find_79 : decode cX6_find 79 = .ok (.aload_n 0, 1) := by decide +kernel
theorem dX6_find_80 : decode cX6_find 80 = .ok (.iconst 1, 1) := by decide +kernel
theorem dX6_find_81 : decode cX6_find 81 = .ok (.iload_n 1, 1) := by decide +kernel
theorem dX6_find_82 : decode cX6_find 82 = .ok (.iload_n 2, 1) := by decide +kernel
theorem dX6_find_83 : decode cX6_find 83 = .ok (.aload_n 0, 1) := by decide +kernel
theorem dX6_find_84 : decode cX6_find 84 = .ok (.getfield 60, 3) := by decide +kernel
theorem dX6_find_87 : decode cX6_find 87 = .ok (.bipush 13, 2) := by decide +kernel
theorem dX6_find_89 : decode cX6_find 89 = .ok (.iload_n 2, 1) := by decide +kernel
theorem dX6_find_90 : decode cX6_find 90 = .ok (.imul, 1) := by decide +kernel
theorem dX6_find_91 : decode cX6_find 91 = .ok (.iload_n 1, 1) := by decide +kernel
theorem dX6_find_92 : decode cX6_find 92 = .ok (.iadd, 1) := by decide +kernel
theorem dX6_find_93 : decode cX6_find 93 = .ok (.laload, 1) := by decide +kernel
theorem dX6_find_94 : decode cX6_find 94 = .ok (.invokevirtual 132, 3) := by decide +kernel
theorem dX6_find_97 : decode cX6_find 97 = .ok (.iinc 2 1, 3) := by decide +kernel
theorem dX6_find_100 : decode cX6_find 100 = .ok (.goto (-29), 3) := by decide +kernel
theorem dX6_find_103 : decode cX6_find 103 = .ok (.iconst 0, 1) := by decide +kernel
theorem dX6_find_104 : decode cX6_find 104 = .ok (.istore_n 2, 1) := by decide +kernel
theorem dX6_find_105 : decode cX6_find 105 = .ok (.iload_n 2, 1) := by decide +kernel
theorem dX6_find_106 : decode cX6_find 106 = .ok (.aload_n 0, 1) := by decide +kernel
theorem dX6_find_107 : decode cX6_find 107 = .ok (.getfield 76, 3) := by decide +kernel
theorem dX6_find_110 : decode cX6_find 110 = .ok (.if_icmp .ge 50, 3) := by decide +kernel
theorem dX6_find_113 : decode cX6_find 113 = .ok (.aload_n 0, 1) := by decide +kernel
theorem dX6_find_114 : decode cX6_find 114 = .ok (.getfield 16, 3) := by decide +kernel
theorem dX6_find_117 : decode cX6_find 117 = .ok (.bipush 13, 2) := by decide +kernel
theorem dX6_find_119 : decode cX6_find 119 = .ok (.iload_n 2, 1) := by decide +kernel
theorem dX6_find_120 : decode cX6_find 120 = .ok (.imul, 1) := by decide +kernel
theorem dX6_find_121 : decode cX6_find 121 = .ok (.iload_n 1, 1) := by decide +kernel
theorem dX6_find_122 : decode cX6_find 122 = .ok (.iadd, 1) := by decide +kernel
theorem dX6_find_123 : decode cX6_find 123 = .ok (.iaload, 1) := by decide +kernel
theorem dX6_find_124 : decode cX6_find 124 = .ok (.istore_n 3, 1) := by decide +kernel
theorem dX6_find_125 : decode cX6_find 125 = .ok (.aload_n 0, 1) := by decide +kernel
theorem dX6_find_126 : decode cX6_find 126 = .ok (.iconst 2, 1) := by decide +kernel
theorem dX6_find_127 : decode cX6_find 127 = .ok (.iload_n 1, 1) := by decide +kernel
theorem dX6_find_128 : decode cX6_find 128 = .ok (.iload_n 2, 1) := by decide +kernel
theorem dX6_find_129 : decode cX6_find 129 = .ok (.iload_n 3, 1) := by decide +kernel
theorem dX6_find_130 : decode cX6_find 130 = .ok (.ifCond .le 20, 3) := by decide +kernel
theorem dX6_find_133 : decode cX6_find 133 = .ok (.aload_n 0, 1) := by decide +kernel
theorem dX6_find_134 : decode cX6_find 134 = .ok (.getfield 7, 3) := by decide +kernel
theorem dX6_find_137 : decode cX6_find 137 = .ok (.bipush 8, 2) := by decide +kernel
theorem dX6_find_139 : decode cX6_find 139 = .ok (.iload_n 2, 1) := by decide +kernel
theorem dX6_find_140 : decode cX6_find 140 = .ok (.imul, 1) := by decide +kernel
theorem dX6_find_141 : decode cX6_find 141 = .ok (.iconst 2, 1) := by decide +kernel
theorem dX6_find_142 : decode cX6_find 142 = .ok (.iadd, 1) := by decide +kernel
theorem dX6_find_143 : decode cX6_find 143 = .ok (.iaload, 1) := by decide +kernel
theorem dX6_find_144 : decode cX6_find 144 = .ok (.iload_n 3, 1) := by decide +kernel
theorem dX6_find_145 : decode cX6_find 145 = .ok (.isub, 1) := by decide +kernel
theorem dX6_find_146 : decode cX6_find 146 = .ok (.i2l, 1) := by decide +kernel
theorem dX6_find_147 : decode cX6_find 147 = .ok (.goto 4, 3) := by decide +kernel
theorem dX6_find_150 : decode cX6_find 150 = .ok (.lconst 0, 1) := by decide +kernel
theorem dX6_find_151 : decode cX6_find 151 = .ok (.invokevirtual 132, 3) := by decide +kernel
theorem dX6_find_154 : decode cX6_find 154 = .ok (.iinc 2 1, 3) := by decide +kernel
theorem dX6_find_157 : decode cX6_find 157 = .ok (.goto (-52), 3) := by decide +kernel
theorem dX6_find_160 : decode cX6_find 160 = .ok (.aload_n 0, 1) := by decide +kernel
theorem dX6_find_161 : decode cX6_find 161 = .ok (.iconst 3, 1) := by decide +kernel
theorem dX6_find_162 : decode cX6_find 162 = .ok (.iload_n 1, 1) := by decide +kernel
theorem dX6_find_163 : decode cX6_find 163 = .ok (.bipush (-3), 2) := by decide +kernel
theorem dX6_find_165 : decode cX6_find 165 = .ok (.aload_n 0, 1) := by decide +kernel
theorem dX6_find_166 : decode cX6_find 166 = .ok (.iload_n 1, 1) := by decide +kernel
theorem dX6_find_167 : decode cX6_find 167 = .ok (.invokevirtual 121, 3) := by decide +kernel
theorem dX6_find_170 : decode cX6_find 170 = .ok (.aload_n 0, 1) := by decide +kernel
theorem dX6_find_171 : decode cX6_find 171 = .ok (.getfield 101, 3) := by decide +kernel
theorem dX6_find_174 : decode cX6_find 174 = .ok (.i2l, 1) := by decide +kernel
theorem dX6_find_175 : decode cX6_find 175 = .ok (.lsub, 1) := by decide +kernel
theorem dX6_find_176 : decode cX6_find 176 = .ok (.invokevirtual 132, 3) := by decide +kernel
theorem dX6_find_179 : decode cX6_find 179 = .ok (.iinc 1 1, 3) := by decide +kernel
theorem dX6_find_182 : decode cX6_find 182 = .ok (.goto (-121), 3) := by decide +kernel
theorem dX6_find_185 : decode cX6_find 185 = .ok (.return_, 1) := by decide +kernel
set_option maxRecDepth 20000 in
theorem ggX6_faults_X6_find : GoodIn wsX6_faults wsX6_find := goodIn_r _ [7, 2, 8, 9, 10, 11, 12, 13, 14, 15, 16, 17, 6, 18, 19, 20, 21, 22, 23, 24, 25, 26, 27, 28, 29, 30, 31, 32, 33, 34, 35, 36, 37, 38, 39, 40, 41, 42, 43, 44, 45, 46, 47, 48, 49, 50, 51, 52, 53, 54, 55, 56, 57, 58, 59, 60, 61, 62, 63, 64, 65, 66, 67, 68, 69, 70, 71, 72, 73, 74, 75] (by decide +kernel) (by decide +kernel)
set_option maxRecDepth 20000 in
theorem gX6_faults_X6_find : GoodIn wsX6_faults (wsV RX6 136 RX6 yX6_find wsX6_find) := goodIn_app (goodIn_of _ (by decide +kernel)) ggX6_faults_X6_find
theorem dX6_faults_0 : decode cX6_faults 0 = .ok (.aload_n 0, 1) := by decide +kernel
theorem dX6_faults_1 : decode cX6_faults 1 = .ok (.iconst 0, 1) := by decide +kernel
theorem dX6_faults_2 : decode cX6_faults 2 = .ok (.putfield 73, 3) := by decide +kernel
theorem dX6_faults_5 : decode cX6_faults 5 = .ok (.aload_n 0, 1) := by decide +kernel
theorem dX6_faults_6 : decode cX6_faults 6 = .ok (.invokevirtual 136, 3) := by decide +kernel
theorem dX6_faults_9 : decode cX6_faults 9 = .ok (.aload_n 0, 1) := by decide +kernel
theorem dX6_faults_10 : decode cX6_faults 10 = .ok (.getfield 129, 3) := by decide +kernel
theorem dX6_faults_13 : decode cX6_faults 13 = .ok (.ireturn, 1) := by decide +kernel
set_option maxRecDepth 20000 in
theorem ggX6_fault_X6_find : GoodIn wsX6_fault wsX6_find := goodIn_r _ [11, 2, 12, 13, 14, 15, 16, 17, 18, 19, 20, 21, 10, 22, 23, 24, 25, 26, 27, 28, 29, 30, 31, 32, 33, 34, 35, 3, 4, 5, 6, 36, 37, 38, 39, 40, 41, 42, 43, 44, 45, 46, 47, 48, 49, 50, 54, 55, 56, 57, 58, 59, 60, 61, 62, 63, 64, 65, 66, 67, 68, 69, 70, 71, 72, 73, 74, 75, 76, 77, 78] (by decide +kernel) (by decide +kernel)
set_option maxRecDepth 20000 in
theorem gX6_fault_X6_find : GoodIn wsX6_fault (wsV RX6 136 RX6 yX6_find wsX6_find) := goodIn_app (goodIn_of _ (by decide +kernel)) ggX6_fault_X6_find
set_option maxRecDepth 20000 in
theorem ggX6_fault_X6_in : GoodIn wsX6_fault wsX6_in := goodIn_r _ [53] (by decide +kernel) (by decide +kernel)
set_option maxRecDepth 20000 in
theorem gX6_fault_X6_in : GoodIn wsX6_fault (va_wsS RX6 79 yX6_in wsX6_in) := goodIn_app (goodIn_of _ (by decide +kernel)) ggX6_fault_X6_in
theorem dX6_fault_0 : decode cX6_fault 0 = .ok (.aload_n 0, 1) := by decide +kernel
theorem dX6_fault_1 : decode cX6_fault 1 = .ok (.iconst 0, 1) := by decide +kernel
theorem dX6_fault_2 : decode cX6_fault 2 = .ok (.putfield 73, 3) := by decide +kernel
theorem dX6_fault_5 : decode cX6_fault 5 = .ok (.aload_n 0, 1) := by decide +kernel
theorem dX6_fault_6 : decode cX6_fault 6 = .ok (.invokevirtual 136, 3) := by decide +kernel
theorem dX6_fault_9 : decode cX6_fault 9 = .ok (.iload_n 1, 1) := by decide +kernel
theorem dX6_fault_10 : decode cX6_fault 10 = .ok (.iconst 0, 1) := by decide +kernel
theorem dX6_fault_11 : decode cX6_fault 11 = .ok (.aload_n 0, 1) := by decide +kernel
theorem dX6_fault_12 : decode cX6_fault 12 = .ok (.getfield 129, 3) := by decide +kernel
theorem dX6_fault_15 : decode cX6_fault 15 = .ok (.iconst 1, 1) := by decide +kernel
theorem dX6_fault_16 : decode cX6_fault 16 = .ok (.isub, 1) := by decide +kernel
theorem dX6_fault_17 : decode cX6_fault 17 = .ok (.invokestatic 79, 3) := by decide +kernel
theorem dX6_fault_20 : decode cX6_fault 20 = .ok (.ifCond .ne 5, 3) := by decide +kernel
theorem dX6_fault_23 : decode cX6_fault 23 = .ok (.iconst (-1), 1) := by decide +kernel
theorem dX6_fault_24 : decode cX6_fault 24 = .ok (.ireturn, 1) := by decide +kernel
theorem dX6_fault_25 : decode cX6_fault 25 = .ok (.iload_n 2, 1) := by decide +kernel
theorem dX6_fault_26 : decode cX6_fault 26 = .ok (.tableswitch 59 0 3 #[30, 37, 44, 51], 30) := by decide +kernel
theorem dX6_fault_56 : decode cX6_fault 56 = .ok (.aload_n 0, 1) := by decide +kernel
theorem dX6_fault_57 : decode cX6_fault 57 = .ok (.getfield 48, 3) := by decide +kernel
theorem dX6_fault_60 : decode cX6_fault 60 = .ok (.iload_n 1, 1) := by decide +kernel
theorem dX6_fault_61 : decode cX6_fault 61 = .ok (.iaload, 1) := by decide +kernel
theorem dX6_fault_62 : decode cX6_fault 62 = .ok (.ireturn, 1) := by decide +kernel
theorem dX6_fault_63 : decode cX6_fault 63 = .ok (.aload_n 0, 1) := by decide +kernel
theorem dX6_fault_64 : decode cX6_fault 64 = .ok (.getfield 51, 3) := by decide +kernel
theorem dX6_fault_67 : decode cX6_fault 67 = .ok (.iload_n 1, 1) := by decide +kernel
theorem dX6_fault_68 : decode cX6_fault 68 = .ok (.iaload, 1) := by decide +kernel
theorem dX6_fault_69 : decode cX6_fault 69 = .ok (.ireturn, 1) := by decide +kernel
theorem dX6_fault_70 : decode cX6_fault 70 = .ok (.aload_n 0, 1) := by decide +kernel
theorem dX6_fault_71 : decode cX6_fault 71 = .ok (.getfield 54, 3) := by decide +kernel
theorem dX6_fault_74 : decode cX6_fault 74 = .ok (.iload_n 1, 1) := by decide +kernel
theorem dX6_fault_75 : decode cX6_fault 75 = .ok (.iaload, 1) := by decide +kernel
theorem dX6_fault_76 : decode cX6_fault 76 = .ok (.ireturn, 1) := by decide +kernel
theorem dX6_fault_77 : decode cX6_fault 77 = .ok (.aload_n 0, 1) := by decide +kernel
theorem dX6_fault_78 : decode cX6_fault 78 = .ok (.getfield 57, 3) := by decide +kernel
theorem dX6_fault_81 : decode cX6_fault 81 = .ok (.iload_n 1, 1) := by decide +kernel
theorem dX6_fault_82 : decode cX6_fault 82 = .ok (.laload, 1) := by decide +kernel
theorem dX6_fault_83 : decode cX6_fault 83 = .ok (.l2i, 1) := by decide +kernel
theorem dX6_fault_84 : decode cX6_fault 84 = .ok (.ireturn, 1) := by decide +kernel
theorem dX6_fault_85 : decode cX6_fault 85 = .ok (.bipush (-2), 2) := by decide +kernel
theorem dX6_fault_87 : decode cX6_fault 87 = .ok (.ireturn, 1) := by decide +kernel
set_option maxRecDepth 20000 in
theorem ggX6_alone_X6_last : GoodIn wsX6_alone wsX6_last := goodIn_r _ [11, 1, 2, 16, 17, 18, 19, 20, 21, 22, 23, 24, 25, 26, 27, 28, 29, 30, 31, 32, 33, 34, 35, 36, 37, 38, 39, 40] (by decide +kernel) (by decide +kernel)
set_option maxRecDepth 20000 in
theorem gX6_alone_X6_last : GoodIn wsX6_alone (wsV RX6 139 RX6 yX6_last wsX6_last) := goodIn_app (goodIn_of _ (by decide +kernel)) ggX6_alone_X6_last
set_option maxRecDepth 20000 in
theorem ggX6_alone_X6_priceTo : GoodIn wsX6_alone wsX6_priceTo := goodIn_r _ [15, 1, 5, 4, 16, 17, 18, 19, 20, 21, 22, 23, 24, 25, 26, 27, 28, 29, 30, 31, 32, 33, 34, 35, 36, 37, 38, 39, 40] (by decide +kernel) (by decide +kernel)
set_option maxRecDepth 20000 in
theorem gX6_alone_X6_priceTo : GoodIn wsX6_alone (wsV RX6 142 RX6 yX6_priceTo wsX6_priceTo) := goodIn_app (goodIn_of _ (by decide +kernel)) ggX6_alone_X6_priceTo
theorem dX6_alone_0 : decode cX6_alone 0 = .ok (.aload_n 0, 1) := by decide +kernel
theorem dX6_alone_1 : decode cX6_alone 1 = .ok (.getfield 7, 3) := by decide +kernel
theorem dX6_alone_4 : decode cX6_alone 4 = .ok (.bipush 8, 2) := by decide +kernel
theorem dX6_alone_6 : decode cX6_alone 6 = .ok (.iload_n 1, 1) := by decide +kernel
theorem dX6_alone_7 : decode cX6_alone 7 = .ok (.imul, 1) := by decide +kernel
theorem dX6_alone_8 : decode cX6_alone 8 = .ok (.iconst 4, 1) := by decide +kernel
theorem dX6_alone_9 : decode cX6_alone 9 = .ok (.iadd, 1) := by decide +kernel
theorem dX6_alone_10 : decode cX6_alone 10 = .ok (.iaload, 1) := by decide +kernel
theorem dX6_alone_11 : decode cX6_alone 11 = .ok (.istore_n 2, 1) := by decide +kernel
theorem dX6_alone_12 : decode cX6_alone 12 = .ok (.iconst 1, 1) := by decide +kernel
theorem dX6_alone_13 : decode cX6_alone 13 = .ok (.istore_n 3, 1) := by decide +kernel
theorem dX6_alone_14 : decode cX6_alone 14 = .ok (.iload_n 3, 1) := by decide +kernel
theorem dX6_alone_15 : decode cX6_alone 15 = .ok (.aload_n 0, 1) := by decide +kernel
theorem dX6_alone_16 : decode cX6_alone 16 = .ok (.getfield 69, 3) := by decide +kernel
theorem dX6_alone_19 : decode cX6_alone 19 = .ok (.if_icmp .gt 66, 3) := by decide +kernel
theorem dX6_alone_22 : decode cX6_alone 22 = .ok (.iload_n 2, 1) := by decide +kernel
theorem dX6_alone_23 : decode cX6_alone 23 = .ok (.aload_n 0, 1) := by decide +kernel
theorem dX6_alone_24 : decode cX6_alone 24 = .ok (.getfield 13, 3) := by decide +kernel
theorem dX6_alone_27 : decode cX6_alone 27 = .ok (.bipush 13, 2) := by decide +kernel
theorem dX6_alone_29 : decode cX6_alone 29 = .ok (.iload_n 1, 1) := by decide +kernel
theorem dX6_alone_30 : decode cX6_alone 30 = .ok (.imul, 1) := by decide +kernel
theorem dX6_alone_31 : decode cX6_alone 31 = .ok (.iload_n 3, 1) := by decide +kernel
theorem dX6_alone_32 : decode cX6_alone 32 = .ok (.iadd, 1) := by decide +kernel
theorem dX6_alone_33 : decode cX6_alone 33 = .ok (.iaload, 1) := by decide +kernel
theorem dX6_alone_34 : decode cX6_alone 34 = .ok (.if_icmp .ge 7, 3) := by decide +kernel
theorem dX6_alone_37 : decode cX6_alone 37 = .ok (.iload_n 2, 1) := by decide +kernel
theorem dX6_alone_38 : decode cX6_alone 38 = .ok (.goto 14, 3) := by decide +kernel
theorem dX6_alone_41 : decode cX6_alone 41 = .ok (.aload_n 0, 1) := by decide +kernel
theorem dX6_alone_42 : decode cX6_alone 42 = .ok (.getfield 13, 3) := by decide +kernel
theorem dX6_alone_45 : decode cX6_alone 45 = .ok (.bipush 13, 2) := by decide +kernel
theorem dX6_alone_47 : decode cX6_alone 47 = .ok (.iload_n 1, 1) := by decide +kernel
theorem dX6_alone_48 : decode cX6_alone 48 = .ok (.imul, 1) := by decide +kernel
theorem dX6_alone_49 : decode cX6_alone 49 = .ok (.iload_n 3, 1) := by decide +kernel
theorem dX6_alone_50 : decode cX6_alone 50 = .ok (.iadd, 1) := by decide +kernel
theorem dX6_alone_51 : decode cX6_alone 51 = .ok (.iaload, 1) := by decide +kernel
theorem dX6_alone_52 : decode cX6_alone 52 = .ok (.istore 4, 2) := by decide +kernel
theorem dX6_alone_54 : decode cX6_alone 54 = .ok (.aload_n 0, 1) := by decide +kernel
theorem dX6_alone_55 : decode cX6_alone 55 = .ok (.getfield 63, 3) := by decide +kernel
theorem dX6_alone_58 : decode cX6_alone 58 = .ok (.iload_n 3, 1) := by decide +kernel
theorem dX6_alone_59 : decode cX6_alone 59 = .ok (.aload_n 0, 1) := by decide +kernel
theorem dX6_alone_60 : decode cX6_alone 60 = .ok (.getfield 13, 3) := by decide +kernel
theorem dX6_alone_63 : decode cX6_alone 63 = .ok (.bipush 13, 2) := by decide +kernel
theorem dX6_alone_65 : decode cX6_alone 65 = .ok (.iload_n 1, 1) := by decide +kernel
theorem dX6_alone_66 : decode cX6_alone 66 = .ok (.imul, 1) := by decide +kernel
theorem dX6_alone_67 : decode cX6_alone 67 = .ok (.iload_n 3, 1) := by decide +kernel
theorem dX6_alone_68 : decode cX6_alone 68 = .ok (.iadd, 1) := by decide +kernel
theorem dX6_alone_69 : decode cX6_alone 69 = .ok (.iaload, 1) := by decide +kernel
theorem dX6_alone_70 : decode cX6_alone 70 = .ok (.iload 4, 2) := by decide +kernel
theorem dX6_alone_72 : decode cX6_alone 72 = .ok (.isub, 1) := by decide +kernel
theorem dX6_alone_73 : decode cX6_alone 73 = .ok (.iastore, 1) := by decide +kernel
theorem dX6_alone_74 : decode cX6_alone 74 = .ok (.iload_n 2, 1) := by decide +kernel
theorem dX6_alone_75 : decode cX6_alone 75 = .ok (.iload 4, 2) := by decide +kernel
theorem dX6_alone_77 : decode cX6_alone 77 = .ok (.isub, 1) := by decide +kernel
theorem dX6_alone_78 : decode cX6_alone 78 = .ok (.istore_n 2, 1) := by decide +kernel
theorem dX6_alone_79 : decode cX6_alone 79 = .ok (.iinc 3 1, 3) := by decide +kernel
theorem dX6_alone_82 : decode cX6_alone 82 = .ok (.goto (-68), 3) := by decide +kernel
theorem dX6_alone_85 : decode cX6_alone 85 = .ok (.aload_n 0, 1) := by decide +kernel
theorem dX6_alone_86 : decode cX6_alone 86 = .ok (.getfield 66, 3) := by decide +kernel
theorem dX6_alone_89 : decode cX6_alone 89 = .ok (.aload_n 0, 1) := by decide +kernel
theorem dX6_alone_90 : decode cX6_alone 90 = .ok (.getfield 69, 3) := by decide +kernel
theorem dX6_alone_93 : decode cX6_alone 93 = .ok (.iconst 1, 1) := by decide +kernel
theorem dX6_alone_94 : decode cX6_alone 94 = .ok (.iadd, 1) := by decide +kernel
theorem dX6_alone_95 : decode cX6_alone 95 = .ok (.lconst 0, 1) := by decide +kernel
theorem dX6_alone_96 : decode cX6_alone 96 = .ok (.lastore, 1) := by decide +kernel
theorem dX6_alone_97 : decode cX6_alone 97 = .ok (.aload_n 0, 1) := by decide +kernel
theorem dX6_alone_98 : decode cX6_alone 98 = .ok (.getfield 69, 3) := by decide +kernel
theorem dX6_alone_101 : decode cX6_alone 101 = .ok (.istore_n 3, 1) := by decide +kernel
theorem dX6_alone_102 : decode cX6_alone 102 = .ok (.iload_n 3, 1) := by decide +kernel
theorem dX6_alone_103 : decode cX6_alone 103 = .ok (.iconst 1, 1) := by decide +kernel
theorem dX6_alone_104 : decode cX6_alone 104 = .ok (.if_icmp .lt 101, 3) := by decide +kernel
theorem dX6_alone_107 : decode cX6_alone 107 = .ok (.aload_n 0, 1) := by decide +kernel
theorem dX6_alone_108 : decode cX6_alone 108 = .ok (.getfield 66, 3) := by decide +kernel
theorem dX6_alone_111 : decode cX6_alone 111 = .ok (.iload_n 3, 1) := by decide +kernel
theorem dX6_alone_112 : decode cX6_alone 112 = .ok (.aload_n 0, 1) := by decide +kernel
theorem dX6_alone_113 : decode cX6_alone 113 = .ok (.getfield 63, 3) := by decide +kernel
theorem dX6_alone_116 : decode cX6_alone 116 = .ok (.iload_n 3, 1) := by decide +kernel
theorem dX6_alone_117 : decode cX6_alone 117 = .ok (.iaload, 1) := by decide +kernel
theorem dX6_alone_118 : decode cX6_alone 118 = .ok (.ifCond .ne 14, 3) := by decide +kernel
theorem dX6_alone_121 : decode cX6_alone 121 = .ok (.aload_n 0, 1) := by decide +kernel
theorem dX6_alone_122 : decode cX6_alone 122 = .ok (.getfield 66, 3) := by decide +kernel
theorem dX6_alone_125 : decode cX6_alone 125 = .ok (.iload_n 3, 1) := by decide +kernel
theorem dX6_alone_126 : decode cX6_alone 126 = .ok (.iconst 1, 1) := by decide +kernel
theorem dX6_alone_127 : decode cX6_alone 127 = .ok (.iadd, 1) := by decide +kernel
theorem dX6_alone_128 : decode cX6_alone 128 = .ok (.laload, 1) := by decide +kernel
theorem dX6_alone_129 : decode cX6_alone 129 = .ok (.goto 6, 3) := by decide +kernel
theorem dX6_alone_132 : decode cX6_alone 132 = .ok (.ldc2_w 108, 3) := by decide +kernel
theorem dX6_alone_135 : decode cX6_alone 135 = .ok (.lastore, 1) := by decide +kernel
theorem dX6_alone_136 : decode cX6_alone 136 = .ok (.iload_n 3, 1) := by decide +kernel
theorem dX6_alone_137 : decode cX6_alone 137 = .ok (.istore 4, 2) := by decide +kernel
theorem dX6_alone_139 : decode cX6_alone 139 = .ok (.iload 4, 2) := by decide +kernel
theorem dX6_alone_141 : decode cX6_alone 141 = .ok (.aload_n 0, 1) := by decide +kernel
theorem dX6_alone_142 : decode cX6_alone 142 = .ok (.iload_n 1, 1) := by decide +kernel
theorem dX6_alone_143 : decode cX6_alone 143 = .ok (.iload_n 3, 1) := by decide +kernel
theorem dX6_alone_144 : decode cX6_alone 144 = .ok (.invokevirtual 139, 3) := by decide +kernel
theorem dX6_alone_147 : decode cX6_alone 147 = .ok (.if_icmp .gt 52, 3) := by decide +kernel
theorem dX6_alone_150 : decode cX6_alone 150 = .ok (.aload_n 0, 1) := by decide +kernel
theorem dX6_alone_151 : decode cX6_alone 151 = .ok (.iload_n 1, 1) := by decide +kernel
theorem dX6_alone_152 : decode cX6_alone 152 = .ok (.iload_n 3, 1) := by decide +kernel
theorem dX6_alone_153 : decode cX6_alone 153 = .ok (.iload 4, 2) := by decide +kernel
theorem dX6_alone_155 : decode cX6_alone 155 = .ok (.invokevirtual 142, 3) := by decide +kernel
theorem dX6_alone_158 : decode cX6_alone 158 = .ok (.lstore 5, 2) := by decide +kernel
theorem dX6_alone_160 : decode cX6_alone 160 = .ok (.aload_n 0, 1) := by decide +kernel
theorem dX6_alone_161 : decode cX6_alone 161 = .ok (.getfield 66, 3) := by decide +kernel
theorem dX6_alone_164 : decode cX6_alone 164 = .ok (.iload_n 3, 1) := by decide +kernel
theorem dX6_alone_165 : decode cX6_alone 165 = .ok (.laload, 1) := by decide +kernel
theorem dX6_alone_166 : decode cX6_alone 166 = .ok (.ldc2_w 108, 3) := by decide +kernel
theorem dX6_alone_169 : decode cX6_alone 169 = .ok (.lcmp, 1) := by decide +kernel
theorem dX6_alone_170 : decode cX6_alone 170 = .ok (.ifCond .eq 15, 3) := by decide +kernel
theorem dX6_alone_173 : decode cX6_alone 173 = .ok (.lload 5, 2) := by decide +kernel
theorem dX6_alone_175 : decode cX6_alone 175 = .ok (.aload_n 0, 1) := by decide +kernel
theorem dX6_alone_176 : decode cX6_alone 176 = .ok (.getfield 66, 3) := by decide +kernel
theorem dX6_alone_179 : decode cX6_alone 179 = .ok (.iload_n 3, 1) := by decide +kernel
theorem dX6_alone_180 : decode cX6_alone 180 = .ok (.laload, 1) := by decide +kernel
theorem dX6_alone_181 : decode cX6_alone 181 = .ok (.lcmp, 1) := by decide +kernel
theorem dX6_alone_182 : decode cX6_alone 182 = .ok (.ifCond .ge 11, 3) := by decide +kernel
theorem dX6_alone_185 : decode cX6_alone 185 = .ok (.aload_n 0, 1) := by decide +kernel
theorem dX6_alone_186 : decode cX6_alone 186 = .ok (.getfield 66, 3) := by decide +kernel
theorem dX6_alone_189 : decode cX6_alone 189 = .ok (.iload_n 3, 1) := by decide +kernel
theorem dX6_alone_190 : decode cX6_alone 190 = .ok (.lload 5, 2) := by decide +kernel
theorem dX6_alone_192 : decode cX6_alone 192 = .ok (.lastore, 1) := by decide +kernel
theorem dX6_alone_193 : decode cX6_alone 193 = .ok (.iinc 4 1, 3) := by decide +kernel
theorem dX6_alone_196 : decode cX6_alone 196 = .ok (.goto (-57), 3) := by decide +kernel
theorem dX6_alone_199 : decode cX6_alone 199 = .ok (.iinc 3 (-1), 3) := by decide +kernel
theorem dX6_alone_202 : decode cX6_alone 202 = .ok (.goto (-100), 3) := by decide +kernel
theorem dX6_alone_205 : decode cX6_alone 205 = .ok (.return_, 1) := by decide +kernel
theorem dX6_last_0 : decode cX6_last 0 = .ok (.aload_n 0, 1) := by decide +kernel
theorem dX6_last_1 : decode cX6_last 1 = .ok (.getfield 7, 3) := by decide +kernel
theorem dX6_last_4 : decode cX6_last 4 = .ok (.bipush 8, 2) := by decide +kernel
theorem dX6_last_6 : decode cX6_last 6 = .ok (.iload_n 1, 1) := by decide +kernel
theorem dX6_last_7 : decode cX6_last 7 = .ok (.imul, 1) := by decide +kernel
theorem dX6_last_8 : decode cX6_last 8 = .ok (.iconst 3, 1) := by decide +kernel
theorem dX6_last_9 : decode cX6_last 9 = .ok (.iadd, 1) := by decide +kernel
theorem dX6_last_10 : decode cX6_last 10 = .ok (.iaload, 1) := by decide +kernel
theorem dX6_last_11 : decode cX6_last 11 = .ok (.istore_n 3, 1) := by decide +kernel
theorem dX6_last_12 : decode cX6_last 12 = .ok (.iload_n 3, 1) := by decide +kernel
theorem dX6_last_13 : decode cX6_last 13 = .ok (.ifCond .le 19, 3) := by decide +kernel
theorem dX6_last_16 : decode cX6_last 16 = .ok (.iload_n 2, 1) := by decide +kernel
theorem dX6_last_17 : decode cX6_last 17 = .ok (.iload_n 3, 1) := by decide +kernel
theorem dX6_last_18 : decode cX6_last 18 = .ok (.iadd, 1) := by decide +kernel
theorem dX6_last_19 : decode cX6_last 19 = .ok (.aload_n 0, 1) := by decide +kernel
theorem dX6_last_20 : decode cX6_last 20 = .ok (.getfield 69, 3) := by decide +kernel
theorem dX6_last_23 : decode cX6_last 23 = .ok (.if_icmp .ge 9, 3) := by decide +kernel
theorem dX6_last_26 : decode cX6_last 26 = .ok (.iload_n 2, 1) := by decide +kernel
theorem dX6_last_27 : decode cX6_last 27 = .ok (.iload_n 3, 1) := by decide +kernel
theorem dX6_last_28 : decode cX6_last 28 = .ok (.iadd, 1) := by decide +kernel
theorem dX6_last_29 : decode cX6_last 29 = .ok (.goto 7, 3) := by decide +kernel
theorem dX6_last_32 : decode cX6_last 32 = .ok (.aload_n 0, 1) := by decide +kernel
theorem dX6_last_33 : decode cX6_last 33 = .ok (.getfield 69, 3) := by decide +kernel
theorem dX6_last_36 : decode cX6_last 36 = .ok (.ireturn, 1) := by decide +kernel
theorem dX6_priceTo_0 : decode cX6_priceTo 0 = .ok (.aload_n 0, 1) := by decide +kernel
theorem dX6_priceTo_1 : decode cX6_priceTo 1 = .ok (.getfield 7, 3) := by decide +kernel
theorem dX6_priceTo_4 : decode cX6_priceTo 4 = .ok (.bipush 8, 2) := by decide +kernel
theorem dX6_priceTo_6 : decode cX6_priceTo 6 = .ok (.iload_n 1, 1) := by decide +kernel
theorem dX6_priceTo_7 : decode cX6_priceTo 7 = .ok (.imul, 1) := by decide +kernel
theorem dX6_priceTo_8 : decode cX6_priceTo 8 = .ok (.iaload, 1) := by decide +kernel
theorem dX6_priceTo_9 : decode cX6_priceTo 9 = .ok (.i2l, 1) := by decide +kernel
theorem dX6_priceTo_10 : decode cX6_priceTo 10 = .ok (.aload_n 0, 1) := by decide +kernel
theorem dX6_priceTo_11 : decode cX6_priceTo 11 = .ok (.getfield 66, 3) := by decide +kernel
theorem dX6_priceTo_14 : decode cX6_priceTo 14 = .ok (.iload_n 3, 1) := by decide +kernel
theorem dX6_priceTo_15 : decode cX6_priceTo 15 = .ok (.iconst 1, 1) := by decide +kernel
theorem dX6_priceTo_16 : decode cX6_priceTo 16 = .ok (.iadd, 1) := by decide +kernel
theorem dX6_priceTo_17 : decode cX6_priceTo 17 = .ok (.laload, 1) := by decide +kernel
theorem dX6_priceTo_18 : decode cX6_priceTo 18 = .ok (.ladd, 1) := by decide +kernel
theorem dX6_priceTo_19 : decode cX6_priceTo 19 = .ok (.lstore 4, 2) := by decide +kernel
theorem dX6_priceTo_21 : decode cX6_priceTo 21 = .ok (.iload_n 2, 1) := by decide +kernel
theorem dX6_priceTo_22 : decode cX6_priceTo 22 = .ok (.istore 6, 2) := by decide +kernel
theorem dX6_priceTo_24 : decode cX6_priceTo 24 = .ok (.iload 6, 2) := by decide +kernel
theorem dX6_priceTo_26 : decode cX6_priceTo 26 = .ok (.iload_n 3, 1) := by decide +kernel
theorem dX6_priceTo_27 : decode cX6_priceTo 27 = .ok (.if_icmp .gt 41, 3) := by decide +kernel
theorem dX6_priceTo_30 : decode cX6_priceTo 30 = .ok (.lload 4, 2) := by decide +kernel
theorem dX6_priceTo_32 : decode cX6_priceTo 32 = .ok (.aload_n 0, 1) := by decide +kernel
theorem dX6_priceTo_33 : decode cX6_priceTo 33 = .ok (.getfield 63, 3) := by decide +kernel
theorem dX6_priceTo_36 : decode cX6_priceTo 36 = .ok (.iload 6, 2) := by decide +kernel
theorem dX6_priceTo_38 : decode cX6_priceTo 38 = .ok (.iaload, 1) := by decide +kernel
theorem dX6_priceTo_39 : decode cX6_priceTo 39 = .ok (.i2l, 1) := by decide +kernel
theorem dX6_priceTo_40 : decode cX6_priceTo 40 = .ok (.iload 6, 2) := by decide +kernel
theorem dX6_priceTo_42 : decode cX6_priceTo 42 = .ok (.iload_n 2, 1) := by decide +kernel
theorem dX6_priceTo_43 : decode cX6_priceTo 43 = .ok (.isub, 1) := by decide +kernel
theorem dX6_priceTo_44 : decode cX6_priceTo 44 = .ok (.i2l, 1) := by decide +kernel
theorem dX6_priceTo_45 : decode cX6_priceTo 45 = .ok (.lmul, 1) := by decide +kernel
theorem dX6_priceTo_46 : decode cX6_priceTo 46 = .ok (.aload_n 0, 1) := by decide +kernel
theorem dX6_priceTo_47 : decode cX6_priceTo 47 = .ok (.getfield 7, 3) := by decide +kernel
theorem dX6_priceTo_50 : decode cX6_priceTo 50 = .ok (.bipush 8, 2) := by decide +kernel
theorem dX6_priceTo_52 : decode cX6_priceTo 52 = .ok (.iload_n 1, 1) := by decide +kernel
theorem dX6_priceTo_53 : decode cX6_priceTo 53 = .ok (.imul, 1) := by decide +kernel
theorem dX6_priceTo_54 : decode cX6_priceTo 54 = .ok (.iconst 1, 1) := by decide +kernel
theorem dX6_priceTo_55 : decode cX6_priceTo 55 = .ok (.iadd, 1) := by decide +kernel
theorem dX6_priceTo_56 : decode cX6_priceTo 56 = .ok (.iaload, 1) := by decide +kernel
theorem dX6_priceTo_57 : decode cX6_priceTo 57 = .ok (.i2l, 1) := by decide +kernel
theorem dX6_priceTo_58 : decode cX6_priceTo 58 = .ok (.lmul, 1) := by decide +kernel
theorem dX6_priceTo_59 : decode cX6_priceTo 59 = .ok (.ladd, 1) := by decide +kernel
theorem dX6_priceTo_60 : decode cX6_priceTo 60 = .ok (.lstore 4, 2) := by decide +kernel
theorem dX6_priceTo_62 : decode cX6_priceTo 62 = .ok (.iinc 6 1, 3) := by decide +kernel
theorem dX6_priceTo_65 : decode cX6_priceTo 65 = .ok (.goto (-41), 3) := by decide +kernel
theorem dX6_priceTo_68 : decode cX6_priceTo 68 = .ok (.lload 4, 2) := by decide +kernel
theorem dX6_priceTo_70 : decode cX6_priceTo 70 = .ok (.lreturn, 1) := by decide +kernel
set_option maxRecDepth 20000 in
theorem ggX6_best_X6_isItem : GoodIn wsX6_best wsX6_isItem := goodIn_r _ [8, 9, 10, 11, 7, 12, 29, 30, 31, 32, 33, 34, 35, 36, 37, 38, 39, 40, 41, 42, 43, 44, 45, 46, 47, 48, 49, 50, 51, 52, 53] (by decide +kernel) (by decide +kernel)
set_option maxRecDepth 20000 in
theorem gX6_best_X6_isItem : GoodIn wsX6_best (wsV RX6 83 RX6 yX6_isItem wsX6_isItem) := goodIn_app (goodIn_of _ (by decide +kernel)) ggX6_best_X6_isItem
set_option maxRecDepth 20000 in
theorem ggX6_best_X6_alone : GoodIn wsX6_best wsX6_alone := goodIn_r _ [16, 17, 18, 19, 20, 3, 2, 21, 22, 23, 7, 24, 25, 26, 27, 28, 29, 30, 31, 32, 33, 34, 35, 36, 37, 38, 39, 40, 41, 42, 43, 44, 45, 46, 47, 48, 49, 50, 51, 52, 53] (by decide +kernel) (by decide +kernel)
set_option maxRecDepth 20000 in
theorem gX6_best_X6_alone : GoodIn wsX6_best (wsV RX6 146 RX6 yX6_alone wsX6_alone) := goodIn_app (goodIn_of _ (by decide +kernel)) ggX6_best_X6_alone
theorem dX6_best_0 : decode cX6_best 0 = .ok (.aload_n 0, 1) := by decide +kernel
theorem dX6_best_1 : decode cX6_best 1 = .ok (.iconst 0, 1) := by decide +kernel
theorem dX6_best_2 : decode cX6_best 2 = .ok (.putfield 73, 3) := by decide +kernel
theorem dX6_best_5 : decode cX6_best 5 = .ok (.aload_n 0, 1) := by decide +kernel
theorem dX6_best_6 : decode cX6_best 6 = .ok (.iload_n 1, 1) := by decide +kernel
theorem dX6_best_7 : decode cX6_best 7 = .ok (.invokevirtual 83, 3) := by decide +kernel
theorem dX6_best_10 : decode cX6_best 10 = .ok (.ifCond .ne 7, 3) := by decide +kernel
theorem dX6_best_13 : decode cX6_best 13 = .ok (.ldc2_w 108, 3) := by decide +kernel
theorem dX6_best_16 : decode cX6_best 16 = .ok (.lreturn, 1) := by decide +kernel
theorem dX6_best_17 : decode cX6_best 17 = .ok (.aload_n 0, 1) := by decide +kernel
theorem dX6_best_18 : decode cX6_best 18 = .ok (.iload_n 1, 1) := by decide +kernel
theorem dX6_best_19 : decode cX6_best 19 = .ok (.invokevirtual 146, 3) := by decide +kernel
theorem dX6_best_22 : decode cX6_best 22 = .ok (.aload_n 0, 1) := by decide +kernel
theorem dX6_best_23 : decode cX6_best 23 = .ok (.getfield 66, 3) := by decide +kernel
theorem dX6_best_26 : decode cX6_best 26 = .ok (.iconst 1, 1) := by decide +kernel
theorem dX6_best_27 : decode cX6_best 27 = .ok (.laload, 1) := by decide +kernel
theorem dX6_best_28 : decode cX6_best 28 = .ok (.lreturn, 1) := by decide +kernel
set_option maxRecDepth 20000 in
theorem ggX6_lot_X6_isItem : GoodIn wsX6_lot wsX6_isItem := goodIn_r _ [8, 9, 10, 11, 7, 12, 33, 34, 35, 36, 37, 38, 39, 40, 41, 42, 43, 44, 45, 46, 47, 48, 49, 50, 51, 52, 53, 54, 55, 56, 57] (by decide +kernel) (by decide +kernel)
set_option maxRecDepth 20000 in
theorem gX6_lot_X6_isItem : GoodIn wsX6_lot (wsV RX6 83 RX6 yX6_isItem wsX6_isItem) := goodIn_app (goodIn_of _ (by decide +kernel)) ggX6_lot_X6_isItem
set_option maxRecDepth 20000 in
theorem ggX6_lot_X6_isPeriod : GoodIn wsX6_lot wsX6_isPeriod := goodIn_r _ [16, 17, 10, 11, 7, 12, 33, 34, 35, 36, 37, 38, 39, 40, 41, 42, 43, 44, 45, 46, 47, 48, 49, 50, 51, 52, 53, 54, 55, 56, 57] (by decide +kernel) (by decide +kernel)
set_option maxRecDepth 20000 in
theorem gX6_lot_X6_isPeriod : GoodIn wsX6_lot (wsV RX6 91 RX6 yX6_isPeriod wsX6_isPeriod) := goodIn_app (goodIn_of _ (by decide +kernel)) ggX6_lot_X6_isPeriod
set_option maxRecDepth 20000 in
theorem ggX6_lot_X6_alone : GoodIn wsX6_lot wsX6_alone := goodIn_r _ [21, 22, 17, 23, 2, 3, 24, 25, 26, 27, 7, 28, 29, 30, 31, 32, 33, 34, 35, 36, 37, 38, 39, 40, 41, 42, 43, 44, 45, 46, 47, 48, 49, 50, 51, 52, 53, 54, 55, 56, 57] (by decide +kernel) (by decide +kernel)
set_option maxRecDepth 20000 in
theorem gX6_lot_X6_alone : GoodIn wsX6_lot (wsV RX6 146 RX6 yX6_alone wsX6_alone) := goodIn_app (goodIn_of _ (by decide +kernel)) ggX6_lot_X6_alone
set_option maxRecDepth 20000 in
theorem ggX6_lot_X6_last : GoodIn wsX6_lot wsX6_last := goodIn_r _ [28, 22, 17, 33, 34, 35, 36, 37, 38, 39, 40, 41, 42, 43, 44, 45, 46, 47, 48, 49, 50, 51, 52, 53, 54, 55, 56, 57] (by decide +kernel) (by decide +kernel)
set_option maxRecDepth 20000 in
theorem gX6_lot_X6_last : GoodIn wsX6_lot (wsV RX6 139 RX6 yX6_last wsX6_last) := goodIn_app (goodIn_of _ (by decide +kernel)) ggX6_lot_X6_last
set_option maxRecDepth 20000 in
theorem ggX6_lot_X6_priceTo : GoodIn wsX6_lot wsX6_priceTo := goodIn_r _ [32, 22, 3, 2, 33, 34, 35, 36, 37, 38, 39, 40, 41, 42, 43, 44, 45, 46, 47, 48, 49, 50, 51, 52, 53, 54, 55, 56, 57] (by decide +kernel) (by decide +kernel)
set_option maxRecDepth 20000 in
theorem gX6_lot_X6_priceTo : GoodIn wsX6_lot (wsV RX6 142 RX6 yX6_priceTo wsX6_priceTo) := goodIn_app (goodIn_of _ (by decide +kernel)) ggX6_lot_X6_priceTo
theorem dX6_lot_0 : decode cX6_lot 0 = .ok (.aload_n 0, 1) := by decide +kernel
theorem dX6_lot_1 : decode cX6_lot 1 = .ok (.iconst 0, 1) := by decide +kernel
theorem dX6_lot_2 : decode cX6_lot 2 = .ok (.putfield 73, 3) := by decide +kernel
theorem dX6_lot_5 : decode cX6_lot 5 = .ok (.aload_n 0, 1) := by decide +kernel
theorem dX6_lot_6 : decode cX6_lot 6 = .ok (.iload_n 1, 1) := by decide +kernel
theorem dX6_lot_7 : decode cX6_lot 7 = .ok (.invokevirtual 83, 3) := by decide +kernel
theorem dX6_lot_10 : decode cX6_lot 10 = .ok (.ifCond .eq 11, 3) := by decide +kernel
theorem dX6_lot_13 : decode cX6_lot 13 = .ok (.aload_n 0, 1) := by decide +kernel
theorem dX6_lot_14 : decode cX6_lot 14 = .ok (.iload_n 2, 1) := by decide +kernel
theorem dX6_lot_15 : decode cX6_lot 15 = .ok (.invokevirtual 91, 3) := by decide +kernel
theorem dX6_lot_18 : decode cX6_lot 18 = .ok (.ifCond .ne 5, 3) := by decide +kernel
theorem dX6_lot_21 : decode cX6_lot 21 = .ok (.iconst (-1), 1) := by decide +kernel
theorem dX6_lot_22 : decode cX6_lot 22 = .ok (.ireturn, 1) := by decide +kernel
theorem dX6_lot_23 : decode cX6_lot 23 = .ok (.aload_n 0, 1) := by decide +kernel
theorem dX6_lot_24 : decode cX6_lot 24 = .ok (.iload_n 1, 1) := by decide +kernel
theorem dX6_lot_25 : decode cX6_lot 25 = .ok (.invokevirtual 146, 3) := by decide +kernel
theorem dX6_lot_28 : decode cX6_lot 28 = .ok (.iconst 1, 1) := by decide +kernel
theorem dX6_lot_29 : decode cX6_lot 29 = .ok (.istore_n 3, 1) := by decide +kernel
theorem dX6_lot_30 : decode cX6_lot 30 = .ok (.iload_n 3, 1) := by decide +kernel
theorem dX6_lot_31 : decode cX6_lot 31 = .ok (.iload_n 2, 1) := by decide +kernel
theorem dX6_lot_32 : decode cX6_lot 32 = .ok (.if_icmp .gt 127, 3) := by decide +kernel
theorem dX6_lot_35 : decode cX6_lot 35 = .ok (.iload_n 3, 1) := by decide +kernel
theorem dX6_lot_36 : decode cX6_lot 36 = .ok (.istore 4, 2) := by decide +kernel
theorem dX6_lot_38 : decode cX6_lot 38 = .ok (.iconst 0, 1) := by decide +kernel
theorem dX6_lot_39 : decode cX6_lot 39 = .ok (.istore 5, 2) := by decide +kernel
theorem dX6_lot_41 : decode cX6_lot 41 = .ok (.aload_n 0, 1) := by decide +kernel
theorem dX6_lot_42 : decode cX6_lot 42 = .ok (.getfield 63, 3) := by decide +kernel
theorem dX6_lot_45 : decode cX6_lot 45 = .ok (.iload_n 3, 1) := by decide +kernel
theorem dX6_lot_46 : decode cX6_lot 46 = .ok (.iaload, 1) := by decide +kernel
theorem dX6_lot_47 : decode cX6_lot 47 = .ok (.ifCond .gt 21, 3) := by decide +kernel
theorem dX6_lot_50 : decode cX6_lot 50 = .ok (.aload_n 0, 1) := by decide +kernel
theorem dX6_lot_51 : decode cX6_lot 51 = .ok (.getfield 66, 3) := by decide +kernel
theorem dX6_lot_54 : decode cX6_lot 54 = .ok (.iload_n 3, 1) := by decide +kernel
theorem dX6_lot_55 : decode cX6_lot 55 = .ok (.iconst 1, 1) := by decide +kernel
theorem dX6_lot_56 : decode cX6_lot 56 = .ok (.iadd, 1) := by decide +kernel
theorem dX6_lot_57 : decode cX6_lot 57 = .ok (.laload, 1) := by decide +kernel
theorem dX6_lot_58 : decode cX6_lot 58 = .ok (.aload_n 0, 1) := by decide +kernel
theorem dX6_lot_59 : decode cX6_lot 59 = .ok (.getfield 66, 3) := by decide +kernel
theorem dX6_lot_62 : decode cX6_lot 62 = .ok (.iload_n 3, 1) := by decide +kernel
theorem dX6_lot_63 : decode cX6_lot 63 = .ok (.laload, 1) := by decide +kernel
theorem dX6_lot_64 : decode cX6_lot 64 = .ok (.lcmp, 1) := by decide +kernel
theorem dX6_lot_65 : decode cX6_lot 65 = .ok (.ifCond .le 78, 3) := by decide +kernel
theorem dX6_lot_68 : decode cX6_lot 68 = .ok (.iload_n 3, 1) := by decide +kernel
theorem dX6_lot_69 : decode cX6_lot 69 = .ok (.istore 6, 2) := by decide +kernel
theorem dX6_lot_71 : decode cX6_lot 71 = .ok (.iload 6, 2) := by decide +kernel
theorem dX6_lot_73 : decode cX6_lot 73 = .ok (.aload_n 0, 1) := by decide +kernel
theorem dX6_lot_74 : decode cX6_lot 74 = .ok (.iload_n 1, 1) := by decide +kernel
theorem dX6_lot_75 : decode cX6_lot 75 = .ok (.iload_n 3, 1) := by decide +kernel
theorem dX6_lot_76 : decode cX6_lot 76 = .ok (.invokevirtual 139, 3) := by decide +kernel
theorem dX6_lot_79 : decode cX6_lot 79 = .ok (.if_icmp .gt 36, 3) := by decide +kernel
theorem dX6_lot_82 : decode cX6_lot 82 = .ok (.aload_n 0, 1) := by decide +kernel
theorem dX6_lot_83 : decode cX6_lot 83 = .ok (.iload_n 1, 1) := by decide +kernel
theorem dX6_lot_84 : decode cX6_lot 84 = .ok (.iload_n 3, 1) := by decide +kernel
theorem dX6_lot_85 : decode cX6_lot 85 = .ok (.iload 6, 2) := by decide +kernel
theorem dX6_lot_87 : decode cX6_lot 87 = .ok (.invokevirtual 142, 3) := by decide +kernel
theorem dX6_lot_90 : decode cX6_lot 90 = .ok (.aload_n 0, 1) := by decide +kernel
theorem dX6_lot_91 : decode cX6_lot 91 = .ok (.getfield 66, 3) := by decide +kernel
theorem dX6_lot_94 : decode cX6_lot 94 = .ok (.iload_n 3, 1) := by decide +kernel
theorem dX6_lot_95 : decode cX6_lot 95 = .ok (.laload, 1) := by decide +kernel
theorem dX6_lot_96 : decode cX6_lot 96 = .ok (.lcmp, 1) := by decide +kernel
theorem dX6_lot_97 : decode cX6_lot 97 = .ok (.ifCond .ne 8, 3) := by decide +kernel
theorem dX6_lot_100 : decode cX6_lot 100 = .ok (.iload 6, 2) := by decide +kernel
theorem dX6_lot_102 : decode cX6_lot 102 = .ok (.goto 5, 3) := by decide +kernel
theorem dX6_lot_105 : decode cX6_lot 105 = .ok (.iload 4, 2) := by decide +kernel
theorem dX6_lot_107 : decode cX6_lot 107 = .ok (.istore 4, 2) := by decide +kernel
theorem dX6_lot_109 : decode cX6_lot 109 = .ok (.iinc 6 1, 3) := by decide +kernel
theorem dX6_lot_112 : decode cX6_lot 112 = .ok (.goto (-41), 3) := by decide +kernel
theorem dX6_lot_115 : decode cX6_lot 115 = .ok (.iload_n 3, 1) := by decide +kernel
theorem dX6_lot_116 : decode cX6_lot 116 = .ok (.istore 6, 2) := by decide +kernel
theorem dX6_lot_118 : decode cX6_lot 118 = .ok (.iload 6, 2) := by decide +kernel
theorem dX6_lot_120 : decode cX6_lot 120 = .ok (.iload 4, 2) := by decide +kernel
theorem dX6_lot_122 : decode cX6_lot 122 = .ok (.if_icmp .gt 21, 3) := by decide +kernel
theorem dX6_lot_125 : decode cX6_lot 125 = .ok (.iload 5, 2) := by decide +kernel
theorem dX6_lot_127 : decode cX6_lot 127 = .ok (.aload_n 0, 1) := by decide +kernel
theorem dX6_lot_128 : decode cX6_lot 128 = .ok (.getfield 63, 3) := by decide +kernel
theorem dX6_lot_131 : decode cX6_lot 131 = .ok (.iload 6, 2) := by decide +kernel
theorem dX6_lot_133 : decode cX6_lot 133 = .ok (.iaload, 1) := by decide +kernel
theorem dX6_lot_134 : decode cX6_lot 134 = .ok (.iadd, 1) := by decide +kernel
theorem dX6_lot_135 : decode cX6_lot 135 = .ok (.istore 5, 2) := by decide +kernel
theorem dX6_lot_137 : decode cX6_lot 137 = .ok (.iinc 6 1, 3) := by decide +kernel
theorem dX6_lot_140 : decode cX6_lot 140 = .ok (.goto (-22), 3) := by decide +kernel
theorem dX6_lot_143 : decode cX6_lot 143 = .ok (.iload_n 3, 1) := by decide +kernel
theorem dX6_lot_144 : decode cX6_lot 144 = .ok (.iload_n 2, 1) := by decide +kernel
theorem dX6_lot_145 : decode cX6_lot 145 = .ok (.if_icmp .ne 6, 3) := by decide +kernel
theorem dX6_lot_148 : decode cX6_lot 148 = .ok (.iload 5, 2) := by decide +kernel
theorem dX6_lot_150 : decode cX6_lot 150 = .ok (.ireturn, 1) := by decide +kernel
theorem dX6_lot_151 : decode cX6_lot 151 = .ok (.iload 4, 2) := by decide +kernel
theorem dX6_lot_153 : decode cX6_lot 153 = .ok (.iconst 1, 1) := by decide +kernel
theorem dX6_lot_154 : decode cX6_lot 154 = .ok (.iadd, 1) := by decide +kernel
theorem dX6_lot_155 : decode cX6_lot 155 = .ok (.istore_n 3, 1) := by decide +kernel
theorem dX6_lot_156 : decode cX6_lot 156 = .ok (.goto (-126), 3) := by decide +kernel
theorem dX6_lot_159 : decode cX6_lot 159 = .ok (.iconst 0, 1) := by decide +kernel
theorem dX6_lot_160 : decode cX6_lot 160 = .ok (.ireturn, 1) := by decide +kernel
set_option maxRecDepth 20000 in
theorem ggX6_from_X6_isItem : GoodIn wsX6_from wsX6_isItem := goodIn_r _ [9, 10, 11, 12, 8, 13, 29, 30, 31, 32, 33, 34, 35, 36, 37, 38, 39, 40, 41, 42, 43, 44, 45, 46, 47, 48, 49, 50, 51, 52, 53] (by decide +kernel) (by decide +kernel)
set_option maxRecDepth 20000 in
theorem gX6_from_X6_isItem : GoodIn wsX6_from (wsV RX6 83 RX6 yX6_isItem wsX6_isItem) := goodIn_app (goodIn_of _ (by decide +kernel)) ggX6_from_X6_isItem
set_option maxRecDepth 20000 in
theorem ggX6_from_X6_in : GoodIn wsX6_from wsX6_in := goodIn_r _ [13] (by decide +kernel) (by decide +kernel)
set_option maxRecDepth 20000 in
theorem gX6_from_X6_in : GoodIn wsX6_from (va_wsS RX6 79 yX6_in wsX6_in) := goodIn_app (goodIn_of _ (by decide +kernel)) ggX6_from_X6_in
set_option maxRecDepth 20000 in
theorem ggX6_from_X6_alone : GoodIn wsX6_from wsX6_alone := goodIn_r _ [17, 18, 2, 19, 20, 4, 3, 21, 22, 23, 8, 24, 25, 26, 27, 28, 29, 30, 31, 32, 33, 34, 35, 36, 37, 38, 39, 40, 41, 42, 43, 44, 45, 46, 47, 48, 49, 50, 51, 52, 53] (by decide +kernel) (by decide +kernel)
set_option maxRecDepth 20000 in
theorem gX6_from_X6_alone : GoodIn wsX6_from (wsV RX6 146 RX6 yX6_alone wsX6_alone) := goodIn_app (goodIn_of _ (by decide +kernel)) ggX6_from_X6_alone
theorem dX6_from_0 : decode cX6_from 0 = .ok (.aload_n 0, 1) := by decide +kernel
theorem dX6_from_1 : decode cX6_from 1 = .ok (.iconst 0, 1) := by decide +kernel
theorem dX6_from_2 : decode cX6_from 2 = .ok (.putfield 73, 3) := by decide +kernel
theorem dX6_from_5 : decode cX6_from 5 = .ok (.aload_n 0, 1) := by decide +kernel
theorem dX6_from_6 : decode cX6_from 6 = .ok (.iload_n 1, 1) := by decide +kernel
theorem dX6_from_7 : decode cX6_from 7 = .ok (.invokevirtual 83, 3) := by decide +kernel
theorem dX6_from_10 : decode cX6_from 10 = .ok (.ifCond .eq 17, 3) := by decide +kernel
theorem dX6_from_13 : decode cX6_from 13 = .ok (.iload_n 2, 1) := by decide +kernel
theorem dX6_from_14 : decode cX6_from 14 = .ok (.iconst 1, 1) := by decide +kernel
theorem dX6_from_15 : decode cX6_from 15 = .ok (.aload_n 0, 1) := by decide +kernel
theorem dX6_from_16 : decode cX6_from 16 = .ok (.getfield 69, 3) := by decide +kernel
theorem dX6_from_19 : decode cX6_from 19 = .ok (.iconst 1, 1) := by decide +kernel
theorem dX6_from_20 : decode cX6_from 20 = .ok (.iadd, 1) := by decide +kernel
theorem dX6_from_21 : decode cX6_from 21 = .ok (.invokestatic 79, 3) := by decide +kernel
theorem dX6_from_24 : decode cX6_from 24 = .ok (.ifCond .ne 7, 3) := by decide +kernel
theorem dX6_from_27 : decode cX6_from 27 = .ok (.ldc2_w 108, 3) := by decide +kernel
theorem dX6_from_30 : decode cX6_from 30 = .ok (.lreturn, 1) := by decide +kernel
theorem dX6_from_31 : decode cX6_from 31 = .ok (.aload_n 0, 1) := by decide +kernel
theorem dX6_from_32 : decode cX6_from 32 = .ok (.iload_n 1, 1) := by decide +kernel
theorem dX6_from_33 : decode cX6_from 33 = .ok (.invokevirtual 146, 3) := by decide +kernel
theorem dX6_from_36 : decode cX6_from 36 = .ok (.aload_n 0, 1) := by decide +kernel
theorem dX6_from_37 : decode cX6_from 37 = .ok (.getfield 66, 3) := by decide +kernel
theorem dX6_from_40 : decode cX6_from 40 = .ok (.iload_n 2, 1) := by decide +kernel
theorem dX6_from_41 : decode cX6_from 41 = .ok (.laload, 1) := by decide +kernel
theorem dX6_from_42 : decode cX6_from 42 = .ok (.lreturn, 1) := by decide +kernel
theorem dJ9_max_7cf53_0 : decode cJ9_max_7cf53 0 = .ok (.iload_n 0, 1) := by decide +kernel
theorem dJ9_max_7cf53_1 : decode cJ9_max_7cf53 1 = .ok (.iload_n 1, 1) := by decide +kernel
theorem dJ9_max_7cf53_2 : decode cJ9_max_7cf53 2 = .ok (.if_icmp .lt 7, 3) := by decide +kernel
theorem dJ9_max_7cf53_5 : decode cJ9_max_7cf53 5 = .ok (.iload_n 0, 1) := by decide +kernel
theorem dJ9_max_7cf53_6 : decode cJ9_max_7cf53 6 = .ok (.goto 4, 3) := by decide +kernel
theorem dJ9_max_7cf53_9 : decode cJ9_max_7cf53 9 = .ok (.iload_n 1, 1) := by decide +kernel
theorem dJ9_max_7cf53_10 : decode cJ9_max_7cf53 10 = .ok (.ireturn, 1) := by decide +kernel
theorem dJ9_max_f86c9_0 : decode cJ9_max_f86c9 0 = .ok (.lload_n 0, 1) := by decide +kernel
theorem dJ9_max_f86c9_1 : decode cJ9_max_f86c9 1 = .ok (.lload_n 2, 1) := by decide +kernel
theorem dJ9_max_f86c9_2 : decode cJ9_max_f86c9 2 = .ok (.lcmp, 1) := by decide +kernel
theorem dJ9_max_f86c9_3 : decode cJ9_max_f86c9 3 = .ok (.ifCond .lt 7, 3) := by decide +kernel
theorem dJ9_max_f86c9_6 : decode cJ9_max_f86c9 6 = .ok (.lload_n 0, 1) := by decide +kernel
theorem dJ9_max_f86c9_7 : decode cJ9_max_f86c9 7 = .ok (.goto 4, 3) := by decide +kernel
theorem dJ9_max_f86c9_10 : decode cJ9_max_f86c9 10 = .ok (.lload_n 2, 1) := by decide +kernel
theorem dJ9_max_f86c9_11 : decode cJ9_max_f86c9 11 = .ok (.lreturn, 1) := by decide +kernel
theorem dJ9_min_7cf53_0 : decode cJ9_min_7cf53 0 = .ok (.iload_n 0, 1) := by decide +kernel
theorem dJ9_min_7cf53_1 : decode cJ9_min_7cf53 1 = .ok (.iload_n 1, 1) := by decide +kernel
theorem dJ9_min_7cf53_2 : decode cJ9_min_7cf53 2 = .ok (.if_icmp .gt 7, 3) := by decide +kernel
theorem dJ9_min_7cf53_5 : decode cJ9_min_7cf53 5 = .ok (.iload_n 0, 1) := by decide +kernel
theorem dJ9_min_7cf53_6 : decode cJ9_min_7cf53 6 = .ok (.goto 4, 3) := by decide +kernel
theorem dJ9_min_7cf53_9 : decode cJ9_min_7cf53 9 = .ok (.iload_n 1, 1) := by decide +kernel
theorem dJ9_min_7cf53_10 : decode cJ9_min_7cf53 10 = .ok (.ireturn, 1) := by decide +kernel
end
section
/-! ===== numbers of the machine as integers: iI z, iL z; every int on the stack is 'iI z' with z an Int, every long 'iL z' ===== -/
def iI (z : Int) : Int32 := Int32.ofInt z
def iL (z : Int) : Int64 := Int64.ofInt z
def rI (z : Int) : Prop := -2147483648 ≤ z ∧ z ≤ 2147483647
def rL (z : Int) : Prop := -9223372036854775808 ≤ z ∧ z ≤ 9223372036854775807
theorem iI_add (a b : Int) : iI a + iI b = iI (a + b) := (Int32.ofInt_add a b).symm
theorem iI_sub (a b : Int) : iI a - iI b = iI (a - b) := (Int32.ofInt_sub a b).symm
theorem iI_mul (a b : Int) : iI a * iI b = iI (a * b) := (Int32.ofInt_mul a b).symm
theorem iI_neg (a : Int) : -iI a = iI (-a) := (Int32.ofInt_neg a).symm
theorem iL_add (a b : Int) : iL a + iL b = iL (a + b) := (Int64.ofInt_add a b).symm
theorem iL_sub (a b : Int) : iL a - iL b = iL (a - b) := (Int64.ofInt_sub a b).symm
theorem iL_mul (a b : Int) : iL a * iL b = iL (a * b) := (Int64.ofInt_mul a b).symm
theorem iL_neg (a : Int) : -iL a = iL (-a) := (Int64.ofInt_neg a).symm
theorem iI_t {z : Int} (h : rI z) : (iI z).toInt = z := by
  obtain ⟨h1, h2⟩ := h
  exact Int32.toInt_ofInt_of_le (by omega) (by omega)
theorem iL_t {z : Int} (h : rL z) : (iL z).toInt = z := by
  obtain ⟨h1, h2⟩ := h
  exact Int64.toInt_ofInt_of_le (by omega) (by omega)
theorem iI_eq {a b : Int} (ha : rI a) (hb : rI b) : iI a = iI b ↔ a = b := ⟨fun h => by rw [← iI_t ha, ← iI_t hb, h], fun h => by rw [h]⟩
theorem iL_eq {a b : Int} (ha : rL a) (hb : rL b) : iL a = iL b ↔ a = b := ⟨fun h => by rw [← iL_t ha, ← iL_t hb, h], fun h => by rw [h]⟩
theorem iI_lt {a b : Int} (ha : rI a) (hb : rI b) : iI a < iI b ↔ a < b := by rw [Int32.lt_iff_toInt_lt, iI_t ha, iI_t hb]
theorem iI_le {a b : Int} (ha : rI a) (hb : rI b) : iI a ≤ iI b ↔ a ≤ b := by rw [Int32.le_iff_toInt_le, iI_t ha, iI_t hb]
theorem iL_lt {a b : Int} (ha : rL a) (hb : rL b) : iL a < iL b ↔ a < b := by rw [Int64.lt_iff_toInt_lt, iL_t ha, iL_t hb]
theorem iL_le {a b : Int} (ha : rL a) (hb : rL b) : iL a ≤ iL b ↔ a ≤ b := by rw [Int64.le_iff_toInt_le, iL_t ha, iL_t hb]
theorem iI_of (x : Int32) : iI x.toInt = x := Int32.ofInt_toInt x
theorem iL_of (x : Int64) : iL x.toInt = x := Int64.ofInt_toInt x
theorem rI_of (x : Int32) : rI x.toInt := by
  have h1 := x.le_toInt
  have h2 := x.toInt_lt
  constructor <;> omega
theorem rL_of (x : Int64) : rL x.toInt := by
  have h1 := x.le_toInt
  have h2 := x.toInt_lt
  constructor <;> omega
theorem iI_0 : iI 0 = 0 := by decide +kernel
theorem rI_0 : rI 0 := by constructor <;> omega
theorem iI_i2l {z : Int} (h : rI z) : (iI z).toInt64 = iL z := by
  show Int64.ofInt (iI z).toInt = _
  rw [iI_t h]
  rfl
theorem iL_l2i (z : Int) : (iL z).toInt32 = iI z := Int64.toInt32_ofInt
theorem iI_cl {z : Int} (h : z ≤ 2147483647) (h0 : 0 ≤ z) : (iI z).toNatClampNeg = z.toNat := Int32.toNatClampNeg_ofInt_of_le (by omega) (by omega)
theorem iI_in {z : Int} {n : Nat} (h0 : 0 ≤ z) (h : z < (n : Int)) (hn : n < 2147483648) : vp_in (iI z) n := by
  rw [vp_in_iff, iI_t ⟨by omega, by omega⟩]
  exact ⟨h0, h⟩
theorem iI_nI (n : Nat) : iI (n : Int) = nI n := Int32.ofInt_eq_ofNat
theorem iI_nat (n : Nat) : Int32.ofNat n = iI (n : Int) := Int32.ofInt_eq_ofNat.symm
end
section
/-! ===== one world of cells that is never reshaped: cell k stands at 'ad k', its contents are 'C k' (an Int for each place); a walk is said over (C, pc, locals, stack) alone ===== -/
abbrev gSt : Type := Nat → Int → Int
abbrev gCg : Type := Nat → (Int → Int) → va_E
abbrev gLv : Type := List (Nat × Value)
def gw (ad : Nat → Nat) (cg : gCg) (N : Nat) (C : gSt) : va_W := (List.range N).map (fun k => (ad k, cg k (C k)))
theorem gw_len {ad : Nat → Nat} {cg : gCg} {N : Nat} {C : gSt} : (gw ad cg N C).length = N := by simp [gw]
theorem gw_at {ad : Nat → Nat} {cg : gCg} {N k : Nat} {C : gSt} (hk : k < N) : (gw ad cg N C)[k]? = some (ad k, cg k (C k)) := by
  unfold gw
  rw [List.getElem?_map, List.getElem?_range hk]
  rfl
theorem gw_in {ad : Nat → Nat} {cg : gCg} {N k : Nat} {C : gSt} {q : Nat × va_E} (h : (gw ad cg N C)[k]? = some q) : k < N ∧ q = (ad k, cg k (C k)) := by
  have hl : k < N := by
    have := (List.getElem?_eq_some_iff.mp h).1
    rwa [gw_len] at this
  rw [gw_at hl] at h
  exact ⟨hl, (Option.some.inj h).symm⟩
theorem gw_set {ad : Nat → Nat} {cg : gCg} {N k : Nat} {C C' : gSt} (hk : k < N) {e : va_E} (h1 : cg k (C' k) = e) (h2 : ∀ j, j ≠ k → C' j = C j) : (gw ad cg N C).set k (ad k, e) = gw ad cg N C' := by
  apply List.ext_getElem?
  intro i
  by_cases hi : i = k
  · subst hi
    rw [List.getElem?_set_self (by rw [gw_len]; exact hk), gw_at hk, h1]
  · rw [List.getElem?_set_ne (Ne.symm hi)]
    by_cases hN : i < N
    · rw [gw_at hN, gw_at hN, h2 i hi]
    · rw [List.getElem?_eq_none (by rw [gw_len]; omega), List.getElem?_eq_none (by rw [gw_len]; omega)]
def wr (C : gSt) (k : Nat) (e v : Int) : gSt := fun k' j => if k' = k ∧ j = e then v else C k' j
theorem wr_s (C : gSt) (k : Nat) (e v : Int) : wr C k e v k e = v := by simp [wr]
theorem wr_k {C : gSt} {k k' : Nat} {e v : Int} (h : k' ≠ k) : wr C k e v k' = C k' := by funext j; simp [wr, h]
theorem wr_j {C : gSt} {k k' : Nat} {e v j : Int} (h : j ≠ e) : wr C k e v k' j = C k' j := by simp [wr, h]
theorem wr_w {C : gSt} {k : Nat} {e v j : Int} : wr C k e v k j = if j = e then v else C k j := by simp [wr]
/-- tables' names: (dC, dI), classes, array classes, addresses, cells' shapes, how many -/
abbrev gB : Type := va_G × List vw_C × List (ClassId × FieldType) × (Nat → Nat) × gCg × Nat
def gad (B : gB) : Nat → Nat := B.2.2.2.1
def gIA (B : gB) (q n : Nat) : Prop := q < B.2.2.2.2.2 ∧ n < 2147483648 ∧ ∃ (cA : ClassId) (t0 : Nat), B.2.2.1[t0]? = some (cA, .int) ∧ ∀ f : Int → Int, B.2.2.2.2.1 q f = .inl (cA, n, .inl (fun j : Nat => iI (f j)))
def gZA (B : gB) (q n : Nat) : Prop := q < B.2.2.2.2.2 ∧ n < 2147483648 ∧ ∃ (cA : ClassId) (t0 : Nat), B.2.2.1[t0]? = some (cA, .boolean) ∧ ∀ f : Int → Int, B.2.2.2.2.1 q f = .inl (cA, n, .inl (fun j : Nat => iI (f j)))
def gLA (B : gB) (q n : Nat) : Prop := q < B.2.2.2.2.2 ∧ n < 2147483648 ∧ ∃ (cA : ClassId) (t0 : Nat), B.2.2.1[t0]? = some (cA, .long) ∧ ∀ f : Int → Int, B.2.2.2.2.1 q f = .inl (cA, n, .inr (.inl (fun j : Nat => iL (f j))))
def gQA (B : gB) (q n : Nat) (g : Nat → Nat) : Prop := q < B.2.2.2.2.2 ∧ n < 2147483648 ∧ ∃ (cA : ClassId) (t0 : Nat) (Cn : String), B.2.2.1[t0]? = some (cA, .object Cn) ∧ ∀ f : Int → Int, B.2.2.2.2.1 q f = .inl (cA, n, .inr (.inr (.inr (.inr (fun j : Nat => some (gad B (g j)))))))
def gOB (B : gB) (q : Nat) (Cn : String) (T : u_T) (Nf : Nat) (fs : (Int → Int) → List Value) : Prop := q < B.2.2.2.2.2 ∧ ∃ ci : Nat, B.2.1[ci]? = some (Cn, T, Nf) ∧ ∀ f : Int → Int, B.2.2.2.2.1 q f = .inr (ci, fs f)
abbrev gK : Type := Program × Launch × Env × Room × State × MethodId × Array Value × List Frame × Method × Code × (Nat → Prop) × (State → Prop) × Nat
def GG (K : gK) (B : gB) (C : gSt) (pc : Nat) (lv : gLv) (st : List Value) : Prop := match K, B with
  | (p, l, e, R, s, m, args, below, meth, c, A, Q, nL), (D, cl, _, ad, cg, N) => ∀ (H : Heap) (locs : List Loc) (ls : Array Slot), va_P D cl (gw ad cg N C) H → va_D A (gw ad cg N C) → va_S A s.heap H locs → lv_has ls nL lv → W p l e R s m args below meth c H locs 0 0 Q (F0 m pc ls st)
def gOk (K : gK) (B : gB) (l : Launch) (R : Room) (nL : Nat) (cc : ByteArray) (own : String) (Ts : List Cond) : Prop := match K, B with
  | (p, l', _, R', s, m, args, _, _, c, A, _, nL'), (D, cl, tys, _, _, _) => l' = l ∧ R' = R ∧ nL' = nL ∧ p.tables.exec = Jvm.exec ∧ c.code = cc ∧ c.maxLocals = nL ∧ s.vm.findClass own = some m.cls ∧ (∀ w ∈ Ts, w.before args s = true) ∧ va_K D cl tys s ∧ ∀ q, s.heap.size ≤ q → A q
def lvg : gLv → Nat → Option Value
  | [], _ => none
  | (j, v) :: r, i => if j = i then some v else lvg r i
theorem lvg_in : ∀ {lv : gLv} {i : Nat} {v : Value}, lvg lv i = some v → (i, v) ∈ lv
  | [], _, _, h => by simp [lvg] at h
  | (j, w) :: r, i, v, h => by
    unfold lvg at h
    by_cases hj : j = i
    · rw [if_pos hj] at h
      cases h
      rw [hj]
      exact List.mem_cons_self
    · rw [if_neg hj] at h
      exact List.mem_cons_of_mem _ (lvg_in h)
theorem lvg_at {ls : Array Slot} {nL i : Nat} {lv : gLv} {v : Value} (h : lv_has ls nL lv) (hg : lvg lv i = some v) : ls[i]? = some (.val v) := h.2.2 (i, v) (lvg_in hg)
section GG1
variable {K : gK} {B : gB} {C : gSt} {l : Launch} {R : Room} {nL : Nat} {cc : ByteArray} {own : String} {Ts : List Cond} {pc : Nat} {lv : gLv} {st : List Value}
/-- a row that touches the stack and the place alone -/
theorem gg_go (k : gOk K B l R nL cc own Ts) {pc2 : Nat} {st2 : List Value} (hrow : ∀ (p : Program) (e : Env) (s : State) (m : MethodId) (args : Array Value) (below : List Frame) (meth : Method) (c : Code) (H : Heap) (locs : List Loc) (Q : State → Prop) (ls : Array Slot), p.tables.exec = Jvm.exec → c.code = cc → s.vm.findClass own = some m.cls → (∀ w ∈ Ts, w.before args s = true) → c.maxLocals = ls.size → lv_has ls nL lv → W p l e R s m args below meth c H locs 0 0 Q (F0 m pc2 ls st2) → W p l e R s m args below meth c H locs 0 0 Q (F0 m pc ls st))
    (h : GG K B C pc2 lv st2) : GG K B C pc lv st := by
  obtain ⟨p, l', e, R', s, m, args, below, meth, c, A, Q, nL'⟩ := K
  obtain ⟨D, cl, tys, ad, cg, N⟩ := B
  obtain ⟨rfl, rfl, rfl, hx, hb, hml, hown, hts, hK, hA⟩ := k
  intro H locs ls hP hD hS hl
  exact hrow p e s m args below meth c H locs Q ls hx hb hown hts (hml.trans hl.1.symm) hl (h H locs ls hP hD hS hl)
/-- a row that branches -/
theorem gg_br (k : gOk K B l R nL cc own Ts) {pt pf : Nat} {st2 : List Value} {P : Prop} (hrow : ∀ (p : Program) (e : Env) (s : State) (m : MethodId) (args : Array Value) (below : List Frame) (meth : Method) (c : Code) (H : Heap) (locs : List Loc) (Q : State → Prop) (ls : Array Slot), p.tables.exec = Jvm.exec → c.code = cc → (P → W p l e R s m args below meth c H locs 0 0 Q (F0 m pt ls st2)) → (¬ P → W p l e R s m args below meth c H locs 0 0 Q (F0 m pf ls st2)) → W p l e R s m args below meth c H locs 0 0 Q (F0 m pc ls st))
    (h1 : P → GG K B C pt lv st2) (h2 : ¬ P → GG K B C pf lv st2) : GG K B C pc lv st := by
  obtain ⟨p, l', e, R', s, m, args, below, meth, c, A, Q, nL'⟩ := K
  obtain ⟨D, cl, tys, ad, cg, N⟩ := B
  obtain ⟨rfl, rfl, rfl, hx, hb, hml, hown, hts, hK, hA⟩ := k
  intro H locs ls hP hD hS hl
  exact hrow p e s m args below meth c H locs Q ls hx hb (fun q => h1 q H locs ls hP hD hS hl) (fun q => h2 q H locs ls hP hD hS hl)
theorem gg_sub {lv' : gLv} (ks : List Nat) (hs : lv_pick lv ks = lv') (h : GG K B C pc lv' st) : GG K B C pc lv st := by
  obtain ⟨p, l', e, R', s, m, args, below, meth, c, A, Q, nL'⟩ := K
  obtain ⟨D, cl, tys, ad, cg, N⟩ := B
  intro H locs ls hP hD hS hl
  exact h H locs ls hP hD hS (lv_sub hl ks hs)
theorem gg_ct {C' : gSt} (hC : C = C') (h : GG K B C' pc lv st) : GG K B C pc lv st := hC ▸ h
theorem gg_st {st' : List Value} (hC : st = st') (h : GG K B C pc lv st') : GG K B C pc lv st := hC ▸ h
theorem gg_iconst (k : gOk K B l R nL cc own Ts) {n : Int} (hd : decode cc pc = .ok (.iconst n, 1)) (h : GG K B C (pc + 1) lv (.int (iI n) :: st)) : GG K B C pc lv st :=
  gg_go k (fun _ _ _ _ _ _ _ _ _ _ _ _ hx hb _ _ _ _ hw => lv_iconst hx hb hd rfl hw) h
theorem gg_bipush (k : gOk K B l R nL cc own Ts) {n : Int} (hd : decode cc pc = .ok (.bipush n, 2)) (hv : (Int8.ofInt n).toInt32 = iI n) (h : GG K B C (pc + 2) lv (.int (iI n) :: st)) : GG K B C pc lv st :=
  gg_go k (fun _ _ _ _ _ _ _ _ _ _ _ _ hx hb _ _ _ _ hw => lv_bipush hx hb hd hv hw) h
theorem gg_sipush (k : gOk K B l R nL cc own Ts) {n : Int} (hd : decode cc pc = .ok (.sipush n, 3)) (hv : (Int16.ofInt n).toInt32 = iI n) (h : GG K B C (pc + 3) lv (.int (iI n) :: st)) : GG K B C pc lv st :=
  gg_go k (fun _ _ _ _ _ _ _ _ _ _ _ _ hx hb _ _ _ _ hw => lv_sipush hx hb hd hv hw) h
theorem gg_lconst0 (k : gOk K B l R nL cc own Ts) (hd : decode cc pc = .ok (.lconst 0, 1)) (h : GG K B C (pc + 1) lv (.long (iL 0) :: st)) : GG K B C pc lv st :=
  gg_go k (fun _ _ _ _ _ _ _ _ _ _ _ _ hx hb _ _ _ _ hw => lv_lconst hx hb hd rfl hw) h
theorem gg_iload (k : gOk K B l R nL cc own Ts) {i : Nat} {z : Int} (hd : decode cc pc = .ok (.iload i, 2)) (hg : lvg lv i = some (.int (iI z))) (h : GG K B C (pc + 2) lv (.int (iI z) :: st)) : GG K B C pc lv st :=
  gg_go k (fun _ _ _ _ _ _ _ _ _ _ _ _ hx hb _ _ _ hl hw => lv_iload hx hb hd (lvg_at hl hg) hw) h
theorem gg_iload_n (k : gOk K B l R nL cc own Ts) {i : Fin 4} {z : Int} (hd : decode cc pc = .ok (.iload_n i, 1)) (hg : lvg lv i = some (.int (iI z))) (h : GG K B C (pc + 1) lv (.int (iI z) :: st)) : GG K B C pc lv st :=
  gg_go k (fun _ _ _ _ _ _ _ _ _ _ _ _ hx hb _ _ _ hl hw => lv_iload_n hx hb hd rfl (lvg_at hl hg) hw) h
theorem gg_lload (k : gOk K B l R nL cc own Ts) {i : Nat} {z : Int} (hd : decode cc pc = .ok (.lload i, 2)) (hg : lvg lv i = some (.long (iL z))) (h : GG K B C (pc + 2) lv (.long (iL z) :: st)) : GG K B C pc lv st :=
  gg_go k (fun _ _ _ _ _ _ _ _ _ _ _ _ hx hb _ _ _ hl hw => lv_lload hx hb hd (lvg_at hl hg) hw) h
theorem gg_lload_n (k : gOk K B l R nL cc own Ts) {i : Fin 4} {z : Int} (hd : decode cc pc = .ok (.lload_n i, 1)) (hg : lvg lv i = some (.long (iL z))) (h : GG K B C (pc + 1) lv (.long (iL z) :: st)) : GG K B C pc lv st :=
  gg_go k (fun _ _ _ _ _ _ _ _ _ _ _ _ hx hb _ _ _ hl hw => lv_lload_n hx hb hd rfl (lvg_at hl hg) hw) h
theorem gg_aload (k : gOk K B l R nL cc own Ts) {i a : Nat} (hd : decode cc pc = .ok (.aload i, 2)) (hg : lvg lv i = some (.ref a)) (h : GG K B C (pc + 2) lv (.ref a :: st)) : GG K B C pc lv st :=
  gg_go k (fun _ _ _ _ _ _ _ _ _ _ _ _ hx hb _ _ _ hl hw => lv_aload hx hb hd (lvg_at hl hg) hw) h
theorem gg_aload_n (k : gOk K B l R nL cc own Ts) {i : Fin 4} {a : Nat} (hd : decode cc pc = .ok (.aload_n i, 1)) (hg : lvg lv i = some (.ref a)) (h : GG K B C (pc + 1) lv (.ref a :: st)) : GG K B C pc lv st :=
  gg_go k (fun _ _ _ _ _ _ _ _ _ _ _ _ hx hb _ _ _ hl hw => lv_aload_n hx hb hd rfl (lvg_at hl hg) hw) h
theorem gg_iadd (k : gOk K B l R nL cc own Ts) {a b : Int} (hd : decode cc pc = .ok (.iadd, 1)) (h : GG K B C (pc + 1) lv (.int (iI (a + b)) :: st)) : GG K B C pc lv (.int (iI b) :: .int (iI a) :: st) :=
  gg_go k (fun _ _ _ _ _ _ _ _ _ _ _ _ hx hb _ _ _ _ hw => lv_iadd hx hb hd (by rw [iI_add]; exact hw)) h
theorem gg_isub (k : gOk K B l R nL cc own Ts) {a b : Int} (hd : decode cc pc = .ok (.isub, 1)) (h : GG K B C (pc + 1) lv (.int (iI (a - b)) :: st)) : GG K B C pc lv (.int (iI b) :: .int (iI a) :: st) :=
  gg_go k (fun _ _ _ _ _ _ _ _ _ _ _ _ hx hb _ _ _ _ hw => lv_isub hx hb hd (by rw [iI_sub]; exact hw)) h
theorem gg_imul (k : gOk K B l R nL cc own Ts) {a b : Int} (hd : decode cc pc = .ok (.imul, 1)) (h : GG K B C (pc + 1) lv (.int (iI (a * b)) :: st)) : GG K B C pc lv (.int (iI b) :: .int (iI a) :: st) :=
  gg_go k (fun _ _ _ _ _ _ _ _ _ _ _ _ hx hb _ _ _ _ hw => lv_imul hx hb hd (by rw [iI_mul]; exact hw)) h
theorem gg_ineg (k : gOk K B l R nL cc own Ts) {a : Int} (hd : decode cc pc = .ok (.ineg, 1)) (h : GG K B C (pc + 1) lv (.int (iI (-a)) :: st)) : GG K B C pc lv (.int (iI a) :: st) :=
  gg_go k (fun _ _ _ _ _ _ _ _ _ _ _ _ hx hb _ _ _ _ hw => lv_ineg hx hb hd (by rw [iI_neg]; exact hw)) h
theorem gg_ladd (k : gOk K B l R nL cc own Ts) {a b : Int} (hd : decode cc pc = .ok (.ladd, 1)) (h : GG K B C (pc + 1) lv (.long (iL (a + b)) :: st)) : GG K B C pc lv (.long (iL b) :: .long (iL a) :: st) :=
  gg_go k (fun _ _ _ _ _ _ _ _ _ _ _ _ hx hb _ _ _ _ hw => lv_ladd hx hb hd (by rw [iL_add]; exact hw)) h
theorem gg_lsub (k : gOk K B l R nL cc own Ts) {a b : Int} (hd : decode cc pc = .ok (.lsub, 1)) (h : GG K B C (pc + 1) lv (.long (iL (a - b)) :: st)) : GG K B C pc lv (.long (iL b) :: .long (iL a) :: st) :=
  gg_go k (fun _ _ _ _ _ _ _ _ _ _ _ _ hx hb _ _ _ _ hw => lv_lsub hx hb hd (by rw [iL_sub]; exact hw)) h
theorem gg_lmul (k : gOk K B l R nL cc own Ts) {a b : Int} (hd : decode cc pc = .ok (.lmul, 1)) (h : GG K B C (pc + 1) lv (.long (iL (a * b)) :: st)) : GG K B C pc lv (.long (iL b) :: .long (iL a) :: st) :=
  gg_go k (fun _ _ _ _ _ _ _ _ _ _ _ _ hx hb _ _ _ _ hw => lv_lmul hx hb hd (by rw [iL_mul]; exact hw)) h
theorem gg_i2l (k : gOk K B l R nL cc own Ts) {a : Int} (hd : decode cc pc = .ok (.i2l, 1)) (ha : rI a) (h : GG K B C (pc + 1) lv (.long (iL a) :: st)) : GG K B C pc lv (.int (iI a) :: st) :=
  gg_go k (fun _ _ _ _ _ _ _ _ _ _ _ _ hx hb _ _ _ _ hw => lv_i2l hx hb hd (iI_i2l ha) hw) h
theorem gg_l2i (k : gOk K B l R nL cc own Ts) {a : Int} (hd : decode cc pc = .ok (.l2i, 1)) (h : GG K B C (pc + 1) lv (.int (iI a) :: st)) : GG K B C pc lv (.long (iL a) :: st) :=
  gg_go k (fun _ _ _ _ _ _ _ _ _ _ _ _ hx hb _ _ _ _ hw => lv_l2i hx hb hd (iL_l2i a) hw) h
theorem gg_dup (k : gOk K B l R nL cc own Ts) {v : Value} (hd : decode cc pc = .ok (.dup, 1)) (hc : v.category = 1) (h : GG K B C (pc + 1) lv (v :: v :: st)) : GG K B C pc lv (v :: st) :=
  gg_go k (fun _ _ _ _ _ _ _ _ _ _ _ _ hx hb _ _ _ _ hw => lv_dup hx hb hd hc hw) h
theorem gg_pop (k : gOk K B l R nL cc own Ts) {v : Value} (hd : decode cc pc = .ok (.pop, 1)) (hc : v.category = 1) (h : GG K B C (pc + 1) lv st) : GG K B C pc lv (v :: st) :=
  gg_go k (fun _ _ _ _ _ _ _ _ _ _ _ _ hx hb _ _ _ _ hw => lv_pop hx hb hd hc hw) h
theorem gg_dup2 (k : gOk K B l R nL cc own Ts) {v w : Value} (hd : decode cc pc = .ok (.dup2, 1)) (hc : v.category = 1) (hc2 : w.category = 1) (h : GG K B C (pc + 1) lv (v :: w :: v :: w :: st)) : GG K B C pc lv (v :: w :: st) :=
  gg_go k (fun _ _ _ _ _ _ _ _ _ _ _ _ hx hb _ _ _ _ hw => lv_dup2_11 hx hb hd hc hc2 hw) h
theorem gg_dup_x1 (k : gOk K B l R nL cc own Ts) {v w : Value} (hd : decode cc pc = .ok (.dup_x1, 1)) (hc : v.category = 1) (hc2 : w.category = 1) (h : GG K B C (pc + 1) lv (v :: w :: v :: st)) : GG K B C pc lv (v :: w :: st) :=
  gg_go k (fun _ _ _ _ _ _ _ _ _ _ _ _ hx hb _ _ _ _ hw => lv_dup_x1 hx hb hd hc hc2 hw) h
theorem gg_goto (k : gOk K B l R nL cc own Ts) {off : Int} {tgt : Nat} (hd : decode cc pc = .ok (.goto off, 3)) (ht : (pc : Int) + off = (tgt : Int)) (h : GG K B C tgt lv st) : GG K B C pc lv st :=
  gg_go k (fun _ _ _ _ _ _ _ _ _ _ _ _ hx hb _ _ _ _ hw => lv_goto hx hb hd ht hw) h
theorem gg_ldc2 (k : gOk K B l R nL cc own Ts) {idx : Nat} {z : Int} (hd : decode cc pc = .ok (.ldc2_w idx, 3)) (hm : Jvm.Cond.constantLong own idx (iL z) ∈ Ts) (h : GG K B C (pc + 3) lv (.long (iL z) :: st)) : GG K B C pc lv st :=
  gg_go k (fun _ _ _ _ _ _ _ _ _ _ _ _ hx hb ho ht _ _ hw => lv_ldc2 hx hb ho (ht _ hm) hd hw) h
end GG1
end
section
/-! ===== rows that store, branch, read and write the world ===== -/
theorem iI_eq0 {z : Int} (h : rI z) : iI z = 0 ↔ z = 0 := by rw [← iI_0]; exact iI_eq h rI_0
theorem iI_lt0 {z : Int} (h : rI z) : iI z < 0 ↔ z < 0 := by rw [← iI_0]; exact iI_lt h rI_0
theorem iI_le0 {z : Int} (h : rI z) : iI z ≤ 0 ↔ z ≤ 0 := by rw [← iI_0]; exact iI_le h rI_0
theorem iI_gt0 {z : Int} (h : rI z) : 0 < iI z ↔ 0 < z := by rw [← iI_0]; exact iI_lt rI_0 h
theorem iI_ge0 {z : Int} (h : rI z) : 0 ≤ iI z ↔ 0 ≤ z := by rw [← iI_0]; exact iI_le rI_0 h
theorem iL_cmp {a b : Int} (ha : rL a) (hb : rL b) : lg_cmp (iL a) (iL b) = iI (if b < a then 1 else if a = b then 0 else -1) := by
  unfold lg_cmp
  simp only [gt_iff_lt, iL_lt hb ha, iL_eq ha hb]
  split
  · rfl
  · split <;> rfl
section GG2
variable {K : gK} {B : gB} {C : gSt} {l : Launch} {R : Room} {nL : Nat} {cc : ByteArray} {own : String} {Ts : List Cond} {pc : Nat} {lv : gLv} {st : List Value}
theorem gg_istore (k : gOk K B l R nL cc own Ts) {i : Nat} {z : Int} (lv' : gLv) (hd : decode cc pc = .ok (.istore i, 2)) (hn : i < nL) (hl : (i, Value.int (iI z)) :: lv.filter (fun q => !(q.1 == i) && !(q.1 + 1 == i && q.2.category == 2)) = lv') (h : GG K B C (pc + 2) lv' st) : GG K B C pc lv (.int (iI z) :: st) := by
  obtain ⟨p, l', e, R', s, m, args, below, meth, c, A, Q, nL'⟩ := K
  obtain ⟨D, cl, tys, ad, cg, N⟩ := B
  obtain ⟨rfl, rfl, rfl, hx, hb, hml, hown, hts, hK, hA⟩ := k
  intro H locs ls hP hD hS hl0
  exact lv_istore hx hb hd hl0 hn hl (fun ls' hl' => h H locs ls' hP hD hS hl')
theorem gg_istore_n (k : gOk K B l R nL cc own Ts) {i : Fin 4} {z : Int} (lv' : gLv) (hd : decode cc pc = .ok (.istore_n i, 1)) (hn : (i : Nat) < nL) (hl : ((i : Nat), Value.int (iI z)) :: lv.filter (fun q => !(q.1 == (i : Nat)) && !(q.1 + 1 == (i : Nat) && q.2.category == 2)) = lv') (h : GG K B C (pc + 1) lv' st) : GG K B C pc lv (.int (iI z) :: st) := by
  obtain ⟨p, l', e, R', s, m, args, below, meth, c, A, Q, nL'⟩ := K
  obtain ⟨D, cl, tys, ad, cg, N⟩ := B
  obtain ⟨rfl, rfl, rfl, hx, hb, hml, hown, hts, hK, hA⟩ := k
  intro H locs ls hP hD hS hl0
  exact lv_istore_n hx hb hd rfl hl0 hn hl (fun ls' hl' => h H locs ls' hP hD hS hl')
theorem gg_lstore (k : gOk K B l R nL cc own Ts) {i : Nat} {z : Int} (lv' : gLv) (hd : decode cc pc = .ok (.lstore i, 2)) (hn : i + 1 < nL) (hl : (i, Value.long (iL z)) :: lv.filter (fun q => !(q.1 == i) && (!(q.1 == i + 1) && !(q.1 + 1 == i && q.2.category == 2))) = lv') (h : GG K B C (pc + 2) lv' st) : GG K B C pc lv (.long (iL z) :: st) := by
  obtain ⟨p, l', e, R', s, m, args, below, meth, c, A, Q, nL'⟩ := K
  obtain ⟨D, cl, tys, ad, cg, N⟩ := B
  obtain ⟨rfl, rfl, rfl, hx, hb, hml, hown, hts, hK, hA⟩ := k
  intro H locs ls hP hD hS hl0
  exact lv_lstore hx hb hd hl0 hn hl (fun ls' hl' => h H locs ls' hP hD hS hl')
theorem gg_lstore_n (k : gOk K B l R nL cc own Ts) {i : Fin 4} {z : Int} (lv' : gLv) (hd : decode cc pc = .ok (.lstore_n i, 1)) (hn : (i : Nat) + 1 < nL) (hl : ((i : Nat), Value.long (iL z)) :: lv.filter (fun q => !(q.1 == (i : Nat)) && (!(q.1 == (i : Nat) + 1) && !(q.1 + 1 == (i : Nat) && q.2.category == 2))) = lv') (h : GG K B C (pc + 1) lv' st) : GG K B C pc lv (.long (iL z) :: st) := by
  obtain ⟨p, l', e, R', s, m, args, below, meth, c, A, Q, nL'⟩ := K
  obtain ⟨D, cl, tys, ad, cg, N⟩ := B
  obtain ⟨rfl, rfl, rfl, hx, hb, hml, hown, hts, hK, hA⟩ := k
  intro H locs ls hP hD hS hl0
  exact lv_lstore_n hx hb hd rfl hl0 hn hl (fun ls' hl' => h H locs ls' hP hD hS hl')
theorem gg_astore_n (k : gOk K B l R nL cc own Ts) {i : Fin 4} {a : Nat} (lv' : gLv) (hd : decode cc pc = .ok (.astore_n i, 1)) (hn : (i : Nat) < nL) (hl : ((i : Nat), Value.ref a) :: lv.filter (fun q => !(q.1 == (i : Nat)) && !(q.1 + 1 == (i : Nat) && q.2.category == 2)) = lv') (h : GG K B C (pc + 1) lv' st) : GG K B C pc lv (.ref a :: st) := by
  obtain ⟨p, l', e, R', s, m, args, below, meth, c, A, Q, nL'⟩ := K
  obtain ⟨D, cl, tys, ad, cg, N⟩ := B
  obtain ⟨rfl, rfl, rfl, hx, hb, hml, hown, hts, hK, hA⟩ := k
  intro H locs ls hP hD hS hl0
  exact lv_astore_n hx hb hd rfl hl0 hn hl (fun ls' hl' => h H locs ls' hP hD hS hl')
theorem gg_iinc (k : gOk K B l R nL cc own Ts) {i : Nat} {n z : Int} (j : Nat) (lv' : gLv) (hd : decode cc pc = .ok (.iinc i n, 3)) (hj : lv[j]? = some (i, Value.int (iI z))) (hn : i < nL) (hl : (i, Value.int (iI (z + n))) :: lv.filter (fun q => !(q.1 == i) && !(q.1 + 1 == i && q.2.category == 2)) = lv') (h : GG K B C (pc + 3) lv' st) : GG K B C pc lv st := by
  obtain ⟨p, l', e, R', s, m, args, below, meth, c, A, Q, nL'⟩ := K
  obtain ⟨D, cl, tys, ad, cg, N⟩ := B
  obtain ⟨rfl, rfl, rfl, hx, hb, hml, hown, hts, hK, hA⟩ := k
  intro H locs ls hP hD hS hl0
  exact lv_iinc hx hb hd hl0 hj (iI_add z n) hn hl (fun ls' hl' => h H locs ls' hP hD hS hl')
theorem gg_if_eq (k : gOk K B l R nL cc own Ts) {z off : Int} (tgt : Nat) (hd : decode cc pc = .ok (.ifCond .eq off, 3)) (ht : (pc : Int) + off = (tgt : Int)) (hz : rI z) (h1 : z = 0 → GG K B C tgt lv st) (h2 : ¬ z = 0 → GG K B C (pc + 3) lv st) : GG K B C pc lv (.int (iI z) :: st) :=
  gg_br k (P := z = 0) (fun _ _ _ _ _ _ _ _ _ _ _ _ hx hb q1 q2 => lv_if_eq hx hb hd ht (fun q => q1 ((iI_eq0 hz).mp q)) (fun q => q2 (fun w => q ((iI_eq0 hz).mpr w)))) h1 h2
theorem gg_if_ne (k : gOk K B l R nL cc own Ts) {z off : Int} (tgt : Nat) (hd : decode cc pc = .ok (.ifCond .ne off, 3)) (ht : (pc : Int) + off = (tgt : Int)) (hz : rI z) (h1 : ¬ z = 0 → GG K B C tgt lv st) (h2 : z = 0 → GG K B C (pc + 3) lv st) : GG K B C pc lv (.int (iI z) :: st) :=
  gg_br k (P := ¬ z = 0) (fun _ _ _ _ _ _ _ _ _ _ _ _ hx hb q1 q2 => lv_if_ne hx hb hd ht (fun q => q1 (fun w => q ((iI_eq0 hz).mpr w))) (fun q => q2 (fun w => w ((iI_eq0 hz).mp q)))) h1 (fun q => h2 (Decidable.not_not.mp q))
theorem gg_if_lt (k : gOk K B l R nL cc own Ts) {z off : Int} (tgt : Nat) (hd : decode cc pc = .ok (.ifCond .lt off, 3)) (ht : (pc : Int) + off = (tgt : Int)) (hz : rI z) (h1 : z < 0 → GG K B C tgt lv st) (h2 : ¬ z < 0 → GG K B C (pc + 3) lv st) : GG K B C pc lv (.int (iI z) :: st) :=
  gg_br k (P := z < 0) (fun _ _ _ _ _ _ _ _ _ _ _ _ hx hb q1 q2 => lv_if_lt hx hb hd ht (fun q => q1 ((iI_lt0 hz).mp q)) (fun q => q2 (fun w => q ((iI_lt0 hz).mpr w)))) h1 h2
theorem gg_if_ge (k : gOk K B l R nL cc own Ts) {z off : Int} (tgt : Nat) (hd : decode cc pc = .ok (.ifCond .ge off, 3)) (ht : (pc : Int) + off = (tgt : Int)) (hz : rI z) (h1 : 0 ≤ z → GG K B C tgt lv st) (h2 : ¬ 0 ≤ z → GG K B C (pc + 3) lv st) : GG K B C pc lv (.int (iI z) :: st) :=
  gg_br k (P := 0 ≤ z) (fun _ _ _ _ _ _ _ _ _ _ _ _ hx hb q1 q2 => lv_if_ge hx hb hd ht (fun q => q1 ((iI_ge0 hz).mp q)) (fun q => q2 (fun w => q ((iI_ge0 hz).mpr w)))) h1 h2
theorem gg_if_gt (k : gOk K B l R nL cc own Ts) {z off : Int} (tgt : Nat) (hd : decode cc pc = .ok (.ifCond .gt off, 3)) (ht : (pc : Int) + off = (tgt : Int)) (hz : rI z) (h1 : 0 < z → GG K B C tgt lv st) (h2 : ¬ 0 < z → GG K B C (pc + 3) lv st) : GG K B C pc lv (.int (iI z) :: st) :=
  gg_br k (P := 0 < z) (fun _ _ _ _ _ _ _ _ _ _ _ _ hx hb q1 q2 => lv_if_gt hx hb hd ht (fun q => q1 ((iI_gt0 hz).mp q)) (fun q => q2 (fun w => q ((iI_gt0 hz).mpr w)))) h1 h2
theorem gg_if_le (k : gOk K B l R nL cc own Ts) {z off : Int} (tgt : Nat) (hd : decode cc pc = .ok (.ifCond .le off, 3)) (ht : (pc : Int) + off = (tgt : Int)) (hz : rI z) (h1 : z ≤ 0 → GG K B C tgt lv st) (h2 : ¬ z ≤ 0 → GG K B C (pc + 3) lv st) : GG K B C pc lv (.int (iI z) :: st) :=
  gg_br k (P := z ≤ 0) (fun _ _ _ _ _ _ _ _ _ _ _ _ hx hb q1 q2 => lv_if_le hx hb hd ht (fun q => q1 ((iI_le0 hz).mp q)) (fun q => q2 (fun w => q ((iI_le0 hz).mpr w)))) h1 h2
theorem gg_icmp_eq (k : gOk K B l R nL cc own Ts) {a b off : Int} (tgt : Nat) (hd : decode cc pc = .ok (.if_icmp .eq off, 3)) (ht : (pc : Int) + off = (tgt : Int)) (ha : rI a) (hb0 : rI b) (h1 : a = b → GG K B C tgt lv st) (h2 : ¬ a = b → GG K B C (pc + 3) lv st) : GG K B C pc lv (.int (iI b) :: .int (iI a) :: st) :=
  gg_br k (P := a = b) (fun _ _ _ _ _ _ _ _ _ _ _ _ hx hb q1 q2 => lv_icmp_eq hx hb hd ht (fun q => q1 ((iI_eq ha hb0).mp q)) (fun q => q2 (fun w => q ((iI_eq ha hb0).mpr w)))) h1 h2
theorem gg_icmp_ne (k : gOk K B l R nL cc own Ts) {a b off : Int} (tgt : Nat) (hd : decode cc pc = .ok (.if_icmp .ne off, 3)) (ht : (pc : Int) + off = (tgt : Int)) (ha : rI a) (hb0 : rI b) (h1 : ¬ a = b → GG K B C tgt lv st) (h2 : a = b → GG K B C (pc + 3) lv st) : GG K B C pc lv (.int (iI b) :: .int (iI a) :: st) :=
  gg_br k (P := ¬ a = b) (fun _ _ _ _ _ _ _ _ _ _ _ _ hx hb q1 q2 => lv_icmp_ne hx hb hd ht (fun q => q1 (fun w => q ((iI_eq ha hb0).mpr w))) (fun q => q2 (fun w => w ((iI_eq ha hb0).mp q)))) h1 (fun q => h2 (Decidable.not_not.mp q))
theorem gg_icmp_lt (k : gOk K B l R nL cc own Ts) {a b off : Int} (tgt : Nat) (hd : decode cc pc = .ok (.if_icmp .lt off, 3)) (ht : (pc : Int) + off = (tgt : Int)) (ha : rI a) (hb0 : rI b) (h1 : a < b → GG K B C tgt lv st) (h2 : ¬ a < b → GG K B C (pc + 3) lv st) : GG K B C pc lv (.int (iI b) :: .int (iI a) :: st) :=
  gg_br k (P := a < b) (fun _ _ _ _ _ _ _ _ _ _ _ _ hx hb q1 q2 => lv_icmp_lt hx hb hd ht (fun q => q1 ((iI_lt ha hb0).mp q)) (fun q => q2 (fun w => q ((iI_lt ha hb0).mpr w)))) h1 h2
theorem gg_icmp_ge (k : gOk K B l R nL cc own Ts) {a b off : Int} (tgt : Nat) (hd : decode cc pc = .ok (.if_icmp .ge off, 3)) (ht : (pc : Int) + off = (tgt : Int)) (ha : rI a) (hb0 : rI b) (h1 : b ≤ a → GG K B C tgt lv st) (h2 : ¬ b ≤ a → GG K B C (pc + 3) lv st) : GG K B C pc lv (.int (iI b) :: .int (iI a) :: st) :=
  gg_br k (P := b ≤ a) (fun _ _ _ _ _ _ _ _ _ _ _ _ hx hb q1 q2 => lv_icmp_ge hx hb hd ht (fun q => q1 ((iI_le hb0 ha).mp q)) (fun q => q2 (fun w => q ((iI_le hb0 ha).mpr w)))) h1 h2
theorem gg_icmp_gt (k : gOk K B l R nL cc own Ts) {a b off : Int} (tgt : Nat) (hd : decode cc pc = .ok (.if_icmp .gt off, 3)) (ht : (pc : Int) + off = (tgt : Int)) (ha : rI a) (hb0 : rI b) (h1 : b < a → GG K B C tgt lv st) (h2 : ¬ b < a → GG K B C (pc + 3) lv st) : GG K B C pc lv (.int (iI b) :: .int (iI a) :: st) :=
  gg_br k (P := b < a) (fun _ _ _ _ _ _ _ _ _ _ _ _ hx hb q1 q2 => lv_icmp_gt hx hb hd ht (fun q => q1 ((iI_lt hb0 ha).mp q)) (fun q => q2 (fun w => q ((iI_lt hb0 ha).mpr w)))) h1 h2
theorem gg_icmp_le (k : gOk K B l R nL cc own Ts) {a b off : Int} (tgt : Nat) (hd : decode cc pc = .ok (.if_icmp .le off, 3)) (ht : (pc : Int) + off = (tgt : Int)) (ha : rI a) (hb0 : rI b) (h1 : a ≤ b → GG K B C tgt lv st) (h2 : ¬ a ≤ b → GG K B C (pc + 3) lv st) : GG K B C pc lv (.int (iI b) :: .int (iI a) :: st) :=
  gg_br k (P := a ≤ b) (fun _ _ _ _ _ _ _ _ _ _ _ _ hx hb q1 q2 => lv_icmp_le hx hb hd ht (fun q => q1 ((iI_le ha hb0).mp q)) (fun q => q2 (fun w => q ((iI_le ha hb0).mpr w)))) h1 h2
theorem gg_lcmp (k : gOk K B l R nL cc own Ts) {a b : Int} (hd : decode cc pc = .ok (.lcmp, 1)) (ha : rL a) (hb0 : rL b) (h : GG K B C (pc + 1) lv (.int (iI (if b < a then 1 else if a = b then 0 else -1)) :: st)) : GG K B C pc lv (.long (iL b) :: .long (iL a) :: st) :=
  gg_go k (fun _ _ _ _ _ _ _ _ _ _ _ _ hx hb _ _ _ _ hw => W.lcmp hx hb hd (by rw [iL_cmp ha hb0]; exact hw)) h
theorem rI_cmp (a b : Int) : rI (if b < a then 1 else if a = b then 0 else -1) := by
  unfold rI
  split
  · omega
  · split <;> omega
theorem gg_lt_le (k : gOk K B l R nL cc own Ts) {a b off : Int} (tgt : Nat) (hd : decode cc pc = .ok (.lcmp, 1)) (hd2 : decode cc (pc + 1) = .ok (.ifCond .le off, 3)) (ht : ((pc + 1 : Nat) : Int) + off = (tgt : Int)) (ha : rL a) (hb0 : rL b) (h1 : a ≤ b → GG K B C tgt lv st) (h2 : ¬ a ≤ b → GG K B C (pc + 4) lv st) : GG K B C pc lv (.long (iL b) :: .long (iL a) :: st) :=
  gg_lcmp k hd ha hb0 (gg_if_le k tgt hd2 ht (rI_cmp a b) (fun q => h1 (by by_cases w : b < a; (· rw [if_pos w] at q; omega); (· omega))) (fun q => h2 (by by_cases w : b < a; (· omega); (· rw [if_neg w] at q; split at q <;> omega))))
theorem gg_lt_ge (k : gOk K B l R nL cc own Ts) {a b off : Int} (tgt : Nat) (hd : decode cc pc = .ok (.lcmp, 1)) (hd2 : decode cc (pc + 1) = .ok (.ifCond .ge off, 3)) (ht : ((pc + 1 : Nat) : Int) + off = (tgt : Int)) (ha : rL a) (hb0 : rL b) (h1 : b ≤ a → GG K B C tgt lv st) (h2 : ¬ b ≤ a → GG K B C (pc + 4) lv st) : GG K B C pc lv (.long (iL b) :: .long (iL a) :: st) :=
  gg_lcmp k hd ha hb0 (gg_if_ge k tgt hd2 ht (rI_cmp a b) (fun q => h1 (by by_cases w : b < a; (· omega); (· rw [if_neg w] at q; split at q <;> omega))) (fun q => h2 (by by_cases w : b < a; (· rw [if_pos w] at q; omega); (· rw [if_neg w] at q; split at q <;> omega))))
theorem gg_lt_lt (k : gOk K B l R nL cc own Ts) {a b off : Int} (tgt : Nat) (hd : decode cc pc = .ok (.lcmp, 1)) (hd2 : decode cc (pc + 1) = .ok (.ifCond .lt off, 3)) (ht : ((pc + 1 : Nat) : Int) + off = (tgt : Int)) (ha : rL a) (hb0 : rL b) (h1 : a < b → GG K B C tgt lv st) (h2 : ¬ a < b → GG K B C (pc + 4) lv st) : GG K B C pc lv (.long (iL b) :: .long (iL a) :: st) :=
  gg_lcmp k hd ha hb0 (gg_if_lt k tgt hd2 ht (rI_cmp a b) (fun q => h1 (by by_cases w : b < a; (· rw [if_pos w] at q; omega); (· rw [if_neg w] at q; split at q <;> omega))) (fun q => h2 (by by_cases w : b < a; (· omega); (· rw [if_neg w] at q; split at q <;> omega))))
theorem gg_lt_ne (k : gOk K B l R nL cc own Ts) {a b off : Int} (tgt : Nat) (hd : decode cc pc = .ok (.lcmp, 1)) (hd2 : decode cc (pc + 1) = .ok (.ifCond .ne off, 3)) (ht : ((pc + 1 : Nat) : Int) + off = (tgt : Int)) (ha : rL a) (hb0 : rL b) (h1 : ¬ a = b → GG K B C tgt lv st) (h2 : a = b → GG K B C (pc + 4) lv st) : GG K B C pc lv (.long (iL b) :: .long (iL a) :: st) :=
  gg_lcmp k hd ha hb0 (gg_if_ne k tgt hd2 ht (rI_cmp a b) (fun q => h1 (fun w => q (by rw [if_neg (by omega), if_pos w]))) (fun q => h2 (by by_cases w : b < a; (· rw [if_pos w] at q; omega); (· rw [if_neg w] at q; split at q <;> omega))))
theorem gg_lt_eq (k : gOk K B l R nL cc own Ts) {a b off : Int} (tgt : Nat) (hd : decode cc pc = .ok (.lcmp, 1)) (hd2 : decode cc (pc + 1) = .ok (.ifCond .eq off, 3)) (ht : ((pc + 1 : Nat) : Int) + off = (tgt : Int)) (ha : rL a) (hb0 : rL b) (h1 : a = b → GG K B C tgt lv st) (h2 : ¬ a = b → GG K B C (pc + 4) lv st) : GG K B C pc lv (.long (iL b) :: .long (iL a) :: st) :=
  gg_lcmp k hd ha hb0 (gg_if_eq k tgt hd2 ht (rI_cmp a b) (fun q => h1 (by by_cases w : b < a; (· rw [if_pos w] at q; omega); (· rw [if_neg w] at q; split at q <;> omega))) (fun q => h2 (fun w => q (by rw [if_neg (by omega), if_pos w]))))
/-- what a write into cell q's contents makes of the world -/
theorem gw_wr {ad : Nat → Nat} {cg : gCg} {N q : Nat} {C : gSt} {e v : Int} (hq : q < N) {x : va_E} (hx : cg q (fun j => if j = e then v else C q j) = x) : (gw ad cg N C).set q (ad q, x) = gw ad cg N (wr C q e v) := by
  refine gw_set hq ?_ (fun j hj => wr_k hj)
  rw [← hx]
  congr 1
  funext j
  exact wr_w
theorem gg_iald (k : gOk K B l R nL cc own Ts) {q n : Nat} (hq : gIA B q n) {e : Int} (h0 : 0 ≤ e) (h1 : e < (n : Int)) (hd : decode cc pc = .ok (.iaload, 1)) (h : GG K B C (pc + 1) lv (.int (iI (C q e)) :: st)) : GG K B C pc lv (.int (iI e) :: .ref (gad B q) :: st) := by
  obtain ⟨p, l', e', R', s, m, args, below, meth, c, A, Q, nL'⟩ := K
  obtain ⟨D, cl, tys, ad, cg, N⟩ := B
  obtain ⟨rfl, rfl, rfl, hx, hb, hml, hown, hts, hK, hA⟩ := k
  obtain ⟨hqN, hn, cA, t0, ht, hc⟩ := hq
  intro H locs ls hP hD hS hl0
  have hat : (gw ad cg N C)[q]? = some (ad q, .inl (cA, n, .inl (fun j : Nat => iI (C q j)))) := by rw [gw_at hqN]; exact congrArg some (congrArg (Prod.mk (ad q)) (hc (C q)))
  refine va_iald hx hb hK hP q t0 hat ht (iI_in h0 h1 hn) hd ?_
  rw [iI_cl (by omega) h0, Int.toNat_of_nonneg h0]
  exact h H locs ls hP hD hS hl0
theorem gg_zald (k : gOk K B l R nL cc own Ts) {q n : Nat} (hq : gZA B q n) {e : Int} (h0 : 0 ≤ e) (h1 : e < (n : Int)) (hd : decode cc pc = .ok (.baload, 1)) (h : GG K B C (pc + 1) lv (.int (iI (C q e)) :: st)) : GG K B C pc lv (.int (iI e) :: .ref (gad B q) :: st) := by
  obtain ⟨p, l', e', R', s, m, args, below, meth, c, A, Q, nL'⟩ := K
  obtain ⟨D, cl, tys, ad, cg, N⟩ := B
  obtain ⟨rfl, rfl, rfl, hx, hb, hml, hown, hts, hK, hA⟩ := k
  obtain ⟨hqN, hn, cA, t0, ht, hc⟩ := hq
  intro H locs ls hP hD hS hl0
  have hat : (gw ad cg N C)[q]? = some (ad q, .inl (cA, n, .inl (fun j : Nat => iI (C q j)))) := by rw [gw_at hqN]; exact congrArg some (congrArg (Prod.mk (ad q)) (hc (C q)))
  refine va_zald hx hb hK hP q t0 hat ht (iI_in h0 h1 hn) hd ?_
  rw [iI_cl (by omega) h0, Int.toNat_of_nonneg h0]
  exact h H locs ls hP hD hS hl0
theorem gg_lald (k : gOk K B l R nL cc own Ts) {q n : Nat} (hq : gLA B q n) {e : Int} (h0 : 0 ≤ e) (h1 : e < (n : Int)) (hd : decode cc pc = .ok (.laload, 1)) (h : GG K B C (pc + 1) lv (.long (iL (C q e)) :: st)) : GG K B C pc lv (.int (iI e) :: .ref (gad B q) :: st) := by
  obtain ⟨p, l', e', R', s, m, args, below, meth, c, A, Q, nL'⟩ := K
  obtain ⟨D, cl, tys, ad, cg, N⟩ := B
  obtain ⟨rfl, rfl, rfl, hx, hb, hml, hown, hts, hK, hA⟩ := k
  obtain ⟨hqN, hn, cA, t0, ht, hc⟩ := hq
  intro H locs ls hP hD hS hl0
  have hat : (gw ad cg N C)[q]? = some (ad q, .inl (cA, n, .inr (.inl (fun j : Nat => iL (C q j))))) := by rw [gw_at hqN]; exact congrArg some (congrArg (Prod.mk (ad q)) (hc (C q)))
  refine va_lald hx hb hK hP q t0 hat ht (iI_in h0 h1 hn) hd ?_
  rw [iI_cl (by omega) h0, Int.toNat_of_nonneg h0]
  exact h H locs ls hP hD hS hl0
theorem gg_aald (k : gOk K B l R nL cc own Ts) {q n : Nat} {g : Nat → Nat} (hq : gQA B q n g) {e : Int} (h0 : 0 ≤ e) (h1 : e < (n : Int)) (hd : decode cc pc = .ok (.aaload, 1)) (h : GG K B C (pc + 1) lv (.ref (gad B (g e.toNat)) :: st)) : GG K B C pc lv (.int (iI e) :: .ref (gad B q) :: st) := by
  obtain ⟨p, l', e', R', s, m, args, below, meth, c, A, Q, nL'⟩ := K
  obtain ⟨D, cl, tys, ad, cg, N⟩ := B
  obtain ⟨rfl, rfl, rfl, hx, hb, hml, hown, hts, hK, hA⟩ := k
  obtain ⟨hqN, hn, cA, t0, Cn, ht, hc⟩ := hq
  intro H locs ls hP hD hS hl0
  have hat : (gw ad cg N C)[q]? = some (ad q, .inl (cA, n, .inr (.inr (.inr (.inr (fun j : Nat => some (ad (g j)))))))) := by rw [gw_at hqN]; exact congrArg some (congrArg (Prod.mk (ad q)) (hc (C q)))
  refine va_aldq hx hb hK hP q t0 hat ht (iI_in h0 h1 hn) hd ?_
  rw [iI_cl (by omega) h0]
  exact h H locs ls hP hD hS hl0
theorem gg_upd {f : Int → Int} {e v : Int} (h0 : 0 ≤ e) : (fun j : Nat => iI (if (j : Int) = e then v else f j)) = upd (fun j : Nat => iI (f j)) e.toNat (iI v) := by
  funext j
  unfold upd
  by_cases h : j = e.toNat
  · rw [if_pos h, if_pos (by omega)]
  · rw [if_neg h, if_neg (by omega)]
theorem gg_updL {f : Int → Int} {e v : Int} (h0 : 0 ≤ e) : (fun j : Nat => iL (if (j : Int) = e then v else f j)) = vp_updL (fun j : Nat => iL (f j)) e.toNat (iL v) := by
  funext j
  unfold vp_updL
  by_cases h : j = e.toNat
  · rw [if_pos h, if_pos (by omega)]
  · rw [if_neg h, if_neg (by omega)]
theorem gg_iast (k : gOk K B l R nL cc own Ts) {q n : Nat} (hq : gIA B q n) {e v : Int} (h0 : 0 ≤ e) (h1 : e < (n : Int)) (hd : decode cc pc = .ok (.iastore, 1)) (h : GG K B (wr C q e v) (pc + 1) lv st) : GG K B C pc lv (.int (iI v) :: .int (iI e) :: .ref (gad B q) :: st) := by
  obtain ⟨p, l', e', R', s, m, args, below, meth, c, A, Q, nL'⟩ := K
  obtain ⟨D, cl, tys, ad, cg, N⟩ := B
  obtain ⟨rfl, rfl, rfl, hx, hb, hml, hown, hts, hK, hA⟩ := k
  obtain ⟨hqN, hn, cA, t0, ht, hc⟩ := hq
  intro H locs ls hP hD hS hl0
  have hat : (gw ad cg N C)[q]? = some (ad q, .inl (cA, n, .inl (fun j : Nat => iI (C q j)))) := by rw [gw_at hqN]; exact congrArg some (congrArg (Prod.mk (ad q)) (hc (C q)))
  refine va_iast hx hb hK hP hD hS q t0 hat ht (iI_in h0 h1 hn) hd fun H1 locs1 hP1 hD1 hS1 => ?_
  have hw : (gw ad cg N C).set q (ad q, .inl (cA, n, .inl (upd (fun j : Nat => iI (C q j)) (iI e).toNatClampNeg (iI v)))) = gw ad cg N (wr C q e v) := by
    refine gw_wr hqN ?_
    rw [iI_cl (by omega) h0, ← gg_upd h0]
    exact hc _
  change va_P D cl ((gw ad cg N C).set q (ad q, _)) H1 at hP1
  rw [hw] at hP1 hD1
  exact h H1 locs1 ls hP1 hD1 hS1 hl0
theorem gg_last (k : gOk K B l R nL cc own Ts) {q n : Nat} (hq : gLA B q n) {e v : Int} (h0 : 0 ≤ e) (h1 : e < (n : Int)) (hd : decode cc pc = .ok (.lastore, 1)) (h : GG K B (wr C q e v) (pc + 1) lv st) : GG K B C pc lv (.long (iL v) :: .int (iI e) :: .ref (gad B q) :: st) := by
  obtain ⟨p, l', e', R', s, m, args, below, meth, c, A, Q, nL'⟩ := K
  obtain ⟨D, cl, tys, ad, cg, N⟩ := B
  obtain ⟨rfl, rfl, rfl, hx, hb, hml, hown, hts, hK, hA⟩ := k
  obtain ⟨hqN, hn, cA, t0, ht, hc⟩ := hq
  intro H locs ls hP hD hS hl0
  have hat : (gw ad cg N C)[q]? = some (ad q, .inl (cA, n, .inr (.inl (fun j : Nat => iL (C q j))))) := by rw [gw_at hqN]; exact congrArg some (congrArg (Prod.mk (ad q)) (hc (C q)))
  refine va_last hx hb hK hP hD hS q t0 hat ht (iI_in h0 h1 hn) hd fun H1 locs1 hP1 hD1 hS1 => ?_
  have hw : (gw ad cg N C).set q (ad q, .inl (cA, n, .inr (.inl (vp_updL (fun j : Nat => iL (C q j)) (iI e).toNatClampNeg (iL v))))) = gw ad cg N (wr C q e v) := by
    refine gw_wr hqN ?_
    rw [iI_cl (by omega) h0, ← gg_updL h0]
    exact hc _
  change va_P D cl ((gw ad cg N C).set q (ad q, _)) H1 at hP1
  rw [hw] at hP1 hD1
  exact h H1 locs1 ls hP1 hD1 hS1 hl0
theorem gg_zast (k : gOk K B l R nL cc own Ts) {q n : Nat} (hq : gZA B q n) {e v : Int} (h0 : 0 ≤ e) (h1 : e < (n : Int)) (hv : v = 0 ∨ v = 1) (hd : decode cc pc = .ok (.bastore, 1)) (h : GG K B (wr C q e v) (pc + 1) lv st) : GG K B C pc lv (.int (iI v) :: .int (iI e) :: .ref (gad B q) :: st) := by
  obtain ⟨p, l', e', R', s, m, args, below, meth, c, A, Q, nL'⟩ := K
  obtain ⟨D, cl, tys, ad, cg, N⟩ := B
  obtain ⟨rfl, rfl, rfl, hx, hb, hml, hown, hts, hK, hA⟩ := k
  obtain ⟨hqN, hn, cA, t0, ht, hc⟩ := hq
  intro H locs ls hP hD hS hl0
  have hat : (gw ad cg N C)[q]? = some (ad q, .inl (cA, n, .inl (fun j : Nat => iI (C q j)))) := by rw [gw_at hqN]; exact congrArg some (congrArg (Prod.mk (ad q)) (hc (C q)))
  refine va_zast hx hb hK hP hD hS q t0 hat ht (iI_in h0 h1 hn) hd fun H1 locs1 hP1 hD1 hS1 => ?_
  have hnar : vp_nar .boolean (iI v) = iI v := by
    rcases hv with rfl | rfl <;> decide +kernel
  have hw : (gw ad cg N C).set q (ad q, .inl (cA, n, .inl (upd (fun j : Nat => iI (C q j)) (iI e).toNatClampNeg (vp_nar .boolean (iI v))))) = gw ad cg N (wr C q e v) := by
    refine gw_wr hqN ?_
    rw [hnar, iI_cl (by omega) h0, ← gg_upd h0]
    exact hc _
  change va_P D cl ((gw ad cg N C).set q (ad q, _)) H1 at hP1
  rw [hw] at hP1 hD1
  exact h H1 locs1 ls hP1 hD1 hS1 hl0
theorem gg_ilen (k : gOk K B l R nL cc own Ts) {q n : Nat} (hq : gIA B q n) (hd : decode cc pc = .ok (.arraylength, 1)) (h : GG K B C (pc + 1) lv (.int (iI (n : Int)) :: st)) : GG K B C pc lv (.ref (gad B q) :: st) := by
  obtain ⟨p, l', e', R', s, m, args, below, meth, c, A, Q, nL'⟩ := K
  obtain ⟨D, cl, tys, ad, cg, N⟩ := B
  obtain ⟨rfl, rfl, rfl, hx, hb, hml, hown, hts, hK, hA⟩ := k
  obtain ⟨hqN, hn, cA, t0, ht, hc⟩ := hq
  intro H locs ls hP hD hS hl0
  have hat : (gw ad cg N C)[q]? = some (ad q, .inl (cA, n, .inl (fun j : Nat => iI (C q j)))) := by rw [gw_at hqN]; exact congrArg some (congrArg (Prod.mk (ad q)) (hc (C q)))
  exact va_alen hx hb hK hP q t0 hat ht (iI_nat n) hd (h H locs ls hP hD hS hl0)
theorem gg_get (k : gOk K B l R nL cc own Ts) {q Nf idx : Nat} {Cn ref : String} {T : u_T} {fs : (Int → Int) → List Value} (hq : gOB B q Cn T Nf fs) (hin : ∀ w ∈ u_ws Cn T Nf, w ∈ Ts) (f : Nat) (hf : f < Nf) (hm : Cond.fieldLink own idx ref (T f).2.1 (T f).2.2.1 ∈ Ts) (hsame : ref = (T f).1) {v : Value} (hv : (fs (C q))[f]? = some v) (hd : decode cc pc = .ok (.getfield idx, 3)) (h : GG K B C (pc + 3) lv (v :: st)) : GG K B C pc lv (.ref (gad B q) :: st) := by
  obtain ⟨p, l', e', R', s, m, args, below, meth, c, A, Q, nL'⟩ := K
  obtain ⟨D, cl, tys, ad, cg, N⟩ := B
  obtain ⟨rfl, rfl, rfl, hx, hb, hml, hown, hts, hK, hA⟩ := k
  obtain ⟨hqN, ci, hcl, hc⟩ := hq
  intro H locs ls hP hD hS hl0
  have hat : (gw ad cg N C)[q]? = some (ad q, .inr (ci, fs (C q))) := by rw [gw_at hqN]; exact congrArg some (congrArg (Prod.mk (ad q)) (hc (C q)))
  exact va_get hx hb hts hin hown hK hP q hat hcl f hf (hts _ hm) (fun x h9 => by rw [hsame]; exact h9) hv hd (h H locs ls hP hD hS hl0)
theorem gg_put (k : gOk K B l R nL cc own Ts) {q Nf idx : Nat} {Cn ref : String} {T : u_T} {fs : (Int → Int) → List Value} (hq : gOB B q Cn T Nf fs) (hin : ∀ w ∈ u_ws Cn T Nf, w ∈ Ts) (ty0 : Nat → FieldType) (hty : ∀ k, k < Nf → parseFieldDescriptor (T k).2.2.1 = some (ty0 k)) (hnm : ∀ a, a < Nf → ∀ b, b < Nf → a ≠ b → (T a).2.1 ≠ (T b).2.1) (f : Nat) (hf : f < Nf) (hm : Cond.fieldLink own idx ref (T f).2.1 (T f).2.2.1 ∈ Ts) (hsame : ref = (T f).1) (hfin : (T f).2.2.2 = false) (hdI : (T f).2.2.1 = "I") {e v : Int} (hl : f < (fs (C q)).length) (hset : fs (fun j => if j = e then v else C q j) = (fs (C q)).set f (.int (iI v))) (hd : decode cc pc = .ok (.putfield idx, 3)) (h : GG K B (wr C q e v) (pc + 3) lv st) : GG K B C pc lv (.int (iI v) :: .ref (gad B q) :: st) := by
  obtain ⟨p, l', e', R', s, m, args, below, meth, c, A, Q, nL'⟩ := K
  obtain ⟨D, cl, tys, ad, cg, N⟩ := B
  obtain ⟨rfl, rfl, rfl, hx, hb, hml, hown, hts, hK, hA⟩ := k
  obtain ⟨hqN, ci, hcl, hc⟩ := hq
  intro H locs ls hP hD hS hl0
  have hat : (gw ad cg N C)[q]? = some (ad q, .inr (ci, fs (C q))) := by rw [gw_at hqN]; exact congrArg some (congrArg (Prod.mk (ad q)) (hc (C q)))
  refine va_put (ty := .int) hx hb hts hin ty0 hty hnm hown hK hP hD hS q hat hcl f hf (hts _ hm) (fun x h9 => by rw [hsame]; exact h9) hfin (by rw [hdI]; decide +kernel) rfl rfl hl hd fun H1 locs1 hP1 hD1 hS1 => ?_
  have hw : (gw ad cg N C).set q (ad q, .inr (ci, (fs (C q)).set f (.int (iI v)))) = gw ad cg N (wr C q e v) := by
    refine gw_wr hqN ?_
    rw [← hset]
    exact hc _
  change va_P D cl ((gw ad cg N C).set q (ad q, _)) H1 at hP1
  rw [hw] at hP1 hD1
  exact h H1 locs1 ls hP1 hD1 hS1 hl0
end GG2
end
section
/-! ===== contracts over one world, calls, entry ===== -/
def gA (B : gB) (sz : Nat) : Nat → Prop := fun q => (∃ k, k < B.2.2.2.2.2 ∧ q = gad B k) ∨ sz ≤ q
def gPre (B : gB) (C : gSt) (sz : Nat) (U : State) : Prop := match B with
  | (D, cl, tys, ad, cg, N) => U.heap.size = sz ∧ va_P D cl (gw ad cg N C) U.heap ∧ va_K D cl tys U ∧ va_D (fun _ => True) (gw ad cg N C)
def gPost (B : gB) (sz : Nat) (C : gSt) (t : State) : Prop := match B with
  | (D, cl, tys, ad, cg, N) => va_P D cl (gw ad cg N C) t.heap ∧ va_K D cl tys t ∧ va_D (gA (D, cl, tys, ad, cg, N) sz) (gw ad cg N C)
def gMi (l : Launch) (B : gB) (y : MethodName) (ws : List Cond) (rm : Room) (As : List Value) (C : gSt) (post : Int → gSt → Prop) : Prop := ∀ sz : Nat, Met l y ws rm (va_Pc As (gPre B C sz)) (va_Qi (fun r C' => ∃ z, r = iI z ∧ rI z ∧ post z C') (gPost B sz) (gA B sz)) 0 0 (gA B sz)
def gMl (l : Launch) (B : gB) (y : MethodName) (ws : List Cond) (rm : Room) (As : List Value) (C : gSt) (post : Int → gSt → Prop) : Prop := ∀ sz : Nat, Met l y ws rm (va_Pc As (gPre B C sz)) (va_Ql (fun r C' => ∃ z, r = iL z ∧ rL z ∧ post z C') (gPost B sz) (gA B sz)) 0 0 (gA B sz)
def gMv (l : Launch) (B : gB) (y : MethodName) (ws : List Cond) (rm : Room) (As : List Value) (C : gSt) (post : gSt → Prop) : Prop := ∀ sz : Nat, Met l y ws rm (va_Pc As (gPre B C sz)) (va_Qv (fun C' => post C') (gPost B sz) (gA B sz)) 0 0 (gA B sz)
theorem gPre_blind {B : gB} {C : gSt} {sz : Nat} {As : List Value} : FrameBlind (va_Pc As (gPre B C sz)) := by
  intro a U g mk q
  obtain ⟨D, cl, tys, ad, cg, N⟩ := B
  obtain ⟨q0, q1, qP, qK, qD⟩ := q
  exact ⟨q0, q1, qP, va_K.moved (u := U) (U := U.calling g mk a) (Vm.Alike.refl U.vm) qK, qD⟩
theorem gA_in {B : gB} {A : Nat → Prop} {C : gSt} {H0 H : Heap} {locs : List Loc} (hD : va_D A (gw B.2.2.2.1 B.2.2.2.2.1 B.2.2.2.2.2 C)) (hS : va_S A H0 H locs) (hA : ∀ q, H0.size ≤ q → A q) : ∀ q, gA B H.size q → A q := by
  intro q h
  rcases h with ⟨k, hk, rfl⟩ | h
  · exact hD.2 k _ (gw_at hk)
  · exact hA q (Nat.le_trans hS.1 h)
theorem gD_in {ad : Nat → Nat} {cg : gCg} {N : Nat} {A A' : Nat → Prop} {C C' : gSt} (hD : va_D A (gw ad cg N C)) (hD' : va_D A' (gw ad cg N C')) : va_D A (gw ad cg N C') := by
  refine ⟨hD'.1, fun k q hk => ?_⟩
  obtain ⟨h1, rfl⟩ := gw_in hk
  exact (hD.2 k (ad k, cg k (C k)) (gw_at h1) : A (ad k))
/-- what a return row gives -/
def gRi (K : gK) (B : gB) (cc : ByteArray) (post : Int → gSt → Prop) : Prop := ∀ (pc : Nat) (lv : gLv) (z : Int) (C' : gSt), decode cc pc = .ok (.ireturn, 1) → rI z → post z C' → GG K B C' pc lv [.int (iI z)]
def gRl (K : gK) (B : gB) (cc : ByteArray) (post : Int → gSt → Prop) : Prop := ∀ (pc : Nat) (lv : gLv) (z : Int) (C' : gSt), decode cc pc = .ok (.lreturn, 1) → rL z → post z C' → GG K B C' pc lv [.long (iL z)]
def gRv (K : gK) (B : gB) (cc : ByteArray) (post : gSt → Prop) : Prop := ∀ (pc : Nat) (lv : gLv) (C' : gSt), decode cc pc = .ok (.return_, 1) → post C' → GG K B C' pc lv []
section GG3
variable {K : gK} {B : gB} {C : gSt} {l : Launch} {R : Room} {nL : Nat} {cc : ByteArray} {own : String} {Ts : List Cond} {pc : Nat} {lv : gLv} {st : List Value}
theorem gA_start {D : va_G} {cl : List vw_C} {tys : List (ClassId × FieldType)} {ad : Nat → Nat} {cg : gCg} {N sz : Nat} {C : gSt} (hD : va_D (fun _ => True) (gw ad cg N C)) : va_D (gA (D, cl, tys, ad, cg, N) sz) (gw ad cg N C) := by
  refine ⟨hD.1, fun k q hk => ?_⟩
  obtain ⟨h1, rfl⟩ := gw_in hk
  exact Or.inl ⟨k, h1, rfl⟩
theorem gMi_of {y : MethodName} {ws ws' : List Cond} {rm : Room} {As : List Value} {post : Int → gSt → Prop} {ty : FieldType} (hty : ty = .int) (hy : plainName y.cls = true) (hw : ws = Cond.code y cc nL (some ty) :: ws') (hn : (lg_sl As).length ≤ nL)
    (body : ∀ K : gK, gOk K B l rm nL cc y.cls ws → gRi K B cc post → GG K B C 0 (lv_args 0 As) []) : gMi l B y ws rm As C post := by
  intro sz
  subst hty
  refine Met.ofW (cc := cc) (maxL := nL) (ret := some .int) hy hw ?_
  intro p e s m args below meth c s₁ Bd hml hv
  obtain ⟨D, cl, tys, ad, cg, N⟩ := B
  obtain ⟨rfl, hsz, hP, hK, hD0⟩ := hv
  have hlocks := Bd.notSynchronized
  have hD := gA_start (D := D) (cl := cl) (tys := tys) (sz := sz) hD0
  have hl := lv_entry As (n := nL) hn
  rw [lg_entry_eq]
  refine body (p, l, e, (headSpec ws rm).room, s, m, As.toArray, below, meth, c, gA (D, cl, tys, ad, cg, N) sz, _, nL) ⟨rfl, rfl, rfl, Bd.exec, Bd.bytes, hml, findClass_of_methodNamed Bd.named, atoms_spec (ws := ws) Bd.pre, hK, fun q h => Or.inr (by rw [← hsz]; exact h)⟩ ?_ s.heap [] _ hP hD va_S.rf hl
  intro pc lv z C' hd hz hp H locs ls hP' hD' hS' hl'
  exact W.iret (v := iI z) Bd.exec Bd.bytes Bd.returns (fun t ht hW => ⟨⟨iI z, C', rfl, ⟨z, rfl, hz, hp⟩, by rw [ht]; exact hP', va_K.moved hW.alike hK, hD'⟩, hS'.F ht⟩) hS'.2.2 hd
theorem gMz_of {y : MethodName} {ws ws' : List Cond} {rm : Room} {As : List Value} {post : Int → gSt → Prop} (hy : plainName y.cls = true) (hw : ws = Cond.code y cc nL (some .boolean) :: ws') (hn : (lg_sl As).length ≤ nL) (h01 : ∀ z C', post z C' → z = 0 ∨ z = 1)
    (body : ∀ K : gK, gOk K B l rm nL cc y.cls ws → gRi K B cc post → GG K B C 0 (lv_args 0 As) []) : gMi l B y ws rm As C post := by
  intro sz
  refine Met.ofW (cc := cc) (maxL := nL) (ret := some .boolean) hy hw ?_
  intro p e s m args below meth c s₁ Bd hml hv
  obtain ⟨D, cl, tys, ad, cg, N⟩ := B
  obtain ⟨rfl, hsz, hP, hK, hD0⟩ := hv
  have hlocks := Bd.notSynchronized
  have hD := gA_start (D := D) (cl := cl) (tys := tys) (sz := sz) hD0
  have hl := lv_entry As (n := nL) hn
  rw [lg_entry_eq]
  refine body (p, l, e, (headSpec ws rm).room, s, m, As.toArray, below, meth, c, gA (D, cl, tys, ad, cg, N) sz, _, nL) ⟨rfl, rfl, rfl, Bd.exec, Bd.bytes, hml, findClass_of_methodNamed Bd.named, atoms_spec (ws := ws) Bd.pre, hK, fun q h => Or.inr (by rw [← hsz]; exact h)⟩ ?_ s.heap [] _ hP hD va_S.rf hl
  intro pc lv z C' hd hz hp H locs ls hP' hD' hS' hl'
  exact W.zret (v := iI z) (ty := .boolean) Bd.exec Bd.bytes Bd.returns (by rcases h01 z C' hp with rfl | rfl <;> decide +kernel) (fun t ht hW => ⟨⟨iI z, C', rfl, ⟨z, rfl, hz, hp⟩, by rw [ht]; exact hP', va_K.moved hW.alike hK, hD'⟩, hS'.F ht⟩) hS'.2.2 hd
theorem gMl_of {y : MethodName} {ws ws' : List Cond} {rm : Room} {As : List Value} {post : Int → gSt → Prop} (hy : plainName y.cls = true) (hw : ws = Cond.code y cc nL (some .long) :: ws') (hn : (lg_sl As).length ≤ nL)
    (body : ∀ K : gK, gOk K B l rm nL cc y.cls ws → gRl K B cc post → GG K B C 0 (lv_args 0 As) []) : gMl l B y ws rm As C post := by
  intro sz
  refine Met.ofW (cc := cc) (maxL := nL) (ret := some .long) hy hw ?_
  intro p e s m args below meth c s₁ Bd hml hv
  obtain ⟨D, cl, tys, ad, cg, N⟩ := B
  obtain ⟨rfl, hsz, hP, hK, hD0⟩ := hv
  have hlocks := Bd.notSynchronized
  have hD := gA_start (D := D) (cl := cl) (tys := tys) (sz := sz) hD0
  have hl := lv_entry As (n := nL) hn
  rw [lg_entry_eq]
  refine body (p, l, e, (headSpec ws rm).room, s, m, As.toArray, below, meth, c, gA (D, cl, tys, ad, cg, N) sz, _, nL) ⟨rfl, rfl, rfl, Bd.exec, Bd.bytes, hml, findClass_of_methodNamed Bd.named, atoms_spec (ws := ws) Bd.pre, hK, fun q h => Or.inr (by rw [← hsz]; exact h)⟩ ?_ s.heap [] _ hP hD va_S.rf hl
  intro pc lv z C' hd hz hp H locs ls hP' hD' hS' hl'
  exact W.lret (v := iL z) Bd.exec Bd.bytes Bd.returns (fun t ht hW => ⟨⟨iL z, C', rfl, ⟨z, rfl, hz, hp⟩, by rw [ht]; exact hP', va_K.moved hW.alike hK, hD'⟩, hS'.F ht⟩) hS'.2.2 hd
theorem gMv_of {y : MethodName} {ws ws' : List Cond} {rm : Room} {As : List Value} {post : gSt → Prop} (hy : plainName y.cls = true) (hw : ws = Cond.code y cc nL none :: ws') (hn : (lg_sl As).length ≤ nL)
    (body : ∀ K : gK, gOk K B l rm nL cc y.cls ws → gRv K B cc post → GG K B C 0 (lv_args 0 As) []) : gMv l B y ws rm As C post := by
  intro sz
  refine Met.ofW (cc := cc) (maxL := nL) (ret := none) hy hw ?_
  intro p e s m args below meth c s₁ Bd hml hv
  obtain ⟨D, cl, tys, ad, cg, N⟩ := B
  obtain ⟨rfl, hsz, hP, hK, hD0⟩ := hv
  have hlocks := Bd.notSynchronized
  have hD := gA_start (D := D) (cl := cl) (tys := tys) (sz := sz) hD0
  have hl := lv_entry As (n := nL) hn
  rw [lg_entry_eq]
  refine body (p, l, e, (headSpec ws rm).room, s, m, As.toArray, below, meth, c, gA (D, cl, tys, ad, cg, N) sz, _, nL) ⟨rfl, rfl, rfl, Bd.exec, Bd.bytes, hml, findClass_of_methodNamed Bd.named, atoms_spec (ws := ws) Bd.pre, hK, fun q h => Or.inr (by rw [← hsz]; exact h)⟩ ?_ s.heap [] _ hP hD va_S.rf hl
  intro pc lv C' hd hp H locs ls hP' hD' hS' hl'
  exact W.vret Bd.exec Bd.bytes Bd.returns (fun t ht hW => ⟨⟨C', rfl, hp, by rw [ht]; exact hP', va_K.moved hW.alike hK, hD'⟩, hS'.F ht⟩) hS'.2.2 hd
/-- what a call asks of the names, of an instance method and of a static one -/
def gCw (R : Room) (own : String) (Ts : List Cond) (Cn : String) (idx : Nat) (y : MethodName) (ws : List Cond) (rm : Room) (n : Nat) (ret : Option FieldType) : Prop := ∃ (bytes : ByteArray) (maxL : Nat) (ws' : List Cond), GoodIn Ts (wsV own idx Cn y ws) ∧ ws = Cond.code y bytes maxL ret :: ws' ∧ rm.cells = 0 ∧ rm.slots = 0 ∧ (y.cls = Cn ∧ y.cls ≠ "java/lang/invoke/MethodHandle" ∧ y.cls ≠ "java/lang/invoke/VarHandle" ∧ (parseMethodDescriptor y.desc).map (fun d => d.parameters.length) = some n) ∧ (rm.frames + 1 ≤ R.frames ∧ 8 + (maxL + 11) + rm.locals ≤ R.locals)
def gCs (R : Room) (own : String) (Ts : List Cond) (idx : Nat) (y : MethodName) (ws : List Cond) (rm : Room) (n : Nat) (ret : Option FieldType) : Prop := ∃ (bytes : ByteArray) (maxL : Nat) (ws' : List Cond), GoodIn Ts (va_wsS own idx y ws) ∧ ws = Cond.code y bytes maxL ret :: ws' ∧ rm.cells = 0 ∧ rm.slots = 0 ∧ (y.cls ≠ "java/lang/invoke/MethodHandle" ∧ y.cls ≠ "java/lang/invoke/VarHandle" ∧ (parseMethodDescriptor y.desc).map (fun d => d.parameters.length) = some n) ∧ (rm.frames + 1 ≤ R.frames ∧ 8 + (maxL + 11) + rm.locals ≤ R.locals)
theorem gg_calli (k : gOk K B l R nL cc own Ts) {y : MethodName} {ws : List Cond} {rm : Room} {q Nf idx n : Nat} {Cn : String} {T : u_T} {fs : (Int → Int) → List Value} {ret : Option FieldType} {As rest : List Value} {post : Int → gSt → Prop} (hM : gMi l B y ws rm (.ref (gad B q) :: As) C post) (hcw : gCw R own Ts Cn idx y ws rm n ret) (hq : gOB B q Cn T Nf fs) (hst : st = As.reverse ++ .ref (gad B q) :: rest) (hn : As.length = n) (hr : (rest.map fun v => v.category).sum ≤ 8) (hd : decode cc pc = .ok (.invokevirtual idx, 3))
    (h : ∀ (z : Int) (C' : gSt), rI z → post z C' → GG K B C' (pc + 3) lv (.int (iI z) :: rest)) : GG K B C pc lv st := by
  obtain ⟨p, l', e', R', s, m, args, below, meth, c, A, Q, nL'⟩ := K
  obtain ⟨D, cl, tys, ad, cg, N⟩ := B
  obtain ⟨rfl, rfl, rfl, hx, hb, hml, hown, hts, hK, hA⟩ := k
  obtain ⟨hqN, ci, hcl, hc⟩ := hq
  obtain ⟨bytes, maxL, ws', hG, hw, hrc, hrs, hd9, hR⟩ := hcw
  intro H locs ls hP hD hS hl0
  have hat : (gw ad cg N C)[q]? = some (ad q, .inr (ci, fs (C q))) := by rw [gw_at hqN]; exact congrArg some (congrArg (Prod.mk (ad q)) (hc (C q)))
  have hF := gA_in (B := (D, cl, tys, ad, cg, N)) hD hS hA
  refine va_calli (va_runV (As := As) (rest := rest) (b := ad q) ⟨hx, hb, hml, hown, hts⟩ (hM H.size) (cwV n hts hG hw hrc hrs hd9 hR) ⟨gPre_blind, va_recv hK hP hcl hat, fun U hU hW => ⟨rfl, by rw [hU], by rw [hU]; exact hP, va_K.moved hW.alike hK, hD.weaken (fun _ _ _ _ => trivial)⟩⟩ rfl hn hl0.1 hst (lv_room hr) hd ⟨Nat.zero_le _, Nat.zero_le _⟩) hS (fun q _ w => hF q w) hF (fun r C' t H1 locs1 ht hvm hw hB hz1 hk1 hS1 => ?_)
  obtain ⟨z, rfl, hz, hp⟩ := hw
  obtain ⟨hP1, hK1, hD1⟩ := hB
  rw [ht] at hP1
  exact h z C' hz hp H1 locs1 ls hP1 (gD_in hD hD1) hS1 hl0
theorem gg_calll (k : gOk K B l R nL cc own Ts) {y : MethodName} {ws : List Cond} {rm : Room} {q Nf idx n : Nat} {Cn : String} {T : u_T} {fs : (Int → Int) → List Value} {ret : Option FieldType} {As rest : List Value} {post : Int → gSt → Prop} (hM : gMl l B y ws rm (.ref (gad B q) :: As) C post) (hcw : gCw R own Ts Cn idx y ws rm n ret) (hq : gOB B q Cn T Nf fs) (hst : st = As.reverse ++ .ref (gad B q) :: rest) (hn : As.length = n) (hr : (rest.map fun v => v.category).sum ≤ 8) (hd : decode cc pc = .ok (.invokevirtual idx, 3))
    (h : ∀ (z : Int) (C' : gSt), rL z → post z C' → GG K B C' (pc + 3) lv (.long (iL z) :: rest)) : GG K B C pc lv st := by
  obtain ⟨p, l', e', R', s, m, args, below, meth, c, A, Q, nL'⟩ := K
  obtain ⟨D, cl, tys, ad, cg, N⟩ := B
  obtain ⟨rfl, rfl, rfl, hx, hb, hml, hown, hts, hK, hA⟩ := k
  obtain ⟨hqN, ci, hcl, hc⟩ := hq
  obtain ⟨bytes, maxL, ws', hG, hw, hrc, hrs, hd9, hR⟩ := hcw
  intro H locs ls hP hD hS hl0
  have hat : (gw ad cg N C)[q]? = some (ad q, .inr (ci, fs (C q))) := by rw [gw_at hqN]; exact congrArg some (congrArg (Prod.mk (ad q)) (hc (C q)))
  have hF := gA_in (B := (D, cl, tys, ad, cg, N)) hD hS hA
  refine va_calll (va_runV (As := As) (rest := rest) (b := ad q) ⟨hx, hb, hml, hown, hts⟩ (hM H.size) (cwV n hts hG hw hrc hrs hd9 hR) ⟨gPre_blind, va_recv hK hP hcl hat, fun U hU hW => ⟨rfl, by rw [hU], by rw [hU]; exact hP, va_K.moved hW.alike hK, hD.weaken (fun _ _ _ _ => trivial)⟩⟩ rfl hn hl0.1 hst (lv_room hr) hd ⟨Nat.zero_le _, Nat.zero_le _⟩) hS (fun q _ w => hF q w) hF (fun r C' t H1 locs1 ht hvm hw hB hz1 hk1 hS1 => ?_)
  obtain ⟨z, rfl, hz, hp⟩ := hw
  obtain ⟨hP1, hK1, hD1⟩ := hB
  rw [ht] at hP1
  exact h z C' hz hp H1 locs1 ls hP1 (gD_in hD hD1) hS1 hl0
theorem gg_callv (k : gOk K B l R nL cc own Ts) {y : MethodName} {ws : List Cond} {rm : Room} {q Nf idx n : Nat} {Cn : String} {T : u_T} {fs : (Int → Int) → List Value} {ret : Option FieldType} {As rest : List Value} {post : gSt → Prop} (hM : gMv l B y ws rm (.ref (gad B q) :: As) C post) (hcw : gCw R own Ts Cn idx y ws rm n ret) (hq : gOB B q Cn T Nf fs) (hst : st = As.reverse ++ .ref (gad B q) :: rest) (hn : As.length = n) (hr : (rest.map fun v => v.category).sum ≤ 8) (hd : decode cc pc = .ok (.invokevirtual idx, 3))
    (h : ∀ (C' : gSt), post C' → GG K B C' (pc + 3) lv rest) : GG K B C pc lv st := by
  obtain ⟨p, l', e', R', s, m, args, below, meth, c, A, Q, nL'⟩ := K
  obtain ⟨D, cl, tys, ad, cg, N⟩ := B
  obtain ⟨rfl, rfl, rfl, hx, hb, hml, hown, hts, hK, hA⟩ := k
  obtain ⟨hqN, ci, hcl, hc⟩ := hq
  obtain ⟨bytes, maxL, ws', hG, hw, hrc, hrs, hd9, hR⟩ := hcw
  intro H locs ls hP hD hS hl0
  have hat : (gw ad cg N C)[q]? = some (ad q, .inr (ci, fs (C q))) := by rw [gw_at hqN]; exact congrArg some (congrArg (Prod.mk (ad q)) (hc (C q)))
  have hF := gA_in (B := (D, cl, tys, ad, cg, N)) hD hS hA
  refine va_callv (va_runV (As := As) (rest := rest) (b := ad q) ⟨hx, hb, hml, hown, hts⟩ (hM H.size) (cwV n hts hG hw hrc hrs hd9 hR) ⟨gPre_blind, va_recv hK hP hcl hat, fun U hU hW => ⟨rfl, by rw [hU], by rw [hU]; exact hP, va_K.moved hW.alike hK, hD.weaken (fun _ _ _ _ => trivial)⟩⟩ rfl hn hl0.1 hst (lv_room hr) hd ⟨Nat.zero_le _, Nat.zero_le _⟩) hS (fun q _ w => hF q w) hF (fun C' t H1 locs1 ht hvm hw hB hz1 hk1 hS1 => ?_)
  obtain ⟨hP1, hK1, hD1⟩ := hB
  rw [ht] at hP1
  exact h C' hw H1 locs1 ls hP1 (gD_in hD hD1) hS1 hl0
theorem gg_callsi (k : gOk K B l R nL cc own Ts) {y : MethodName} {ws : List Cond} {rm : Room} {idx n : Nat} {ret : Option FieldType} {As rest : List Value} {post : Int → gSt → Prop} (hM : gMi l B y ws rm As C post) (hcw : gCs R own Ts idx y ws rm n ret) (hst : st = As.reverse ++ rest) (hn : As.length = n) (hr : (rest.map fun v => v.category).sum ≤ 8) (hd : decode cc pc = .ok (.invokestatic idx, 3))
    (h : ∀ (z : Int) (C' : gSt), rI z → post z C' → GG K B C' (pc + 3) lv (.int (iI z) :: rest)) : GG K B C pc lv st := by
  obtain ⟨p, l', e', R', s, m, args, below, meth, c, A, Q, nL'⟩ := K
  obtain ⟨D, cl, tys, ad, cg, N⟩ := B
  obtain ⟨rfl, rfl, rfl, hx, hb, hml, hown, hts, hK, hA⟩ := k
  obtain ⟨bytes, maxL, ws', hG, hw, hrc, hrs, hd9, hR⟩ := hcw
  intro H locs ls hP hD hS hl0
  have hF := gA_in (B := (D, cl, tys, ad, cg, N)) hD hS hA
  refine va_calli (va_runS (As := As) (rest := rest) ⟨hx, hb, hml, hown, hts⟩ (hM H.size) (va_cwS n hts hG hw hrc hrs hd9 hR) ⟨gPre_blind, fun U hU hW => ⟨rfl, by rw [hU], by rw [hU]; exact hP, va_K.moved hW.alike hK, hD.weaken (fun _ _ _ _ => trivial)⟩⟩ rfl hn hl0.1 hst (lv_room hr) hd ⟨Nat.zero_le _, Nat.zero_le _⟩) hS (fun q _ w => hF q w) hF (fun r C' t H1 locs1 ht hvm hw hB hz1 hk1 hS1 => ?_)
  obtain ⟨z, rfl, hz, hp⟩ := hw
  obtain ⟨hP1, hK1, hD1⟩ := hB
  rw [ht] at hP1
  exact h z C' hz hp H1 locs1 ls hP1 (gD_in hD hD1) hS1 hl0
theorem iI_max {a b : Int} (ha : rI a) (hb : rI b) : (if iI a < iI b then iI b else iI a) = iI (max a b) := by
  by_cases h : a < b
  · rw [if_pos ((iI_lt ha hb).mpr h), Int.max_eq_right (by omega)]
  · rw [if_neg (fun w => h ((iI_lt ha hb).mp w)), Int.max_eq_left (by omega)]
theorem iI_min {a b : Int} (ha : rI a) (hb : rI b) : (if iI b < iI a then iI b else iI a) = iI (min a b) := by
  by_cases h : b < a
  · rw [if_pos ((iI_lt hb ha).mpr h), Int.min_eq_right (by omega)]
  · rw [if_neg (fun w => h ((iI_lt hb ha).mp w)), Int.min_eq_left (by omega)]
theorem iL_max {a b : Int} (ha : rL a) (hb : rL b) : (if iL b < iL a then iL a else iL b) = iL (max a b) := by
  by_cases h : b < a
  · rw [if_pos ((iL_lt hb ha).mpr h), Int.max_eq_left (by omega)]
  · rw [if_neg (fun w => h ((iL_lt hb ha).mp w)), Int.max_eq_right (by omega)]
theorem gg_max (k : gOk K B l R nL cc own Ts) {idx : Nat} {a b : Int} (ha : rI a) (hb0 : rI b) (hd : decode cc pc = .ok (.invokestatic idx, 3)) (h1 : Cond.methodLink own idx Lib.Math.max.name ∈ Ts) (h2 : Cond.static Lib.Math.max.name ∈ Ts) (h3 : Cond.initialized "java/lang/Math" ∈ Ts) (h4 : Cond.code Lib.Math.max.name Lib.Math.max.code 2 (some .int) ∈ Ts) (hR : 1 ≤ R.frames) (hR2 : (st.map fun v => v.category).sum + 13 ≤ R.locals) (h : GG K B C (pc + 3) lv (.int (iI (max a b)) :: st)) : GG K B C pc lv (.int (iI b) :: .int (iI a) :: st) :=
  gg_go k (fun _ _ _ _ _ _ _ _ _ _ _ _ hx hb ho ht hml _ hw => va_mmax hx hb hml ho (ht _ h1) (ht _ h2) (ht _ h3) (ht _ h4) hR hR2 (Nat.zero_le _) (Nat.zero_le _) hd (by rw [iI_max ha hb0]; exact hw)) h
theorem gg_min (k : gOk K B l R nL cc own Ts) {idx : Nat} {a b : Int} (ha : rI a) (hb0 : rI b) (hd : decode cc pc = .ok (.invokestatic idx, 3)) (h1 : Cond.methodLink own idx Lib.Math.min.name ∈ Ts) (h2 : Cond.static Lib.Math.min.name ∈ Ts) (h3 : Cond.initialized "java/lang/Math" ∈ Ts) (h4 : Cond.code Lib.Math.min.name Lib.Math.min.code 2 (some .int) ∈ Ts) (hR : 1 ≤ R.frames) (hR2 : (st.map fun v => v.category).sum + 13 ≤ R.locals) (h : GG K B C (pc + 3) lv (.int (iI (min a b)) :: st)) : GG K B C pc lv (.int (iI b) :: .int (iI a) :: st) :=
  gg_go k (fun _ _ _ _ _ _ _ _ _ _ _ _ hx hb ho ht hml _ hw => va_mmin hx hb hml ho (ht _ h1) (ht _ h2) (ht _ h3) (ht _ h4) hR hR2 (Nat.zero_le _) (Nat.zero_le _) hd (by rw [iI_min ha hb0]; exact hw)) h
theorem gg_maxl (k : gOk K B l R nL cc own Ts) {idx : Nat} {a b : Int} (ha : rL a) (hb0 : rL b) (hd : decode cc pc = .ok (.invokestatic idx, 3)) (h1 : Cond.methodLink own idx Lib.MathLoose.max_long.x ∈ Ts) (h2 : Cond.static Lib.MathLoose.max_long.x ∈ Ts) (h3 : Cond.initialized "java/lang/Math" ∈ Ts) (h4 : Cond.code Lib.MathLoose.max_long.x Lib.MathLoose.max_long.code 4 (some .long) ∈ Ts) (hR : 1 ≤ R.frames) (hR2 : (st.map fun v => v.category).sum + 15 ≤ R.locals) (h : GG K B C (pc + 3) lv (.long (iL (max a b)) :: st)) : GG K B C pc lv (.long (iL b) :: .long (iL a) :: st) :=
  gg_go k (fun _ _ _ _ _ _ _ _ _ _ _ _ hx hb ho ht hml _ hw => va_mmax_long hx hb hml ho (ht _ h1) (ht _ h2) (ht _ h3) (ht _ h4) hR hR2 (Nat.zero_le _) (Nat.zero_le _) hd (by rw [iL_max ha hb0]; exact hw)) h
end GG3
end
section
/-! ===== what is told, as numbers: S 0 i w an item's numbers, S 1 needs, S 2 lots, S 3 times part of, S 4 0 p capacities, S 5 0 w over, S 6 0 0 how many items ===== -/
abbrev sS : Type := Nat → Int → Int → Int
def sNum (S : sS) (i w : Int) : Int := S 0 i w
def sNee (S : sS) (i p : Int) : Int := S 1 i p
def sLot (S : sS) (i p : Int) : Int := S 2 i p
def sTim (S : sS) (i j : Int) : Int := S 3 i j
def sCap (S : sS) (p : Int) : Int := S 4 0 p
def sOvr (S : sS) (w : Int) : Int := S 5 0 w
def sCnt (S : sS) : Int := S 6 0 0
def sBnd (w : Int) : Int := if w = 0 then 10000 else if w = 1 then 100 else if w = 2 then 1000 else if w = 3 then 12 else if w = 4 then 1000 else if w = 5 then 20 else if w = 6 then 200 else if w = 7 then 3 else 0
def sOk (S : sS) (T : Int) : Prop := (1 ≤ T ∧ T ≤ 12) ∧ (0 ≤ sCnt S ∧ sCnt S ≤ 6) ∧ (∀ i w, 0 ≤ sNum S i w ∧ sNum S i w ≤ sBnd w) ∧ (∀ i p, 0 ≤ sNee S i p ∧ sNee S i p ≤ 1000) ∧ (∀ i p, 0 ≤ sLot S i p ∧ sLot S i p ≤ 5000) ∧ (∀ i j, 0 ≤ sTim S i j ∧ sTim S i j ≤ 9) ∧ (∀ p, 0 ≤ sCap S p ∧ sCap S p ≤ 10000) ∧ (∀ w, 0 ≤ sOvr S w ∧ sOvr S w ≤ if w = 0 then 100 else 10000) ∧ (∀ i j, ¬ (0 ≤ j ∧ j < sCnt S) → sTim S i j = 0)
section SOK
variable {S : sS} {T : Int}
theorem sOk.t (h : sOk S T) : 1 ≤ T ∧ T ≤ 12 := h.1
theorem sOk.cnt (h : sOk S T) : 0 ≤ sCnt S ∧ sCnt S ≤ 6 := h.2.1
theorem sOk.num (h : sOk S T) (i w : Int) : 0 ≤ sNum S i w ∧ sNum S i w ≤ sBnd w := h.2.2.1 i w
theorem sOk.nee (h : sOk S T) (i p : Int) : 0 ≤ sNee S i p ∧ sNee S i p ≤ 1000 := h.2.2.2.1 i p
theorem sOk.lot (h : sOk S T) (i p : Int) : 0 ≤ sLot S i p ∧ sLot S i p ≤ 5000 := h.2.2.2.2.1 i p
theorem sOk.tim (h : sOk S T) (i j : Int) : 0 ≤ sTim S i j ∧ sTim S i j ≤ 9 := h.2.2.2.2.2.1 i j
theorem sOk.cap (h : sOk S T) (p : Int) : 0 ≤ sCap S p ∧ sCap S p ≤ 10000 := h.2.2.2.2.2.2.1 p
theorem sOk.ovr (h : sOk S T) (w : Int) : 0 ≤ sOvr S w ∧ sOvr S w ≤ 10000 := ⟨(h.2.2.2.2.2.2.2.1 w).1, by have := (h.2.2.2.2.2.2.2.1 w).2; split at this <;> omega⟩
theorem sOk.ovr0 (h : sOk S T) : 0 ≤ sOvr S 0 ∧ sOvr S 0 ≤ 100 := h.2.2.2.2.2.2.2.1 0
theorem sOk.tim0 (h : sOk S T) (i j : Int) (hj : ¬ (0 ≤ j ∧ j < sCnt S)) : sTim S i j = 0 := h.2.2.2.2.2.2.2.2 i j hj
theorem sOk.n0 (h : sOk S T) (i : Int) : 0 ≤ sNum S i 0 ∧ sNum S i 0 ≤ 10000 := h.num i 0
theorem sOk.n1 (h : sOk S T) (i : Int) : 0 ≤ sNum S i 1 ∧ sNum S i 1 ≤ 100 := h.num i 1
theorem sOk.n2 (h : sOk S T) (i : Int) : 0 ≤ sNum S i 2 ∧ sNum S i 2 ≤ 1000 := h.num i 2
theorem sOk.n3 (h : sOk S T) (i : Int) : 0 ≤ sNum S i 3 ∧ sNum S i 3 ≤ 12 := h.num i 3
theorem sOk.n4 (h : sOk S T) (i : Int) : 0 ≤ sNum S i 4 ∧ sNum S i 4 ≤ 1000 := h.num i 4
theorem sOk.n5 (h : sOk S T) (i : Int) : 0 ≤ sNum S i 5 ∧ sNum S i 5 ≤ 20 := h.num i 5
theorem sOk.n6 (h : sOk S T) (i : Int) : 0 ≤ sNum S i 6 ∧ sNum S i 6 ≤ 200 := h.num i 6
theorem sOk.n7 (h : sOk S T) (i : Int) : 0 ≤ sNum S i 7 ∧ sNum S i 7 ≤ 3 := h.num i 7
end SOK
/-! ===== the class's world: 0 the object, 1 its items; 2+9i an Item, 3+9i numbers, 4+9i needs, 5+9i lots, 6+9i timesPartOf, 7+9i Store, 8+9i stocks, 9+9i losses, 10+9i left; 56 capacities, 57 overs, 58 Machine, 59 setUps, 60 standing, 61 FaultList, 62 cells, 63 Alone, 64 nets, 65 costs, 66 untils, 67 amounts ===== -/
def clsB (B : gB) (T : Int) : Prop :=
  gOB B 0 RX5 TX5 8 (fun f => [.int (iI T), .ref (gad B 1), .int (iI (f 2)), .ref (gad B 56), .ref (gad B 57), .ref (gad B 58), .ref (gad B 61), .ref (gad B 63)]) ∧
  gQA B 1 6 (fun j => 2 + 9 * j) ∧
  (∀ i : Nat, i < 6 → gOB B (2 + 9 * i) RX2 TX2 5 (fun _ => [.ref (gad B (3 + 9 * i)), .ref (gad B (4 + 9 * i)), .ref (gad B (5 + 9 * i)), .ref (gad B (6 + 9 * i)), .ref (gad B (7 + 9 * i))]) ∧
    gIA B (3 + 9 * i) 8 ∧ gIA B (4 + 9 * i) (T.toNat + 1) ∧ gIA B (5 + 9 * i) (T.toNat + 1) ∧ gIA B (6 + 9 * i) 6 ∧
    gOB B (7 + 9 * i) RX4 TX4 3 (fun _ => [.ref (gad B (8 + 9 * i)), .ref (gad B (9 + 9 * i)), .ref (gad B (10 + 9 * i))]) ∧
    gIA B (8 + 9 * i) (T.toNat + 1) ∧ gIA B (9 + 9 * i) (T.toNat + 1) ∧ gIA B (10 + 9 * i) (T.toNat + 1)) ∧
  gIA B 56 (T.toNat + 1) ∧ gIA B 57 2 ∧
  gOB B 58 RX3 TX3 2 (fun _ => [.ref (gad B 59), .ref (gad B 60)]) ∧ gIA B 59 (T.toNat + 1) ∧ gIA B 60 (T.toNat + 1) ∧
  gOB B 61 RX1 TX1 2 (fun f => [.int (iI (f 0)), .ref (gad B 62)]) ∧ gIA B 62 (T.toNat * 52) ∧
  gOB B 63 RX0 TX0 5 (fun _ => [.int (iI T), .ref (gad B 64), .ref (gad B 65), .ref (gad B 66), .ref (gad B 67)]) ∧
  gIA B 64 (T.toNat + 1) ∧ gLA B 65 (T.toNat + 2) ∧ gIA B 66 (T.toNat + 1) ∧ gIA B 67 (T.toNat + 1)
section CB
variable {B : gB} {T : Int}
theorem cb0 (h : clsB B T) : gOB B 0 RX5 TX5 8 (fun f => [.int (iI T), .ref (gad B 1), .int (iI (f 2)), .ref (gad B 56), .ref (gad B 57), .ref (gad B 58), .ref (gad B 61), .ref (gad B 63)]) := h.1
theorem cb1 (h : clsB B T) : gQA B 1 6 (fun j => 2 + 9 * j) := h.2.1
theorem cbItem (h : clsB B T) {i : Int} (h0 : 0 ≤ i) (h1 : i < 6) : gOB B (2 + 9 * i.toNat) RX2 TX2 5 (fun _ => [.ref (gad B (3 + 9 * i.toNat)), .ref (gad B (4 + 9 * i.toNat)), .ref (gad B (5 + 9 * i.toNat)), .ref (gad B (6 + 9 * i.toNat)), .ref (gad B (7 + 9 * i.toNat))]) := (h.2.2.1 i.toNat (by omega)).1
theorem cbNum (h : clsB B T) {i : Int} (h0 : 0 ≤ i) (h1 : i < 6) : gIA B (3 + 9 * i.toNat) 8 := (h.2.2.1 i.toNat (by omega)).2.1
theorem cbNee (h : clsB B T) {i : Int} (h0 : 0 ≤ i) (h1 : i < 6) : gIA B (4 + 9 * i.toNat) (T.toNat + 1) := (h.2.2.1 i.toNat (by omega)).2.2.1
theorem cbLot (h : clsB B T) {i : Int} (h0 : 0 ≤ i) (h1 : i < 6) : gIA B (5 + 9 * i.toNat) (T.toNat + 1) := (h.2.2.1 i.toNat (by omega)).2.2.2.1
theorem cbTim (h : clsB B T) {i : Int} (h0 : 0 ≤ i) (h1 : i < 6) : gIA B (6 + 9 * i.toNat) 6 := (h.2.2.1 i.toNat (by omega)).2.2.2.2.1
theorem cbStore (h : clsB B T) {i : Int} (h0 : 0 ≤ i) (h1 : i < 6) : gOB B (7 + 9 * i.toNat) RX4 TX4 3 (fun _ => [.ref (gad B (8 + 9 * i.toNat)), .ref (gad B (9 + 9 * i.toNat)), .ref (gad B (10 + 9 * i.toNat))]) := (h.2.2.1 i.toNat (by omega)).2.2.2.2.2.1
theorem cbStocks (h : clsB B T) {i : Int} (h0 : 0 ≤ i) (h1 : i < 6) : gIA B (8 + 9 * i.toNat) (T.toNat + 1) := (h.2.2.1 i.toNat (by omega)).2.2.2.2.2.2.1
theorem cbLosses (h : clsB B T) {i : Int} (h0 : 0 ≤ i) (h1 : i < 6) : gIA B (9 + 9 * i.toNat) (T.toNat + 1) := (h.2.2.1 i.toNat (by omega)).2.2.2.2.2.2.2.1
theorem cbLeft (h : clsB B T) {i : Int} (h0 : 0 ≤ i) (h1 : i < 6) : gIA B (10 + 9 * i.toNat) (T.toNat + 1) := (h.2.2.1 i.toNat (by omega)).2.2.2.2.2.2.2.2
theorem cbCap (h : clsB B T) : gIA B 56 (T.toNat + 1) := h.2.2.2.1
theorem cbOvr (h : clsB B T) : gIA B 57 2 := h.2.2.2.2.1
theorem cbMach (h : clsB B T) : gOB B 58 RX3 TX3 2 (fun _ => [.ref (gad B 59), .ref (gad B 60)]) := h.2.2.2.2.2.1
theorem cbSetUps (h : clsB B T) : gIA B 59 (T.toNat + 1) := h.2.2.2.2.2.2.1
theorem cbStanding (h : clsB B T) : gIA B 60 (T.toNat + 1) := h.2.2.2.2.2.2.2.1
theorem cbFL (h : clsB B T) : gOB B 61 RX1 TX1 2 (fun f => [.int (iI (f 0)), .ref (gad B 62)]) := h.2.2.2.2.2.2.2.2.1
theorem cbCells (h : clsB B T) : gIA B 62 (T.toNat * 52) := h.2.2.2.2.2.2.2.2.2.1
theorem cbAlone (h : clsB B T) : gOB B 63 RX0 TX0 5 (fun _ => [.int (iI T), .ref (gad B 64), .ref (gad B 65), .ref (gad B 66), .ref (gad B 67)]) := h.2.2.2.2.2.2.2.2.2.2.1
theorem cbNets (h : clsB B T) : gIA B 64 (T.toNat + 1) := h.2.2.2.2.2.2.2.2.2.2.2.1
theorem cbCosts (h : clsB B T) : gLA B 65 (T.toNat + 2) := h.2.2.2.2.2.2.2.2.2.2.2.2.1
theorem cbUntils (h : clsB B T) : gIA B 66 (T.toNat + 1) := h.2.2.2.2.2.2.2.2.2.2.2.2.2.1
theorem cbAmounts (h : clsB B T) : gIA B 67 (T.toNat + 1) := h.2.2.2.2.2.2.2.2.2.2.2.2.2.2
end CB
/-- the class's cells hold S -/
def cRel (S : sS) (T : Int) (C : gSt) : Prop := C 0 2 = sCnt S ∧ (∀ i : Int, 0 ≤ i → i < 6 → C (3 + 9 * i.toNat) = S 0 i ∧ C (4 + 9 * i.toNat) = S 1 i ∧ C (5 + 9 * i.toNat) = S 2 i ∧ C (6 + 9 * i.toNat) = S 3 i) ∧ (∀ p : Int, 1 ≤ p → p ≤ T → C 56 p = sCap S p) ∧ C 57 = S 5 0 ∧ C 60 0 = -3 ∧ C 65 (T + 1) = 0
/-- cells that every question works out anew -/
def scr (q : Nat) : Prop := (2 ≤ q ∧ q < 56 ∧ 6 ≤ (q - 2) % 9) ∨ q = 59 ∨ q = 61 ∨ q = 62 ∨ q = 64 ∨ q = 66 ∨ q = 67
section CR
variable {S : sS} {T : Int} {C C' : gSt}
theorem cRel.cnt (h : cRel S T C) : C 0 2 = sCnt S := h.1
theorem cRel.num (h : cRel S T C) {i : Int} (w : Int) (h0 : 0 ≤ i) (h1 : i < 6) : C (3 + 9 * i.toNat) w = sNum S i w := congrFun (h.2.1 i h0 h1).1 w
theorem cRel.nee (h : cRel S T C) {i : Int} (w : Int) (h0 : 0 ≤ i) (h1 : i < 6) : C (4 + 9 * i.toNat) w = sNee S i w := congrFun (h.2.1 i h0 h1).2.1 w
theorem cRel.lot (h : cRel S T C) {i : Int} (w : Int) (h0 : 0 ≤ i) (h1 : i < 6) : C (5 + 9 * i.toNat) w = sLot S i w := congrFun (h.2.1 i h0 h1).2.2.1 w
theorem cRel.tim (h : cRel S T C) {i : Int} (w : Int) (h0 : 0 ≤ i) (h1 : i < 6) : C (6 + 9 * i.toNat) w = sTim S i w := congrFun (h.2.1 i h0 h1).2.2.2 w
theorem cRel.cap (h : cRel S T C) {p : Int} (h0 : 1 ≤ p) (h1 : p ≤ T) : C 56 p = sCap S p := h.2.2.1 p h0 h1
theorem cRel.ovr (h : cRel S T C) (w : Int) : C 57 w = sOvr S w := congrFun h.2.2.2.1 w
theorem cRel.st0 (h : cRel S T C) : C 60 0 = -3 := h.2.2.2.2.1
theorem cRel.co1 (h : cRel S T C) : C 65 (T + 1) = 0 := h.2.2.2.2.2
theorem cRel.of (h : cRel S T C) (h1 : ∀ q, ¬ scr q → q ≠ 60 → q ≠ 65 → C' q = C q) (h2 : C' 60 0 = C 60 0) (h3 : C' 65 (T + 1) = C 65 (T + 1)) : cRel S T C' := by
  unfold scr at h1
  refine ⟨by rw [h1 0 (by omega) (by omega) (by omega)]; exact h.1, fun i h0 h6 => ?_, fun p q1 q2 => by rw [h1 56 (by omega) (by omega) (by omega)]; exact h.2.2.1 p q1 q2, by rw [h1 57 (by omega) (by omega) (by omega)]; exact h.2.2.2.1, h2.trans h.st0, h3.trans h.co1⟩
  rw [h1 (3 + 9 * i.toNat) (by omega) (by omega) (by omega), h1 (4 + 9 * i.toNat) (by omega) (by omega) (by omega), h1 (5 + 9 * i.toNat) (by omega) (by omega) (by omega), h1 (6 + 9 * i.toNat) (by omega) (by omega) (by omega)]
  exact h.2.1 i h0 h6
theorem cRel.wri (h : cRel S T C) {q : Nat} {e v : Int} (hq : scr q ∨ (q = 60 ∧ e ≠ 0) ∨ (q = 65 ∧ e ≠ T + 1)) : cRel S T (wr C q e v) := by
  refine h.of (fun q' h1 h2 h3 => ?_) ?_ ?_
  · refine wr_k (fun w => ?_)
    subst w
    rcases hq with w | w | w
    · exact h1 w
    · exact h2 w.1
    · exact h3 w.1
  · by_cases w : q = 60
    · subst w
      rcases hq with w | w | w
      · unfold scr at w; omega
      · exact wr_j (Ne.symm w.2)
      · omega
    · rw [wr_k (Ne.symm w)]
  · by_cases w : q = 65
    · subst w
      rcases hq with w | w | w
      · unfold scr at w; omega
      · omega
      · exact wr_j (Ne.symm w.2)
    · rw [wr_k (Ne.symm w)]
end CR
section GG4
variable {K : gK} {B : gB} {C : gSt} {pc : Nat} {lv : gLv} {st : List Value}
theorem gg_ti {a b : Int} (hab : a = b) (h : GG K B C pc lv (.int (iI b) :: st)) : GG K B C pc lv (.int (iI a) :: st) := by rw [hab]; exact h
theorem gg_tl {a b : Int} (hab : a = b) (h : GG K B C pc lv (.long (iL b) :: st)) : GG K B C pc lv (.long (iL a) :: st) := by rw [hab]; exact h
end GG4
theorem gg_nm {K : gK} {B : gB} {C : gSt} {pc : Nat} {lv : gLv} {st : List Value} (h : ∀ C', C' = C → GG K B C' pc lv st) : GG K B C pc lv st := h C rfl
end
section
/-! ===== what the calls that change something answer and do ===== -/
def sUp (S : sS) (n : Nat) (i j v : Int) : sS := fun n' i' j' => if n' = n ∧ i' = i ∧ j' = j then v else S n' i' j'
def pItem (S : sS) (i : Int) : Prop := 0 ≤ i ∧ i < sCnt S
def pPer (T p : Int) : Prop := 1 ≤ p ∧ p ≤ T
def aUp (S : sS) (n : Nat) (i j v m : Int) : Int := if v < 0 ∨ m < v then -2 else S n i j
def uUp (S : sS) (n : Nat) (i j v m : Int) : sS := if v < 0 ∨ m < v then S else sUp S n i j v
def gAns (g : Int) (x : Int) : Int := if g = 0 then x else g
def gUpd (g : Int) (S S' : sS) : sS := if g = 0 then S' else S
/-- the first refusal of need and make -/
def rIP (S : sS) (T i p : Int) : Int := if (0 ≤ i ∧ i < sCnt S) ∧ 1 ≤ p ∧ p ≤ T then 0 else -1
def rSet (S : sS) (i w : Int) : Int := if 0 ≤ i ∧ i < sCnt S then (if 0 ≤ w ∧ w < 8 then 0 else -2) else -1
def rCap (T p : Int) : Int := if 1 ≤ p ∧ p ≤ T then 0 else -1
def rOvr (w : Int) : Int := if w = 0 ∨ w = 1 then 0 else -2
theorem rIP_0 {S : sS} {T i p : Int} (h : (0 ≤ i ∧ i < sCnt S) ∧ 1 ≤ p ∧ p ≤ T) : rIP S T i p = 0 := if_pos h
theorem rIP_1 {S : sS} {T i p : Int} (h : ¬ ((0 ≤ i ∧ i < sCnt S) ∧ 1 ≤ p ∧ p ≤ T)) : rIP S T i p = -1 := if_neg h
theorem rCap_0 {T p : Int} (h : 1 ≤ p ∧ p ≤ T) : rCap T p = 0 := if_pos h
theorem rCap_1 {T p : Int} (h : ¬ (1 ≤ p ∧ p ≤ T)) : rCap T p = -1 := if_neg h
theorem rOvr_0 {w : Int} (h : w = 0 ∨ w = 1) : rOvr w = 0 := if_pos h
theorem rOvr_2 {w : Int} (h : ¬ (w = 0 ∨ w = 1)) : rOvr w = -2 := if_neg h
theorem rSet_0 {S : sS} {i w : Int} (h : 0 ≤ i ∧ i < sCnt S) (h2 : 0 ≤ w ∧ w < 8) : rSet S i w = 0 := by unfold rSet; rw [if_pos h, if_pos h2]
theorem rSet_1 {S : sS} {i w : Int} (h : ¬ (0 ≤ i ∧ i < sCnt S)) : rSet S i w = -1 := if_neg h
theorem rSet_2 {S : sS} {i w : Int} (h : 0 ≤ i ∧ i < sCnt S) (h2 : ¬ (0 ≤ w ∧ w < 8)) : rSet S i w = -2 := by unfold rSet; rw [if_pos h, if_neg h2]
theorem gAns_0 {g x : Int} (h : g = 0) : gAns g x = x := if_pos h
theorem gAns_n {g x : Int} (h : g ≠ 0) : gAns g x = g := if_neg h
theorem gUpd_0 {g : Int} {S S' : sS} (h : g = 0) : gUpd g S S' = S' := if_pos h
theorem gUpd_n {g : Int} {S S' : sS} (h : g ≠ 0) : gUpd g S S' = S := if_neg h
theorem aUp_2 {S : sS} {n : Nat} {i j v m : Int} (h : v < 0 ∨ m < v) : aUp S n i j v m = -2 := if_pos h
theorem aUp_0 {S : sS} {n : Nat} {i j v m : Int} (h : ¬ (v < 0 ∨ m < v)) : aUp S n i j v m = S n i j := if_neg h
theorem uUp_2 {S : sS} {n : Nat} {i j v m : Int} (h : v < 0 ∨ m < v) : uUp S n i j v m = S := if_pos h
theorem uUp_0 {S : sS} {n : Nat} {i j v m : Int} (h : ¬ (v < 0 ∨ m < v)) : uUp S n i j v m = sUp S n i j v := if_neg h
/-- a write into an item's row n (0 numbers, 1 needs, 2 lots, 3 times), the class's cell 3 + n + 9 i -/
theorem cRel.up {S : sS} {T : Int} {C : gSt} (h : cRel S T C) {n : Nat} (hn : n < 4) {i j v : Int} (h0 : 0 ≤ i) (h6 : i < 6) : cRel (sUp S n i j v) T (wr C (3 + n + 9 * i.toNat) j v) := by
  have hk : ∀ q, q ≠ 3 + n + 9 * i.toNat → wr C (3 + n + 9 * i.toNat) j v q = C q := fun q hq => wr_k hq
  have hrow : ∀ (a : Int) (m : Nat), 0 ≤ a → a < 6 → m < 4 → C (3 + m + 9 * a.toNat) = S m a → wr C (3 + n + 9 * i.toNat) j v (3 + m + 9 * a.toNat) = sUp S n i j v m a := by
    intro a m ha0 ha6 hm he
    by_cases hq : m = n ∧ a = i
    · obtain ⟨rfl, rfl⟩ := hq
      funext w
      rw [wr_w]
      unfold sUp
      by_cases hw : w = j
      · rw [if_pos hw, if_pos ⟨rfl, rfl, hw⟩]
      · rw [if_neg hw, if_neg (fun z => hw z.2.2), he]
    · rw [hk _ (by omega), he]
      funext w
      unfold sUp
      rw [if_neg (fun z => hq ⟨z.1, z.2.1⟩)]
  have hsame : ∀ (m : Nat) (a w : Int), 4 ≤ m → sUp S n i j v m a w = S m a w := fun m a w hm => by
    unfold sUp
    rw [if_neg (fun z => by omega)]
  refine ⟨?_, fun a ha0 ha6 => ⟨hrow a 0 ha0 ha6 (by omega) (h.2.1 a ha0 ha6).1, hrow a 1 ha0 ha6 (by omega) (h.2.1 a ha0 ha6).2.1, hrow a 2 ha0 ha6 (by omega) (h.2.1 a ha0 ha6).2.2.1, hrow a 3 ha0 ha6 (by omega) (h.2.1 a ha0 ha6).2.2.2⟩, fun p q1 q2 => ?_, ?_, ?_, ?_⟩
  · rw [hk 0 (by omega), h.1]; exact (hsame 6 0 0 (by omega)).symm
  · rw [hk 56 (by omega), h.cap q1 q2]; exact (hsame 4 0 p (by omega)).symm
  · rw [hk 57 (by omega), h.2.2.2.1]; funext w; exact (hsame 5 0 w (by omega)).symm
  · rw [hk 60 (by omega)]; exact h.st0
  · rw [hk 65 (by omega)]; exact h.co1
theorem cRel.upCap {S : sS} {T : Int} {C : gSt} (h : cRel S T C) {p v : Int} : cRel (sUp S 4 0 p v) T (wr C 56 p v) := by
  have hk : ∀ q, q ≠ 56 → wr C 56 p v q = C q := fun q hq => wr_k hq
  have hs : ∀ m a, m ≠ 4 → sUp S 4 0 p v m a = S m a := fun m a hm => by funext w; unfold sUp; rw [if_neg (fun z => hm z.1)]
  refine ⟨?_, fun a ha0 ha6 => ?_, fun q q1 q2 => ?_, ?_, ?_, ?_⟩
  · rw [hk 0 (by omega), h.1]; exact (congrFun (hs 6 0 (by omega)) 0).symm
  · rw [hk _ (by omega), hk _ (by omega), hk _ (by omega), hk _ (by omega), hs 0 a (by omega), hs 1 a (by omega), hs 2 a (by omega), hs 3 a (by omega)]; exact h.2.1 a ha0 ha6
  · rw [wr_w]; unfold sCap sUp
    by_cases hw : q = p
    · rw [if_pos hw, if_pos ⟨rfl, rfl, hw⟩]
    · rw [if_neg hw, if_neg (fun z => hw z.2.2)]; exact h.cap q1 q2
  · rw [hk 57 (by omega), hs 5 0 (by omega)]; exact h.2.2.2.1
  · rw [hk 60 (by omega)]; exact h.st0
  · rw [hk 65 (by omega)]; exact h.co1
theorem cRel.upOvr {S : sS} {T : Int} {C : gSt} (h : cRel S T C) {p v : Int} : cRel (sUp S 5 0 p v) T (wr C 57 p v) := by
  have hk : ∀ q, q ≠ 57 → wr C 57 p v q = C q := fun q hq => wr_k hq
  have hs : ∀ m a, m ≠ 5 → sUp S 5 0 p v m a = S m a := fun m a hm => by funext w; unfold sUp; rw [if_neg (fun z => hm z.1)]
  refine ⟨?_, fun a ha0 ha6 => ?_, fun q q1 q2 => ?_, ?_, ?_, ?_⟩
  · rw [hk 0 (by omega), h.1]; exact (congrFun (hs 6 0 (by omega)) 0).symm
  · rw [hk _ (by omega), hk _ (by omega), hk _ (by omega), hk _ (by omega), hs 0 a (by omega), hs 1 a (by omega), hs 2 a (by omega), hs 3 a (by omega)]; exact h.2.1 a ha0 ha6
  · rw [hk 56 (by omega), h.cap q1 q2]; exact (congrFun (hs 4 0 (by omega)) q).symm
  · funext w; rw [wr_w]; unfold sUp
    by_cases hw : w = p
    · rw [if_pos hw, if_pos ⟨rfl, rfl, hw⟩]
    · rw [if_neg hw, if_neg (fun z => hw z.2.2)]; exact h.ovr w
  · rw [hk 60 (by omega)]; exact h.st0
  · rw [hk 65 (by omega)]; exact h.co1
theorem cRel.upCnt {S : sS} {T : Int} {C : gSt} (h : cRel S T C) {v : Int} : cRel (sUp S 6 0 0 v) T (wr C 0 2 v) := by
  have hk : ∀ q, q ≠ 0 → wr C 0 2 v q = C q := fun q hq => wr_k hq
  have hs : ∀ m a, m ≠ 6 → sUp S 6 0 0 v m a = S m a := fun m a hm => by funext w; unfold sUp; rw [if_neg (fun z => hm z.1)]
  refine ⟨?_, fun a ha0 ha6 => ?_, fun q q1 q2 => ?_, ?_, ?_, ?_⟩
  · rw [wr_s]; unfold sCnt sUp; rw [if_pos ⟨rfl, rfl, rfl⟩]
  · rw [hk _ (by omega), hk _ (by omega), hk _ (by omega), hk _ (by omega), hs 0 a (by omega), hs 1 a (by omega), hs 2 a (by omega), hs 3 a (by omega)]; exact h.2.1 a ha0 ha6
  · rw [hk 56 (by omega), h.cap q1 q2]; exact (congrFun (hs 4 0 (by omega)) q).symm
  · rw [hk 57 (by omega), hs 5 0 (by omega)]; exact h.2.2.2.1
  · rw [hk 60 (by omega)]; exact h.st0
  · rw [hk 65 (by omega)]; exact h.co1
/-- GROSS: the need, and the items' lots by the times that this one is a part of them -/
def sGrossN (S : sS) (i p : Int) : Nat → Int
  | 0 => sNee S i p
  | n + 1 => sGrossN S i p n + sTim S i (n : Int) * sLot S (n : Int) p
def sGross (S : sS) (i p : Int) : Int := sGrossN S i p (sCnt S).toNat
theorem sGrossN_b {S : sS} {T : Int} (h : sOk S T) (i p : Int) : ∀ n : Nat, 0 ≤ sGrossN S i p n ∧ sGrossN S i p n ≤ 1000 + 45000 * (n : Int)
  | 0 => by have := h.nee i p; unfold sGrossN; omega
  | n + 1 => by
    have ih := sGrossN_b h i p n
    have h1 := h.tim i n
    have h2 := h.lot n p
    have h3 : 0 ≤ sTim S i n * sLot S n p := Int.mul_nonneg h1.1 h2.1
    have h4 : sTim S i n * sLot S n p ≤ 9 * 5000 := Int.mul_le_mul h1.2 h2.2 h2.1 (by omega)
    unfold sGrossN
    omega
theorem sGross_b {S : sS} {T : Int} (h : sOk S T) (i p : Int) : 0 ≤ sGross S i p ∧ sGross S i p ≤ 271000 := by
  have h1 := sGrossN_b h i p (sCnt S).toNat
  have h2 := h.cnt
  unfold sGross
  omega
theorem sGrossN_s {S : sS} {i p j : Int} (hj : 0 ≤ j) : sGrossN S i p (j + 1).toNat = sGrossN S i p j.toNat + sTim S i j * sLot S j p := by
  rw [show (j + 1).toNat = j.toNat + 1 by omega]
  show sGrossN S i p j.toNat + sTim S i (j.toNat : Int) * sLot S (j.toNat : Int) p = _
  rw [Int.toNat_of_nonneg hj]
/-- what comes of an item in a period -/
def sCome (S : sS) (i p : Int) : Int := if 1 ≤ p - sNum S i 7 then sLot S i (p - sNum S i 7) else 0
theorem sCome_b {S : sS} {T : Int} (h : sOk S T) (i p : Int) : 0 ≤ sCome S i p ∧ sCome S i p ≤ 5000 := by
  unfold sCome
  split
  · exact h.lot _ _
  · omega
/-- taking w from the rows l 0 .. l (n-1), the first first: what is left in them, what is still wanted -/
def upI (l : Int → Int) (e v : Int) : Int → Int := fun j => if j = e then v else l j
def tkL (l : Int → Int) (w : Int) : Nat → (Int → Int) × Int
  | 0 => (l, w)
  | n + 1 => (upI (tkL l w n).1 n ((tkL l w n).1 n - min ((tkL l w n).1 n) (tkL l w n).2), (tkL l w n).2 - min ((tkL l w n).1 n) (tkL l w n).2)
theorem upI_s {l : Int → Int} {e v : Int} : upI l e v e = v := if_pos rfl
theorem upI_n {l : Int → Int} {e v j : Int} (h : j ≠ e) : upI l e v j = l j := if_neg h
/-- places from n on are untouched -/
theorem tkL_hi {l : Int → Int} {w : Int} : ∀ (n : Nat) (j : Int), (n : Int) ≤ j → (tkL l w n).1 j = l j
  | 0, _, _ => rfl
  | n + 1, j, h => by
    show upI _ _ _ j = _
    rw [upI_n (by omega)]
    exact tkL_hi n j (by omega)
/-- only the places below n count -/
theorem tkL_congr {l l' : Int → Int} {w : Int} : ∀ (n : Nat), (∀ j : Int, 0 ≤ j → j < n → l j = l' j) → (tkL l w n).2 = (tkL l' w n).2 ∧ ∀ j : Int, 0 ≤ j → j < n → (tkL l w n).1 j = (tkL l' w n).1 j
  | 0, _ => ⟨rfl, fun j h1 h2 => by omega⟩
  | n + 1, h => by
    obtain ⟨i1, i2⟩ := tkL_congr (w := w) n (fun j h1 h2 => h j h1 (by omega))
    have e : (tkL l w n).1 n = (tkL l' w n).1 n := by
      rw [tkL_hi n n (Int.le_refl _), tkL_hi n n (Int.le_refl _)]
      exact h n (by omega) (by omega)
    refine ⟨?_, fun j h1 h2 => ?_⟩
    · show (tkL l w n).2 - min ((tkL l w n).1 n) (tkL l w n).2 = (tkL l' w n).2 - min ((tkL l' w n).1 n) (tkL l' w n).2
      rw [e, i1]
    · show upI (tkL l w n).1 n ((tkL l w n).1 n - min ((tkL l w n).1 n) (tkL l w n).2) j = upI (tkL l' w n).1 n ((tkL l' w n).1 n - min ((tkL l' w n).1 n) (tkL l' w n).2) j
      by_cases hj : j = n
      · rw [hj, upI_s, upI_s, e, i1]
      · rw [upI_n hj, upI_n hj]
        exact i2 j h1 (by omega)
/-- the sum of places 0 .. n-1 -/
def smL (l : Int → Int) : Nat → Int
  | 0 => 0
  | n + 1 => smL l n + l n
theorem smL_congr {l l' : Int → Int} : ∀ (n : Nat), (∀ j : Int, 0 ≤ j → j < n → l j = l' j) → smL l n = smL l' n
  | 0, _ => rfl
  | n + 1, h => by
    show smL l n + l n = smL l' n + l' n
    rw [smL_congr n (fun j h1 h2 => h j h1 (by omega)), h n (by omega) (by omega)]
theorem smL_up {l : Int → Int} {e v : Int} : ∀ (n : Nat), 0 ≤ e → smL (upI l e v) n = smL l n + (if e < n then v - l e else 0)
  | 0, h0 => by rw [if_neg (by omega)]; rfl
  | n + 1, h0 => by
    show smL (upI l e v) n + upI l e v n = smL l n + l n + _
    rw [smL_up n h0]
    by_cases he : e = n
    · rw [he, upI_s, if_neg (by omega), if_pos (by omega)]; omega
    · rw [upI_n (Ne.symm he)]
      by_cases h1 : e < n
      · rw [if_pos h1, if_pos (by omega)]; omega
      · rw [if_neg h1, if_neg (by omega)]; omega
/-- what taking does: bounds, sums, and where something still lacks nothing is left -/
theorem tkL_b {l : Int → Int} {w : Int} (hl : ∀ j : Int, 0 ≤ j → 0 ≤ l j) (hw : 0 ≤ w) : ∀ (n : Nat), (∀ j : Int, 0 ≤ j → 0 ≤ (tkL l w n).1 j ∧ (tkL l w n).1 j ≤ l j) ∧ 0 ≤ (tkL l w n).2 ∧ (tkL l w n).2 ≤ w ∧ smL (tkL l w n).1 n + (w - (tkL l w n).2) = smL l n ∧ (0 < (tkL l w n).2 → ∀ j : Int, 0 ≤ j → j < n → (tkL l w n).1 j = 0)
  | 0 => ⟨fun j h => ⟨hl j h, Int.le_refl _⟩, hw, Int.le_refl _, by show (0 : Int) + (w - w) = 0; omega, fun _ j h1 h2 => by omega⟩
  | n + 1 => by
    obtain ⟨i1, i2, i3, i4, i5⟩ := tkL_b hl hw n
    have hn := i1 n (by omega)
    have hhi : (tkL l w n).1 n = l n := tkL_hi n n (Int.le_refl _)
    generalize ha : (tkL l w n).1 = a at i1 i4 i5 hn hhi
    generalize hb : (tkL l w n).2 = b at i2 i3 i4 i5
    have e1 : (tkL l w (n + 1)).1 = upI a n (a n - min (a n) b) := by show upI _ _ _ = _; rw [ha, hb]
    have e2 : (tkL l w (n + 1)).2 = b - min (a n) b := by show _ - _ = _; rw [ha, hb]
    rw [e1, e2]
    refine ⟨fun j h => ?_, by omega, by omega, ?_, fun h j h1 h2 => ?_⟩
    · by_cases hj : j = n
      · rw [hj, upI_s]; omega
      · rw [upI_n hj]; exact i1 j h
    · show smL (upI a n (a n - min (a n) b)) n + upI a n (a n - min (a n) b) n + _ = smL l n + l n
      rw [smL_up n (by omega), if_neg (by omega), upI_s]
      omega
    · by_cases hj : j = n
      · rw [hj, upI_s]; omega
      · rw [upI_n hj]; exact i5 (by omega) j h1 (by omega)
/-- RUNNING: what is left of each lot and what is owed behind period n, what is spoilt in it -/
def sWant (S : sS) (i : Int) (n : Nat) (o : Int) : Int := o + sGross S i ((n : Int) + 1)
def sRun (S : sS) (i : Int) : Nat → (Int → Int) × Int
  | 0 => (fun j => if j = 0 then sNum S i 4 else 0, 0)
  | n + 1 =>
    let t := tkL (upI (sRun S i n).1 ((n : Int) + 1) (sCome S i ((n : Int) + 1))) (sWant S i n (sRun S i n).2) (n + 2)
    (if 0 < sNum S i 3 ∧ sNum S i 3 ≤ (n : Int) + 1 then upI t.1 ((n : Int) + 1 - sNum S i 3) 0 else t.1, t.2)
def sTk (S : sS) (i : Int) (n : Nat) : (Int → Int) × Int := tkL (upI (sRun S i n).1 ((n : Int) + 1) (sCome S i ((n : Int) + 1))) (sWant S i n (sRun S i n).2) (n + 2)
def sGone (S : sS) (i : Int) (n : Nat) : Int := if 0 < sNum S i 3 ∧ sNum S i 3 ≤ (n : Int) + 1 then (sTk S i n).1 ((n : Int) + 1 - sNum S i 3) else 0
theorem sRun_s {S : sS} {i : Int} {n : Nat} : sRun S i (n + 1) = (if 0 < sNum S i 3 ∧ sNum S i 3 ≤ (n : Int) + 1 then upI (sTk S i n).1 ((n : Int) + 1 - sNum S i 3) 0 else (sTk S i n).1, (sTk S i n).2) := rfl
/-- STOCK behind period n -/
def sStk (S : sS) (i : Int) (n : Nat) : Int := smL (sRun S i n).1 (n + 1) - (sRun S i n).2
theorem sRun_b {S : sS} {T : Int} (h : sOk S T) (i : Int) : ∀ n : Nat, (∀ j : Int, 0 ≤ j → 0 ≤ (sRun S i n).1 j ∧ (sRun S i n).1 j ≤ 5000) ∧ 0 ≤ (sRun S i n).2 ∧ (sRun S i n).2 ≤ 271000 * (n : Int) ∧ (0 < (sRun S i n).2 → ∀ j : Int, 0 ≤ j → j < (n : Int) + 1 → (sRun S i n).1 j = 0)
  | 0 => by
    have h4 := h.n4 i
    refine ⟨fun j hj => ?_, by show (0 : Int) ≤ 0; omega, by show (0 : Int) ≤ _; omega, fun hc => absurd hc (by show ¬ (0 : Int) < 0; omega)⟩
    show 0 ≤ (if j = 0 then sNum S i 4 else 0) ∧ (if j = 0 then sNum S i 4 else 0) ≤ 5000
    split <;> omega
  | n + 1 => by
    obtain ⟨i1, i2, i3, i4⟩ := sRun_b h i n
    have hg := sGross_b h i ((n : Int) + 1)
    have hc := sCome_b h i ((n : Int) + 1)
    have hl : ∀ j : Int, 0 ≤ j → 0 ≤ upI (sRun S i n).1 ((n : Int) + 1) (sCome S i ((n : Int) + 1)) j := fun j hj => by
      by_cases hj2 : j = (n : Int) + 1
      · rw [hj2, upI_s]; omega
      · rw [upI_n hj2]; exact (i1 j hj).1
    have hl5 : ∀ j : Int, 0 ≤ j → upI (sRun S i n).1 ((n : Int) + 1) (sCome S i ((n : Int) + 1)) j ≤ 5000 := fun j hj => by
      by_cases hj2 : j = (n : Int) + 1
      · rw [hj2, upI_s]; omega
      · rw [upI_n hj2]; exact (i1 j hj).2
    obtain ⟨t1, t2, t3, t4, t5⟩ := tkL_b hl (w := sWant S i n (sRun S i n).2) (by unfold sWant; omega) (n + 2)
    have hw : sWant S i n (sRun S i n).2 ≤ 271000 * ((n : Int) + 1) := by unfold sWant; omega
    rw [sRun_s]
    refine ⟨fun j hj => ?_, t2, by show (sTk S i n).2 ≤ _; have : (sTk S i n).2 ≤ sWant S i n (sRun S i n).2 := t3; push_cast; omega, fun hc j h0 h1 => ?_⟩
    · have q1 := t1 j hj
      have q2 := hl5 j hj
      show 0 ≤ (if _ then _ else _ : Int → Int) j ∧ (if _ then _ else _ : Int → Int) j ≤ 5000
      split
      · by_cases hj2 : j = (n : Int) + 1 - sNum S i 3
        · rw [hj2, upI_s]; omega
        · rw [upI_n hj2]; exact ⟨q1.1, Int.le_trans q1.2 q2⟩
      · exact ⟨q1.1, Int.le_trans q1.2 q2⟩
    · have z := t5 hc j h0 (by push_cast at h1 ⊢; omega)
      show (if _ then _ else _ : Int → Int) j = 0
      split
      · by_cases hj2 : j = (n : Int) + 1 - sNum S i 3
        · rw [hj2, upI_s]
        · rw [upI_n hj2]; exact z
      · exact z
theorem smL_nn {l : Int → Int} : ∀ (n : Nat), (∀ j : Int, 0 ≤ j → j < n → 0 ≤ l j) → 0 ≤ smL l n
  | 0, _ => Int.le_refl _
  | n + 1, h => by
    have h1 := smL_nn n (fun j h1 h2 => h j h1 (by omega))
    have h2 := h n (by omega) (by omega)
    show 0 ≤ smL l n + l n
    omega
theorem smL_le {l : Int → Int} {m : Int} : ∀ (n : Nat), (∀ j : Int, 0 ≤ j → j < n → l j ≤ m) → smL l n ≤ m * (n : Int)
  | 0, _ => by show (0 : Int) ≤ _; simp
  | n + 1, h => by
    have h1 := smL_le n (fun j h1 h2 => h j h1 (by omega))
    have h2 := h n (by omega) (by omega)
    show smL l n + l n ≤ m * ((n + 1 : Nat) : Int)
    have e : m * ((n + 1 : Nat) : Int) = m * (n : Int) + m := by push_cast; rw [Int.mul_add, Int.mul_one]
    omega
theorem smL_0 {l : Int → Int} : ∀ (n : Nat), (∀ j : Int, 0 ≤ j → j < n → l j = 0) → smL l n = 0
  | 0, _ => rfl
  | n + 1, h => by
    have h1 := smL_0 n (fun j h1 h2 => h j h1 (by omega))
    have h2 := h n (by omega) (by omega)
    show smL l n + l n = 0
    omega
theorem sTk_b {S : sS} {T : Int} (h : sOk S T) (i : Int) (n : Nat) : (∀ j : Int, 0 ≤ j → 0 ≤ (sTk S i n).1 j ∧ (sTk S i n).1 j ≤ 5000) ∧ 0 ≤ (sTk S i n).2 ∧ (sTk S i n).2 ≤ sWant S i n (sRun S i n).2 ∧ smL (sTk S i n).1 (n + 2) + (sWant S i n (sRun S i n).2 - (sTk S i n).2) = smL (sRun S i n).1 (n + 1) + sCome S i ((n : Int) + 1) := by
  obtain ⟨i1, i2, i3, i4⟩ := sRun_b h i n
  have hg := sGross_b h i ((n : Int) + 1)
  have hc := sCome_b h i ((n : Int) + 1)
  have hl : ∀ j : Int, 0 ≤ j → 0 ≤ upI (sRun S i n).1 ((n : Int) + 1) (sCome S i ((n : Int) + 1)) j := fun j hj => by
    by_cases hj2 : j = (n : Int) + 1
    · rw [hj2, upI_s]; omega
    · rw [upI_n hj2]; exact (i1 j hj).1
  obtain ⟨t1, t2, t3, t4, t5⟩ := tkL_b hl (w := sWant S i n (sRun S i n).2) (by unfold sWant; omega) (n + 2)
  refine ⟨fun j hj => ⟨(t1 j hj).1, Int.le_trans (t1 j hj).2 ?_⟩, t2, t3, t4.trans ?_⟩
  · by_cases hj2 : j = (n : Int) + 1
    · rw [hj2, upI_s]; omega
    · rw [upI_n hj2]; exact (i1 j hj).2
  · show smL (upI (sRun S i n).1 ((n : Int) + 1) (sCome S i ((n : Int) + 1))) (n + 1) + upI (sRun S i n).1 ((n : Int) + 1) (sCome S i ((n : Int) + 1)) ((n + 1 : Nat) : Int) = _
    rw [smL_up (n + 1) (by omega), if_neg (by push_cast; omega), show ((n + 1 : Nat) : Int) = (n : Int) + 1 by push_cast; rfl, upI_s]
    omega
theorem sStk_s {S : sS} {T : Int} (h : sOk S T) (i : Int) (n : Nat) : sStk S i (n + 1) = sStk S i n + sCome S i ((n : Int) + 1) - sGross S i ((n : Int) + 1) - sGone S i n := by
  obtain ⟨t1, t2, t3, t4⟩ := sTk_b h i n
  have h3 := h.n3 i
  unfold sStk
  rw [sRun_s]
  show smL (if _ then _ else _) (n + 2) - (sTk S i n).2 = _
  unfold sWant at t4
  unfold sGone
  split
  · rw [smL_up _ (by omega), if_pos (by push_cast; omega)]
    omega
  · omega
theorem sOwed {S : sS} {T : Int} (h : sOk S T) (i : Int) (n : Nat) : max 0 (-(sStk S i n)) = (sRun S i n).2 := by
  obtain ⟨i1, i2, i3, i4⟩ := sRun_b h i n
  have hs := smL_nn (l := (sRun S i n).1) (n + 1) (fun j h0 _ => (i1 j h0).1)
  unfold sStk
  by_cases ho : 0 < (sRun S i n).2
  · have hz := smL_0 (l := (sRun S i n).1) (n + 1) (fun j h0 h1 => i4 ho j h0 (by push_cast at h1; omega))
    omega
  · omega
theorem sStk_b {S : sS} {T : Int} (h : sOk S T) (i : Int) (n : Nat) (hn : n ≤ 12) : -3252000 ≤ sStk S i n ∧ sStk S i n ≤ 65000 := by
  obtain ⟨i1, i2, i3, i4⟩ := sRun_b h i n
  have hs := smL_nn (l := (sRun S i n).1) (n + 1) (fun j h0 _ => (i1 j h0).1)
  have hs2 := smL_le (l := (sRun S i n).1) (m := 5000) (n + 1) (fun j h0 _ => (i1 j h0).2)
  unfold sStk
  push_cast at hs2
  omega
theorem sGone_b {S : sS} {T : Int} (h : sOk S T) (i : Int) (n : Nat) : 0 ≤ sGone S i n ∧ sGone S i n ≤ 5000 := by
  obtain ⟨t1, -⟩ := sTk_b h i n
  unfold sGone
  split
  · exact t1 _ (by omega)
  · omega
theorem sStk_0 {S : sS} {i : Int} : sStk S i 0 = sNum S i 4 := by
  simp [sStk, sRun, smL]
theorem tkL_c {l : Int → Int} {w : Int} {n : Nat} (hl : ∀ j : Int, 0 ≤ j → j < n → 0 ≤ l j) (hw : 0 ≤ w) : (∀ j : Int, 0 ≤ j → j < n → 0 ≤ (tkL l w n).1 j ∧ (tkL l w n).1 j ≤ l j) ∧ 0 ≤ (tkL l w n).2 ∧ (tkL l w n).2 ≤ w := by
  have e : ∀ j : Int, 0 ≤ j → j < n → l j = (fun j : Int => if 0 ≤ j ∧ j < n then l j else 0) j := fun j h0 h1 => (if_pos ⟨h0, h1⟩).symm
  obtain ⟨c1, c2⟩ := tkL_congr (w := w) n e
  obtain ⟨t1, t2, t3, -⟩ := tkL_b (l := fun j : Int => if 0 ≤ j ∧ j < n then l j else 0) (fun j h0 => by
    show 0 ≤ (if 0 ≤ j ∧ j < n then l j else 0)
    split
    · rename_i h; exact hl j h.1 h.2
    · exact Int.le_refl _) hw n
  rw [c1]
  refine ⟨fun j h0 h1 => ?_, t2, t3⟩
  rw [c2 j h0 h1]
  have := t1 j h0
  rw [if_pos ⟨h0, h1⟩] at this
  exact this
theorem tkL_s {l : Int → Int} {w j : Int} (h : 0 ≤ j) : tkL l w (j + 1).toNat = (upI (tkL l w j.toNat).1 j ((tkL l w j.toNat).1 j - min ((tkL l w j.toNat).1 j) (tkL l w j.toNat).2), (tkL l w j.toNat).2 - min ((tkL l w j.toNat).1 j) (tkL l w j.toNat).2) := by
  rw [show (j + 1).toNat = j.toNat + 1 by omega]
  show (upI _ (j.toNat : Int) _, _) = _
  rw [Int.toNat_of_nonneg h]
theorem wr_up {C : gSt} {q : Nat} {e v : Int} : wr C q e v q = upI (C q) e v := by funext j; rw [wr_w]; rfl
/-- the second half of a period in the store: what is spoilt, what is left -/
def pGone (t : Int → Int) (p sh : Int) : Int := if 0 < sh ∧ sh ≤ p then t (p - sh) else 0
def pLeft (t : Int → Int) (p sh : Int) : Int → Int := if 0 < sh ∧ sh ≤ p then upI t (p - sh) 0 else t
theorem run_step {S : sS} {T : Int} (hO : sOk S T) {i p : Int} (hp : 1 ≤ p) {l : Int → Int} {o : Int} (hl : ∀ j : Int, 0 ≤ j → j ≤ p - 1 → l j = (sRun S i (p - 1).toNat).1 j) (ho : o = (sRun S i (p - 1).toNat).2) :
    pGone (tkL (upI l p (sCome S i p)) (sGross S i p + o) (p + 1).toNat).1 p (sNum S i 3) = sGone S i (p - 1).toNat ∧ ∀ j : Int, 0 ≤ j → j ≤ p → pLeft (tkL (upI l p (sCome S i p)) (sGross S i p + o) (p + 1).toNat).1 p (sNum S i 3) j = (sRun S i p.toNat).1 j := by
  obtain ⟨n, hn⟩ : ∃ n : Nat, n = (p - 1).toNat := ⟨_, rfl⟩
  have hpn : p = (n : Int) + 1 := by omega
  rw [← hn] at hl ho
  have h3 := hO.n3 i
  have e1 : (p + 1).toNat = n + 2 := by omega
  have e2 : p.toNat = n + 1 := by omega
  have hw : sGross S i p + o = sWant S i n (sRun S i n).2 := by unfold sWant; rw [ho, hpn]; omega
  have hc := tkL_congr (l := upI l p (sCome S i p)) (l' := upI (sRun S i n).1 ((n : Int) + 1) (sCome S i ((n : Int) + 1))) (w := sWant S i n (sRun S i n).2) (n + 2) (fun j h0 h1 => by
    rw [hpn]
    by_cases hj : j = (n : Int) + 1
    · rw [hj, upI_s, upI_s]
    · rw [upI_n hj, upI_n hj]; exact hl j h0 (by push_cast at h1; omega))
  have ht : ∀ j : Int, 0 ≤ j → j ≤ p → (tkL (upI l p (sCome S i p)) (sWant S i n (sRun S i n).2) (n + 2)).1 j = (sTk S i n).1 j := fun j h0 h1 => hc.2 j h0 (by push_cast; omega)
  rw [e1, e2, hw, ← hn, sRun_s]
  refine ⟨?_, fun j h0 h1 => ?_⟩
  · unfold pGone sGone
    rw [hpn]
    split
    · rw [← hpn]; exact ht _ (by omega) (by omega)
    · rfl
  · show pLeft _ _ _ j = (if _ then _ else _ : Int → Int) j
    unfold pLeft
    rw [hpn]
    split
    · by_cases hj : j = (n : Int) + 1 - sNum S i 3
      · rw [hj, upI_s, upI_s]
      · rw [upI_n hj, upI_n hj, ← hpn]; exact ht j h0 h1
    · rw [← hpn]; exact ht j h0 h1
/-- item i's store has been run through period n -/
def cRun (S : sS) (i : Int) (C : gSt) (n : Int) : Prop := (∀ j : Int, 0 ≤ j → j ≤ n → C (8 + 9 * i.toNat) j = sStk S i j.toNat) ∧ ∀ j : Int, 1 ≤ j → j ≤ n → C (9 + 9 * i.toNat) j = sGone S i (j - 1).toNat
end
section
theorem fX5_isItem_33 : Cond.fieldLink RX5 33 "LotRules" (TX5 2).2.1 (TX5 2).2.2.1 ∈ wsX5_isItem := by decide +kernel
theorem fX5_isPeriod_20 : Cond.fieldLink RX5 20 "LotRules" (TX5 0).2.1 (TX5 0).2.2.1 ∈ wsX5_isPeriod := by decide +kernel
theorem fX5_item_33 : Cond.fieldLink RX5 33 "LotRules" (TX5 2).2.1 (TX5 2).2.2.1 ∈ wsX5_item := by decide +kernel
theorem inX5_isItem_X5 : ∀ w ∈ u_ws RX5 TX5 8, w ∈ wsX5_isItem := by decide +kernel
theorem inX5_isPeriod_X5 : ∀ w ∈ u_ws RX5 TX5 8, w ∈ wsX5_isPeriod := by decide +kernel
theorem inX5_item_X5 : ∀ w ∈ u_ws RX5 TX5 8, w ∈ wsX5_item := by decide +kernel
end
section
abbrev rX5_isItem : Room := { frames := 0, cells := 0, slots := 0, locals := 0 }
set_option maxRecDepth 100000 in
set_option maxHeartbeats 4000000 in
theorem kX5_isItem {l : Launch} {B : gB} {T : Int} {S : sS} {C : gSt} (hB : clsB B T) (hO : sOk S T) (hR : cRel S T C) (i : Int) (hi : rI i) : gMi l B yX5_isItem wsX5_isItem rX5_isItem [.ref (gad B (0)), .int (iI (i))] C (fun z C' => ((z = 1 ∧ 0 ≤ i ∧ i < sCnt S) ∨ (z = 0 ∧ ¬ (0 ≤ i ∧ i < sCnt S))) ∧ C' = C) := by
  refine gMz_of (cc := cX5_isItem) (nL := 2) (by decide) rfl (Nat.le_of_ble_eq_true rfl) (fun z C' h => by omega) (fun K k hret => ?_)
  have k : gOk K B l rX5_isItem 2 cX5_isItem RX5 wsX5_isItem := k
  show GG K B C 0 [(0, .ref (gad B (0))), (1, .int (iI (i)))] []
  have hT := hO.t
  have hc := hO.cnt
  obtain ⟨hi1, hi2⟩ := hi
  refine gg_iload_n k dX5_isItem_0 rfl ?_
  refine gg_if_lt k 16 dX5_isItem_1 (by decide) ⟨by omega, by omega⟩ (fun c1 => ?_) (fun c1 => ?_)
  · refine gg_iconst k dX5_isItem_16 ?_
    exact hret _ _ _ _ dX5_isItem_17 (⟨by omega, by omega⟩) (⟨by omega, rfl⟩)
  · refine gg_iload_n k dX5_isItem_4 rfl ?_
    refine gg_aload_n k dX5_isItem_5 rfl ?_
    refine gg_get k (cb0 hB) inX5_isItem_X5 2 (by decide) fX5_isItem_33 rfl rfl dX5_isItem_6 ?_
    refine gg_ti hR.cnt ?_
    refine gg_icmp_ge k 16 dX5_isItem_9 (by decide) ⟨by omega, by omega⟩ ⟨by omega, by omega⟩ (fun c9 => ?_) (fun c9 => ?_)
    · refine gg_iconst k dX5_isItem_16 ?_
      exact hret _ _ _ _ dX5_isItem_17 (⟨by omega, by omega⟩) (⟨by omega, rfl⟩)
    · refine gg_iconst k dX5_isItem_12 ?_
      refine gg_goto (tgt := 17) k dX5_isItem_13 (by decide) ?_
      exact hret _ _ _ _ dX5_isItem_17 (⟨by omega, by omega⟩) (⟨by omega, rfl⟩)

abbrev rX5_isPeriod : Room := { frames := 0, cells := 0, slots := 0, locals := 0 }
set_option maxRecDepth 100000 in
set_option maxHeartbeats 4000000 in
theorem kX5_isPeriod {l : Launch} {B : gB} {T : Int} {S : sS} {C : gSt} (hB : clsB B T) (hO : sOk S T) (hR : cRel S T C) (p : Int) (hp : rI p) : gMi l B yX5_isPeriod wsX5_isPeriod rX5_isPeriod [.ref (gad B (0)), .int (iI (p))] C (fun z C' => ((z = 1 ∧ 1 ≤ p ∧ p ≤ T) ∨ (z = 0 ∧ ¬ (1 ≤ p ∧ p ≤ T))) ∧ C' = C) := by
  refine gMz_of (cc := cX5_isPeriod) (nL := 2) (by decide) rfl (Nat.le_of_ble_eq_true rfl) (fun z C' h => by omega) (fun K k hret => ?_)
  have k : gOk K B l rX5_isPeriod 2 cX5_isPeriod RX5 wsX5_isPeriod := k
  show GG K B C 0 [(0, .ref (gad B (0))), (1, .int (iI (p)))] []
  have hT := hO.t
  have hc := hO.cnt
  obtain ⟨hp1, hp2⟩ := hp
  refine gg_iload_n k dX5_isPeriod_0 rfl ?_
  refine gg_iconst k dX5_isPeriod_1 ?_
  refine gg_icmp_lt k 17 dX5_isPeriod_2 (by decide) ⟨by omega, by omega⟩ ⟨by omega, by omega⟩ (fun c2 => ?_) (fun c2 => ?_)
  · refine gg_iconst k dX5_isPeriod_17 ?_
    exact hret _ _ _ _ dX5_isPeriod_18 (⟨by omega, by omega⟩) (⟨by omega, rfl⟩)
  · refine gg_iload_n k dX5_isPeriod_5 rfl ?_
    refine gg_aload_n k dX5_isPeriod_6 rfl ?_
    refine gg_get k (cb0 hB) inX5_isPeriod_X5 0 (by decide) fX5_isPeriod_20 rfl rfl dX5_isPeriod_7 ?_
    refine gg_icmp_gt k 17 dX5_isPeriod_10 (by decide) ⟨by omega, by omega⟩ ⟨by omega, by omega⟩ (fun c10 => ?_) (fun c10 => ?_)
    · refine gg_iconst k dX5_isPeriod_17 ?_
      exact hret _ _ _ _ dX5_isPeriod_18 (⟨by omega, by omega⟩) (⟨by omega, rfl⟩)
    · refine gg_iconst k dX5_isPeriod_13 ?_
      refine gg_goto (tgt := 18) k dX5_isPeriod_14 (by decide) ?_
      exact hret _ _ _ _ dX5_isPeriod_18 (⟨by omega, by omega⟩) (⟨by omega, rfl⟩)

abbrev rX5_isPeriodOrBeginning : Room := { frames := 1, cells := 0, slots := 0, locals := 21 }
set_option maxRecDepth 100000 in
set_option maxHeartbeats 4000000 in
theorem kX5_isPeriodOrBeginning {l : Launch} {B : gB} {T : Int} {S : sS} {C : gSt} (hB : clsB B T) (hO : sOk S T) (hR : cRel S T C) (p : Int) (hp : rI p) : gMi l B yX5_isPeriodOrBeginning wsX5_isPeriodOrBeginning rX5_isPeriodOrBeginning [.ref (gad B (0)), .int (iI (p))] C (fun z C' => ((z = 1 ∧ 0 ≤ p ∧ p ≤ T) ∨ (z = 0 ∧ ¬ (0 ≤ p ∧ p ≤ T))) ∧ C' = C) := by
  refine gMz_of (cc := cX5_isPeriodOrBeginning) (nL := 2) (by decide) rfl (Nat.le_of_ble_eq_true rfl) (fun z C' h => by omega) (fun K k hret => ?_)
  have k : gOk K B l rX5_isPeriodOrBeginning 2 cX5_isPeriodOrBeginning RX5 wsX5_isPeriodOrBeginning := k
  show GG K B C 0 [(0, .ref (gad B (0))), (1, .int (iI (p)))] []
  have hT := hO.t
  have hc := hO.cnt
  obtain ⟨hp1, hp2⟩ := hp
  refine gg_iload_n k dX5_isPeriodOrBeginning_0 rfl ?_
  refine gg_if_eq k 12 dX5_isPeriodOrBeginning_1 (by decide) ⟨by omega, by omega⟩ (fun c1 => ?_) (fun c1 => ?_)
  · refine gg_iconst k dX5_isPeriodOrBeginning_12 ?_
    refine gg_goto (tgt := 17) k dX5_isPeriodOrBeginning_13 (by decide) ?_
    exact hret _ _ _ _ dX5_isPeriodOrBeginning_17 (⟨by omega, by omega⟩) (⟨by omega, rfl⟩)
  · refine gg_aload_n k dX5_isPeriodOrBeginning_4 rfl ?_
    refine gg_iload_n k dX5_isPeriodOrBeginning_5 rfl ?_
    refine gg_calli (n := 1) (As := [.int (iI (p))]) (rest := []) k (kX5_isPeriod hB hO hR (p) ⟨by omega, by omega⟩) ⟨_, _, _, gX5_isPeriodOrBeginning_X5_isPeriod, rfl, rfl, rfl, by decide +kernel, by decide, by decide⟩ (cb0 hB) rfl rfl (Nat.le_of_ble_eq_true rfl) dX5_isPeriodOrBeginning_6 (fun z6 C6 r6 q6 => ?_)
    obtain ⟨q6, e6⟩ := q6
    rw [e6]
    clear e6
    obtain ⟨r6, s6⟩ := r6
    refine gg_if_eq k 16 dX5_isPeriodOrBeginning_9 (by decide) ⟨by omega, by omega⟩ (fun c9 => ?_) (fun c9 => ?_)
    · refine gg_iconst k dX5_isPeriodOrBeginning_16 ?_
      exact hret _ _ _ _ dX5_isPeriodOrBeginning_17 (⟨by omega, by omega⟩) (⟨by omega, rfl⟩)
    · refine gg_iconst k dX5_isPeriodOrBeginning_12 ?_
      refine gg_goto (tgt := 17) k dX5_isPeriodOrBeginning_13 (by decide) ?_
      exact hret _ _ _ _ dX5_isPeriodOrBeginning_17 (⟨by omega, by omega⟩) (⟨by omega, rfl⟩)

abbrev rX5_isPrice : Room := { frames := 0, cells := 0, slots := 0, locals := 0 }
set_option maxRecDepth 100000 in
set_option maxHeartbeats 4000000 in
theorem kX5_isPrice {l : Launch} {B : gB} {C : gSt} (w : Int) (hw : rI w) : gMi l B yX5_isPrice wsX5_isPrice rX5_isPrice [.int (iI (w))] C (fun z C' => ((z = 1 ∧ 0 ≤ w ∧ w ≤ 3) ∨ (z = 0 ∧ ¬ (0 ≤ w ∧ w ≤ 3))) ∧ C' = C) := by
  refine gMz_of (cc := cX5_isPrice) (nL := 1) (by decide) rfl (Nat.le_of_ble_eq_true rfl) (fun z C' h => by omega) (fun K k hret => ?_)
  have k : gOk K B l rX5_isPrice 1 cX5_isPrice RX5 wsX5_isPrice := k
  show GG K B C 0 [(0, .int (iI (w)))] []
  obtain ⟨hw1, hw2⟩ := hw
  refine gg_iload_n k dX5_isPrice_0 rfl ?_
  refine gg_if_lt k 13 dX5_isPrice_1 (by decide) ⟨by omega, by omega⟩ (fun c1 => ?_) (fun c1 => ?_)
  · refine gg_iconst k dX5_isPrice_13 ?_
    exact hret _ _ _ _ dX5_isPrice_14 (⟨by omega, by omega⟩) (⟨by omega, rfl⟩)
  · refine gg_iload_n k dX5_isPrice_4 rfl ?_
    refine gg_iconst k dX5_isPrice_5 ?_
    refine gg_icmp_gt k 13 dX5_isPrice_6 (by decide) ⟨by omega, by omega⟩ ⟨by omega, by omega⟩ (fun c6 => ?_) (fun c6 => ?_)
    · refine gg_iconst k dX5_isPrice_13 ?_
      exact hret _ _ _ _ dX5_isPrice_14 (⟨by omega, by omega⟩) (⟨by omega, rfl⟩)
    · refine gg_iconst k dX5_isPrice_9 ?_
      refine gg_goto (tgt := 14) k dX5_isPrice_10 (by decide) ?_
      exact hret _ _ _ _ dX5_isPrice_14 (⟨by omega, by omega⟩) (⟨by omega, rfl⟩)

abbrev rX5_replace : Room := { frames := 0, cells := 0, slots := 0, locals := 0 }
set_option maxRecDepth 100000 in
set_option maxHeartbeats 4000000 in
theorem kX5_replace {l : Launch} {B : gB} {C : gSt} (q n : Nat) (hq : gIA B q n) (a v mo : Int) (h0 : 0 ≤ a) (h1 : a < (n : Int)) (hv : rI v) (hm : rI mo) (hC : rI (C q a)) : gMi l B yX5_replace wsX5_replace rX5_replace [.ref (gad B (q)), .int (iI (a)), .int (iI (v)), .int (iI (mo))] C (fun z C' => ((v < 0 ∨ mo < v) ∧ z = -2 ∧ C' = C) ∨ (¬ (v < 0 ∨ mo < v) ∧ z = C q a ∧ C' = wr C q a v)) := by
  refine gMi_of (ty := .int) rfl (cc := cX5_replace) (nL := 5) (by decide) rfl (Nat.le_of_ble_eq_true rfl) (fun K k hret => ?_)
  have k : gOk K B l rX5_replace 5 cX5_replace RX5 wsX5_replace := k
  show GG K B C 0 [(0, .ref (gad B (q))), (1, .int (iI (a))), (2, .int (iI (v))), (3, .int (iI (mo)))] []
  obtain ⟨hv1, hv2⟩ := hv
  obtain ⟨hm1, hm2⟩ := hm
  obtain ⟨hC1, hC2⟩ := hC
  have hn := hq.2.1
  refine gg_iload_n k dX5_replace_0 rfl ?_
  refine gg_if_lt k 9 dX5_replace_1 (by decide) ⟨by omega, by omega⟩ (fun c1 => ?_) (fun c1 => ?_)
  · refine gg_bipush k dX5_replace_9 (by decide +kernel) ?_
    exact hret _ _ _ _ dX5_replace_11 (⟨by omega, by omega⟩) (Or.inl ⟨by omega, rfl, rfl⟩)
  · refine gg_iload_n k dX5_replace_4 rfl ?_
    refine gg_iload_n k dX5_replace_5 rfl ?_
    refine gg_icmp_le k 12 dX5_replace_6 (by decide) ⟨by omega, by omega⟩ ⟨by omega, by omega⟩ (fun c6 => ?_) (fun c6 => ?_)
    · refine gg_aload_n k dX5_replace_12 rfl ?_
      refine gg_iload_n k dX5_replace_13 rfl ?_
      refine gg_iald k hq (by omega) (by omega) dX5_replace_14 ?_
      refine gg_istore k [(4, .int (iI (C (q) (a)))), (0, .ref (gad B (q))), (1, .int (iI (a))), (2, .int (iI (v))), (3, .int (iI (mo)))] dX5_replace_15 (by decide) rfl ?_
      refine gg_aload_n k dX5_replace_17 rfl ?_
      refine gg_iload_n k dX5_replace_18 rfl ?_
      refine gg_iload_n k dX5_replace_19 rfl ?_
      refine gg_iast k hq (by omega) (by omega) dX5_replace_20 ?_
      refine gg_nm (fun C20 e20 => ?_)
      refine gg_iload k dX5_replace_21 rfl ?_
      exact hret _ _ _ _ dX5_replace_23 (⟨by omega, by omega⟩) (Or.inr ⟨by omega, rfl, e20⟩)
    · refine gg_bipush k dX5_replace_9 (by decide +kernel) ?_
      exact hret _ _ _ _ dX5_replace_11 (⟨by omega, by omega⟩) (Or.inl ⟨by omega, rfl, rfl⟩)

abbrev rX5_item : Room := { frames := 0, cells := 0, slots := 0, locals := 0 }
set_option maxRecDepth 100000 in
set_option maxHeartbeats 4000000 in
theorem kX5_item {l : Launch} {B : gB} {T : Int} {S : sS} {C : gSt} (hB : clsB B T) (hO : sOk S T) (hR : cRel S T C)  : gMi l B yX5_item wsX5_item rX5_item [.ref (gad B (0))] C (fun z C' => (6 ≤ sCnt S ∧ z = -4 ∧ cRel S T C') ∨ (sCnt S < 6 ∧ z = sCnt S ∧ cRel (sUp S 6 0 0 (sCnt S + 1)) T C')) := by
  refine gMi_of (ty := .int) rfl (cc := cX5_item) (nL := 1) (by decide) rfl (Nat.le_of_ble_eq_true rfl) (fun K k hret => ?_)
  have k : gOk K B l rX5_item 1 cX5_item RX5 wsX5_item := k
  show GG K B C 0 [(0, .ref (gad B (0)))] []
  have hT := hO.t
  have hc := hO.cnt
  
  refine gg_aload_n k dX5_item_0 rfl ?_
  refine gg_get k (cb0 hB) inX5_item_X5 2 (by decide) fX5_item_33 rfl rfl dX5_item_1 ?_
  refine gg_ti hR.cnt ?_
  refine gg_bipush k dX5_item_4 (by decide +kernel) ?_
  refine gg_icmp_lt k 12 dX5_item_6 (by decide) ⟨by omega, by omega⟩ ⟨by omega, by omega⟩ (fun c6 => ?_) (fun c6 => ?_)
  · refine gg_aload_n k dX5_item_12 rfl ?_
    refine gg_dup k dX5_item_13 rfl ?_
    refine gg_get k (cb0 hB) inX5_item_X5 2 (by decide) fX5_item_33 rfl rfl dX5_item_14 ?_
    refine gg_ti hR.cnt ?_
    refine gg_iconst k dX5_item_17 ?_
    refine gg_iadd k dX5_item_18 ?_
    refine gg_put (e := 2) k (cb0 hB) inX5_item_X5 tyX5 tyX5_ok nmX5 2 (by decide) fX5_item_33 rfl rfl rfl (Nat.le_of_ble_eq_true rfl) rfl dX5_item_19 ?_
    refine gg_nm (fun C19 e19 => ?_)
    refine gg_aload_n k dX5_item_22 rfl ?_
    refine gg_get k (cb0 hB) inX5_item_X5 2 (by decide) fX5_item_33 rfl rfl dX5_item_23 ?_
    refine gg_ti (show C19 0 2 = sCnt S + 1 by rw [e19, wr_s]) ?_
    refine gg_iconst k dX5_item_26 ?_
    refine gg_isub k dX5_item_27 ?_
    exact hret _ _ _ _ dX5_item_28 (⟨by omega, by omega⟩) (Or.inr ⟨by omega, by omega, by rw [e19]; exact hR.upCnt⟩)
  · refine gg_bipush k dX5_item_9 (by decide +kernel) ?_
    exact hret _ _ _ _ dX5_item_11 (⟨by omega, by omega⟩) (Or.inl ⟨by omega, rfl, hR⟩)
end
section
theorem fX4_begin_7 : Cond.fieldLink RX4 7 "LotRules$Store" (TX4 0).2.1 (TX4 0).2.2.1 ∈ wsX4_begin := by decide +kernel
theorem fX4_begin_16 : Cond.fieldLink RX4 16 "LotRules$Store" (TX4 2).2.1 (TX4 2).2.2.1 ∈ wsX4_begin := by decide +kernel
theorem fX4_owedAt_7 : Cond.fieldLink RX4 7 "LotRules$Store" (TX4 0).2.1 (TX4 0).2.2.1 ∈ wsX4_owedAt := by decide +kernel
theorem fX4_pass_7 : Cond.fieldLink RX4 7 "LotRules$Store" (TX4 0).2.1 (TX4 0).2.2.1 ∈ wsX4_pass := by decide +kernel
theorem fX4_pass_13 : Cond.fieldLink RX4 13 "LotRules$Store" (TX4 1).2.1 (TX4 1).2.2.1 ∈ wsX4_pass := by decide +kernel
theorem fX4_pass_16 : Cond.fieldLink RX4 16 "LotRules$Store" (TX4 2).2.1 (TX4 2).2.2.1 ∈ wsX4_pass := by decide +kernel
theorem fX4_spoil_16 : Cond.fieldLink RX4 16 "LotRules$Store" (TX4 2).2.1 (TX4 2).2.2.1 ∈ wsX4_spoil := by decide +kernel
theorem fX4_take_16 : Cond.fieldLink RX4 16 "LotRules$Store" (TX4 2).2.1 (TX4 2).2.2.1 ∈ wsX4_take := by decide +kernel
theorem inX4_begin_X4 : ∀ w ∈ u_ws RX4 TX4 3, w ∈ wsX4_begin := by decide +kernel
theorem inX4_owedAt_X4 : ∀ w ∈ u_ws RX4 TX4 3, w ∈ wsX4_owedAt := by decide +kernel
theorem inX4_pass_X4 : ∀ w ∈ u_ws RX4 TX4 3, w ∈ wsX4_pass := by decide +kernel
theorem inX4_spoil_X4 : ∀ w ∈ u_ws RX4 TX4 3, w ∈ wsX4_spoil := by decide +kernel
theorem inX4_take_X4 : ∀ w ∈ u_ws RX4 TX4 3, w ∈ wsX4_take := by decide +kernel
theorem mX4_owedAt_30 : Cond.methodLink RX4 30 Lib.Math.max.name ∈ wsX4_owedAt ∧ Cond.static Lib.Math.max.name ∈ wsX4_owedAt ∧ Cond.initialized "java/lang/Math" ∈ wsX4_owedAt ∧ Cond.code Lib.Math.max.name Lib.Math.max.code 2 (some .int) ∈ wsX4_owedAt := by decide +kernel
theorem mX4_take_36 : Cond.methodLink RX4 36 Lib.Math.min.name ∈ wsX4_take ∧ Cond.static Lib.Math.min.name ∈ wsX4_take ∧ Cond.initialized "java/lang/Math" ∈ wsX4_take ∧ Cond.code Lib.Math.min.name Lib.Math.min.code 2 (some .int) ∈ wsX4_take := by decide +kernel
end
section
abbrev rX4_begin : Room := { frames := 0, cells := 0, slots := 0, locals := 0 }
set_option maxRecDepth 100000 in
set_option maxHeartbeats 4000000 in
theorem kX4_begin {l : Launch} {B : gB} {T : Int} {C : gSt} (hB : clsB B T) (hT : 1 ≤ T ∧ T ≤ 12) {i : Int} (hi0 : 0 ≤ i) (hi6 : i < 6) (v : Int) : gMv l B yX4_begin wsX4_begin rX4_begin [.ref (gad B (7 + 9 * (i).toNat)), .int (iI (v))] C (fun C' => C' = wr (wr C (8 + 9 * i.toNat) 0 v) (10 + 9 * i.toNat) 0 v) := by
  refine gMv_of (cc := cX4_begin) (nL := 2) (by decide) rfl (Nat.le_of_ble_eq_true rfl) (fun K k hret => ?_)
  have k : gOk K B l rX4_begin 2 cX4_begin RX4 wsX4_begin := k
  show GG K B C 0 [(0, .ref (gad B (7 + 9 * (i).toNat))), (1, .int (iI (v)))] []
  refine gg_aload_n k dX4_begin_0 rfl ?_
  refine gg_get k (cbStore hB (by omega) (by omega)) inX4_begin_X4 0 (by decide) fX4_begin_7 rfl rfl dX4_begin_1 ?_
  refine gg_iconst k dX4_begin_4 ?_
  refine gg_iload_n k dX4_begin_5 rfl ?_
  refine gg_iast k (cbStocks hB (by omega) (by omega)) (by omega) (by omega) dX4_begin_6 ?_
  refine gg_nm (fun C6 e6 => ?_)
  refine gg_aload_n k dX4_begin_7 rfl ?_
  refine gg_get k (cbStore hB (by omega) (by omega)) inX4_begin_X4 2 (by decide) fX4_begin_16 rfl rfl dX4_begin_8 ?_
  refine gg_iconst k dX4_begin_11 ?_
  refine gg_iload_n k dX4_begin_12 rfl ?_
  refine gg_iast k (cbLeft hB (by omega) (by omega)) (by omega) (by omega) dX4_begin_13 ?_
  refine gg_nm (fun C13 e13 => ?_)
  exact hret _ _ _ dX4_begin_14 (by subst_vars; rfl)

abbrev rX4_owedAt : Room := { frames := 1, cells := 0, slots := 0, locals := 24 }
set_option maxRecDepth 100000 in
set_option maxHeartbeats 4000000 in
theorem kX4_owedAt {l : Launch} {B : gB} {T : Int} {C : gSt} (hB : clsB B T) (hT : 1 ≤ T ∧ T ≤ 12) {i : Int} (hi0 : 0 ≤ i) (hi6 : i < 6) (p : Int) (hp0 : 0 ≤ p) (hp1 : p ≤ T) (hC : -100000000 ≤ C (8 + 9 * i.toNat) p ∧ C (8 + 9 * i.toNat) p ≤ 100000000) : gMi l B yX4_owedAt wsX4_owedAt rX4_owedAt [.ref (gad B (7 + 9 * (i).toNat)), .int (iI (p))] C (fun z C' => z = max 0 (-(C (8 + 9 * i.toNat) p)) ∧ C' = C) := by
  refine gMi_of (ty := .int) rfl (cc := cX4_owedAt) (nL := 2) (by decide) rfl (Nat.le_of_ble_eq_true rfl) (fun K k hret => ?_)
  have k : gOk K B l rX4_owedAt 2 cX4_owedAt RX4 wsX4_owedAt := k
  show GG K B C 0 [(0, .ref (gad B (7 + 9 * (i).toNat))), (1, .int (iI (p)))] []
  refine gg_iconst k dX4_owedAt_0 ?_
  refine gg_aload_n k dX4_owedAt_1 rfl ?_
  refine gg_get k (cbStore hB (by omega) (by omega)) inX4_owedAt_X4 0 (by decide) fX4_owedAt_7 rfl rfl dX4_owedAt_2 ?_
  refine gg_iload_n k dX4_owedAt_5 rfl ?_
  refine gg_iald k (cbStocks hB (by omega) (by omega)) (by omega) (by omega) dX4_owedAt_6 ?_
  refine gg_ineg k dX4_owedAt_7 ?_
  refine gg_max k ⟨by omega, by omega⟩ ⟨by omega, by omega⟩ dX4_owedAt_8 mX4_owedAt_30.1 mX4_owedAt_30.2.1 mX4_owedAt_30.2.2.1 mX4_owedAt_30.2.2.2 (Nat.le_of_ble_eq_true rfl) (Nat.le_of_ble_eq_true rfl) ?_
  exact hret _ _ _ _ dX4_owedAt_11 (⟨by omega, by omega⟩) (⟨rfl, rfl⟩)

abbrev rX4_spoil : Room := { frames := 0, cells := 0, slots := 0, locals := 0 }
set_option maxRecDepth 100000 in
set_option maxHeartbeats 4000000 in
theorem kX4_spoil {l : Launch} {B : gB} {T : Int} {C : gSt} (hB : clsB B T) (hT : 1 ≤ T ∧ T ≤ 12) {i : Int} (hi0 : 0 ≤ i) (hi6 : i < 6) (c : Int) (hc0 : 0 ≤ c) (hc1 : c ≤ T) (hC : -100000000 ≤ C (10 + 9 * i.toNat) c ∧ C (10 + 9 * i.toNat) c ≤ 100000000) : gMi l B yX4_spoil wsX4_spoil rX4_spoil [.ref (gad B (7 + 9 * (i).toNat)), .int (iI (c))] C (fun z C' => z = C (10 + 9 * i.toNat) c ∧ C' = wr C (10 + 9 * i.toNat) c 0) := by
  refine gMi_of (ty := .int) rfl (cc := cX4_spoil) (nL := 3) (by decide) rfl (Nat.le_of_ble_eq_true rfl) (fun K k hret => ?_)
  have k : gOk K B l rX4_spoil 3 cX4_spoil RX4 wsX4_spoil := k
  show GG K B C 0 [(0, .ref (gad B (7 + 9 * (i).toNat))), (1, .int (iI (c)))] []
  refine gg_aload_n k dX4_spoil_0 rfl ?_
  refine gg_get k (cbStore hB (by omega) (by omega)) inX4_spoil_X4 2 (by decide) fX4_spoil_16 rfl rfl dX4_spoil_1 ?_
  refine gg_iload_n k dX4_spoil_4 rfl ?_
  refine gg_iald k (cbLeft hB (by omega) (by omega)) (by omega) (by omega) dX4_spoil_5 ?_
  refine gg_istore_n k [(2, .int (iI (C (10 + 9 * (i).toNat) (c)))), (0, .ref (gad B (7 + 9 * (i).toNat))), (1, .int (iI (c)))] dX4_spoil_6 (by decide) rfl ?_
  refine gg_aload_n k dX4_spoil_7 rfl ?_
  refine gg_get k (cbStore hB (by omega) (by omega)) inX4_spoil_X4 2 (by decide) fX4_spoil_16 rfl rfl dX4_spoil_8 ?_
  refine gg_iload_n k dX4_spoil_11 rfl ?_
  refine gg_iconst k dX4_spoil_12 ?_
  refine gg_iast k (cbLeft hB (by omega) (by omega)) (by omega) (by omega) dX4_spoil_13 ?_
  refine gg_nm (fun C13 e13 => ?_)
  refine gg_iload_n k dX4_spoil_14 rfl ?_
  exact hret _ _ _ _ dX4_spoil_15 (⟨by omega, by omega⟩) (⟨rfl, e13⟩)

abbrev rX4_take : Room := { frames := 1, cells := 0, slots := 0, locals := 24 }
set_option maxRecDepth 100000 in
set_option maxHeartbeats 4000000 in
theorem kX4_take {l : Launch} {B : gB} {T : Int} {C : gSt} (hB : clsB B T) (hT : 1 ≤ T ∧ T ≤ 12) {i : Int} (hi0 : 0 ≤ i) (hi6 : i < 6) (u a : Int) (hu0 : 0 ≤ u) (hu1 : u ≤ T) (ha0 : 0 ≤ a) (ha1 : a ≤ 100000000) (hl : ∀ x : Int, 0 ≤ x → x ≤ u → 0 ≤ C (10 + 9 * i.toNat) x ∧ C (10 + 9 * i.toNat) x ≤ 100000000) : gMv l B yX4_take wsX4_take rX4_take [.ref (gad B (7 + 9 * (i).toNat)), .int (iI (u)), .int (iI (a))] C (fun C' => C' (10 + 9 * i.toNat) = (tkL (C (10 + 9 * i.toNat)) a (u + 1).toNat).1 ∧ ∀ q : Nat, q ≠ 10 + 9 * i.toNat → C' q = C q) := by
  refine gMv_of (cc := cX4_take) (nL := 6) (by decide) rfl (Nat.le_of_ble_eq_true rfl) (fun K k hret => ?_)
  have k : gOk K B l rX4_take 6 cX4_take RX4 wsX4_take := k
  show GG K B C 0 [(0, .ref (gad B (7 + 9 * (i).toNat))), (1, .int (iI (u))), (2, .int (iI (a)))] []
  refine gg_iload_n k dX4_take_0 rfl ?_
  refine gg_istore_n k [(3, .int (iI (a))), (0, .ref (gad B (7 + 9 * (i).toNat))), (1, .int (iI (u))), (2, .int (iI (a)))] dX4_take_1 (by decide) rfl ?_
  refine gg_iconst k dX4_take_2 ?_
  refine gg_istore k [(4, .int (iI (0))), (3, .int (iI (a))), (0, .ref (gad B (7 + 9 * (i).toNat))), (1, .int (iI (u))), (2, .int (iI (a)))] dX4_take_3 (by decide) rfl ?_
  have L5 : ∀ (n5 : Nat) (j : Int) (w : Int) (C1 : gSt), 0 ≤ j → j ≤ u + 1 → w = (tkL (C (10 + 9 * i.toNat)) a j.toNat).2 → C1 (10 + 9 * i.toNat) = (tkL (C (10 + 9 * i.toNat)) a j.toNat).1 → (∀ q : Nat, q ≠ 10 + 9 * i.toNat → C1 q = C q) → u + 1 - j < (n5 : Int) → GG K B C1 5 [(0, .ref (gad B (7 + 9 * (i).toNat))), (1, .int (iI (u))), (3, .int (iI (w))), (4, .int (iI (j)))] [] := by
    intro n5
    induction n5 with
    | zero =>
      intro j w C1 hj0 hj1 hw hl1 hk1 hn5
      exact absurd hn5 (by omega)
    | succ n5 ih5 =>
      intro j w C1 hj0 hj1 hw hl1 hk1 hn5
      have tb := tkL_c (l := C (10 + 9 * i.toNat)) (w := a) (n := j.toNat) (fun x h0 h1 => (hl x h0 (by omega)).1) ha0
      refine gg_iload k dX4_take_5 rfl ?_
      refine gg_iload_n k dX4_take_7 rfl ?_
      refine gg_icmp_gt k 47 dX4_take_8 (by decide) ⟨by omega, by omega⟩ ⟨by omega, by omega⟩ (fun c8 => ?_) (fun c8 => ?_)
      · exact hret _ _ _ dX4_take_47 (⟨by rw [hl1, show j = u + 1 by omega], hk1⟩)
      · refine gg_aload_n k dX4_take_11 rfl ?_
        refine gg_get k (cbStore hB (by omega) (by omega)) inX4_take_X4 2 (by decide) fX4_take_16 rfl rfl dX4_take_12 ?_
        refine gg_iload k dX4_take_15 rfl ?_
        refine gg_iald k (cbLeft hB (by omega) (by omega)) (by omega) (by omega) dX4_take_17 ?_
        have hx17 : C1 (10 + 9 * i.toNat) j = (tkL (C (10 + 9 * i.toNat)) a j.toNat).1 j := congrFun hl1 j
        have hx : (tkL (C (10 + 9 * i.toNat)) a j.toNat).1 j = C (10 + 9 * i.toNat) j := tkL_hi _ _ (by omega)
        have hxb := hl j hj0
        refine gg_iload_n k dX4_take_18 rfl ?_
        refine gg_min k ⟨by omega, by omega⟩ ⟨by omega, by omega⟩ dX4_take_19 mX4_take_36.1 mX4_take_36.2.1 mX4_take_36.2.2.1 mX4_take_36.2.2.2 (Nat.le_of_ble_eq_true rfl) (Nat.le_of_ble_eq_true rfl) ?_
        refine gg_istore k [(5, .int (iI (min (C1 (10 + 9 * (i).toNat) (j)) w))), (0, .ref (gad B (7 + 9 * (i).toNat))), (1, .int (iI (u))), (3, .int (iI (w))), (4, .int (iI (j)))] dX4_take_22 (by decide) rfl ?_
        refine gg_aload_n k dX4_take_24 rfl ?_
        refine gg_get k (cbStore hB (by omega) (by omega)) inX4_take_X4 2 (by decide) fX4_take_16 rfl rfl dX4_take_25 ?_
        refine gg_iload k dX4_take_28 rfl ?_
        refine gg_dup2 k dX4_take_30 rfl rfl ?_
        refine gg_iald k (cbLeft hB (by omega) (by omega)) (by omega) (by omega) dX4_take_31 ?_
        refine gg_iload k dX4_take_32 rfl ?_
        refine gg_isub k dX4_take_34 ?_
        refine gg_iast k (cbLeft hB (by omega) (by omega)) (by omega) (by omega) dX4_take_35 ?_
        refine gg_nm (fun C35 e35 => ?_)
        refine gg_iload_n k dX4_take_36 rfl ?_
        refine gg_iload k dX4_take_37 rfl ?_
        refine gg_isub k dX4_take_39 ?_
        refine gg_istore_n k [(3, .int (iI (w - (min (C1 (10 + 9 * (i).toNat) (j)) w)))), (5, .int (iI (min (C1 (10 + 9 * (i).toNat) (j)) w))), (0, .ref (gad B (7 + 9 * (i).toNat))), (1, .int (iI (u))), (4, .int (iI (j)))] dX4_take_40 (by decide) rfl ?_
        refine gg_iinc k 4 [(4, .int (iI (j + 1))), (3, .int (iI (w - (min (C1 (10 + 9 * (i).toNat) (j)) w)))), (5, .int (iI (min (C1 (10 + 9 * (i).toNat) (j)) w))), (0, .ref (gad B (7 + 9 * (i).toNat))), (1, .int (iI (u)))] dX4_take_41 rfl (by decide) rfl ?_
        refine gg_goto (tgt := 5) k dX4_take_44 (by decide) ?_
        refine gg_sub [3, 4, 1, 0] rfl ?_
        exact ih5 (j + 1) (w - (min (C1 (10 + 9 * (i).toNat) (j)) w)) (C35) (by omega) (by omega) (by rw [tkL_s hj0]; show _ = _ - _; rw [← hw, ← hl1]) (by rw [e35, wr_up, tkL_s hj0]; show upI _ _ _ = upI _ _ _; rw [← hw, ← hl1]) (fun q hq => by rw [e35, wr_k hq]; exact hk1 q hq) (by omega)
  refine gg_sub [2, 3, 1, 0] rfl ?_
  exact L5 ((u + 1 - 0).toNat + 1) (0) (a) (C) (by omega) (by omega) (rfl) (rfl) (fun _ _ => rfl) (by omega)

abbrev rX4_pass : Room := { frames := 2, cells := 0, slots := 0, locals := 49 }
set_option maxRecDepth 100000 in
set_option maxHeartbeats 4000000 in
theorem kX4_pass {l : Launch} {B : gB} {T : Int} {C : gSt} (hB : clsB B T) (hT : 1 ≤ T ∧ T ≤ 12) {i : Int} (hi0 : 0 ≤ i) (hi6 : i < 6) (p ca wa sh : Int) (hp0 : 1 ≤ p) (hp1 : p ≤ T) (hca : 0 ≤ ca ∧ ca ≤ 5000) (hwa : 0 ≤ wa ∧ wa ≤ 271000) (hsh : 0 ≤ sh ∧ sh ≤ 12) (hst : -3252000 ≤ C (8 + 9 * i.toNat) (p - 1) ∧ C (8 + 9 * i.toNat) (p - 1) ≤ 65000) (hl : ∀ x : Int, 0 ≤ x → x ≤ p - 1 → 0 ≤ C (10 + 9 * i.toNat) x ∧ C (10 + 9 * i.toNat) x ≤ 5000) : gMv l B yX4_pass wsX4_pass rX4_pass [.ref (gad B (7 + 9 * (i).toNat)), .int (iI (p)), .int (iI (ca)), .int (iI (wa)), .int (iI (sh))] C (fun C' => C' (10 + 9 * i.toNat) = pLeft (tkL (upI (C (10 + 9 * i.toNat)) p ca) (wa + max 0 (-(C (8 + 9 * i.toNat) (p - 1)))) (p + 1).toNat).1 p sh ∧ C' (9 + 9 * i.toNat) = upI (C (9 + 9 * i.toNat)) p (pGone (tkL (upI (C (10 + 9 * i.toNat)) p ca) (wa + max 0 (-(C (8 + 9 * i.toNat) (p - 1)))) (p + 1).toNat).1 p sh) ∧ C' (8 + 9 * i.toNat) = upI (C (8 + 9 * i.toNat)) p (C (8 + 9 * i.toNat) (p - 1) + ca - wa - pGone (tkL (upI (C (10 + 9 * i.toNat)) p ca) (wa + max 0 (-(C (8 + 9 * i.toNat) (p - 1)))) (p + 1).toNat).1 p sh) ∧ ∀ q : Nat, q ≠ 10 + 9 * i.toNat → q ≠ 9 + 9 * i.toNat → q ≠ 8 + 9 * i.toNat → C' q = C q) := by
  refine gMv_of (cc := cX4_pass) (nL := 5) (by decide) rfl (Nat.le_of_ble_eq_true rfl) (fun K k hret => ?_)
  have k : gOk K B l rX4_pass 5 cX4_pass RX4 wsX4_pass := k
  show GG K B C 0 [(0, .ref (gad B (7 + 9 * (i).toNat))), (1, .int (iI (p))), (2, .int (iI (ca))), (3, .int (iI (wa))), (4, .int (iI (sh)))] []
  refine gg_aload_n k dX4_pass_0 rfl ?_
  refine gg_get k (cbStore hB (by omega) (by omega)) inX4_pass_X4 2 (by decide) fX4_pass_16 rfl rfl dX4_pass_1 ?_
  refine gg_iload_n k dX4_pass_4 rfl ?_
  refine gg_iload_n k dX4_pass_5 rfl ?_
  refine gg_iast k (cbLeft hB (by omega) (by omega)) (by omega) (by omega) dX4_pass_6 ?_
  refine gg_nm (fun C6 e6 => ?_)
  have h6s : C6 (8 + 9 * i.toNat) = C (8 + 9 * i.toNat) := by rw [e6, wr_k (by omega)]
  have h6l : C6 (10 + 9 * i.toNat) = upI (C (10 + 9 * i.toNat)) p ca := by rw [e6, wr_up]
  have hl6b : ∀ x : Int, 0 ≤ x → x ≤ p → 0 ≤ C6 (10 + 9 * i.toNat) x ∧ C6 (10 + 9 * i.toNat) x ≤ 5000 := fun x h0 h1 => by
    rw [h6l]
    by_cases hx : x = p
    · rw [hx, upI_s]; exact hca
    · rw [upI_n hx]; exact hl x h0 (by omega)
  have hl6 : ∀ x : Int, 0 ≤ x → x ≤ p → 0 ≤ C6 (10 + 9 * i.toNat) x ∧ C6 (10 + 9 * i.toNat) x ≤ 100000000 := fun x h0 h1 => ⟨(hl6b x h0 h1).1, by have := (hl6b x h0 h1).2; omega⟩
  refine gg_aload_n k dX4_pass_7 rfl ?_
  refine gg_iload_n k dX4_pass_8 rfl ?_
  refine gg_iload_n k dX4_pass_9 rfl ?_
  refine gg_aload_n k dX4_pass_10 rfl ?_
  refine gg_iload_n k dX4_pass_11 rfl ?_
  refine gg_iconst k dX4_pass_12 ?_
  refine gg_isub k dX4_pass_13 ?_
  refine gg_calli (n := 1) (As := [.int (iI (p - 1))]) (rest := [.int (iI (wa)), .int (iI (p)), .ref (gad B (7 + 9 * (i).toNat))]) k (kX4_owedAt hB hT hi0 hi6 (p - 1) (by omega) (by omega) (by rw [h6s]; omega)) ⟨_, _, _, gX4_pass_X4_owedAt, rfl, rfl, rfl, by decide +kernel, by decide, by decide⟩ (cbStore hB (by omega) (by omega)) rfl rfl (Nat.le_of_ble_eq_true rfl) dX4_pass_14 (fun z14 C14 r14 q14 => ?_)
  obtain ⟨q14, e14⟩ := q14
  rw [e14]
  clear e14
  rw [h6s] at q14
  refine gg_iadd k dX4_pass_17 ?_
  refine gg_callv (n := 2) (As := [.int (iI (p)), .int (iI (wa + z14))]) (rest := []) k (kX4_take hB hT hi0 hi6 p (wa + z14) (by omega) (by omega) (by omega) (by omega) hl6) ⟨_, _, _, gX4_pass_X4_take, rfl, rfl, rfl, by decide +kernel, by decide, by decide⟩ (cbStore hB (by omega) (by omega)) rfl rfl (Nat.le_of_ble_eq_true rfl) dX4_pass_18 (fun C18 q18 => ?_)
  obtain ⟨q18a, q18b⟩ := q18
  have hT6 : C18 (10 + 9 * i.toNat) = (tkL (upI (C (10 + 9 * i.toNat)) p ca) (wa + max 0 (-(C (8 + 9 * i.toNat) (p - 1)))) (p + 1).toNat).1 := by rw [q18a, h6l, q14]
  have tb := tkL_c (l := upI (C (10 + 9 * i.toNat)) p ca) (w := wa + max 0 (-(C (8 + 9 * i.toNat) (p - 1)))) (n := (p + 1).toNat) (fun x h0 h1 => by rw [← h6l]; exact (hl6 x h0 (by omega)).1) (by omega)
  have tb2 : ∀ x : Int, 0 ≤ x → x ≤ p → 0 ≤ C18 (10 + 9 * i.toNat) x ∧ C18 (10 + 9 * i.toNat) x ≤ 5000 := fun x h0 h1 => by rw [hT6]; exact ⟨(tb.1 x h0 (by omega)).1, Int.le_trans (tb.1 x h0 (by omega)).2 (by rw [← h6l]; exact (hl6b x h0 h1).2)⟩
  refine gg_aload_n k dX4_pass_21 rfl ?_
  refine gg_get k (cbStore hB (by omega) (by omega)) inX4_pass_X4 1 (by decide) fX4_pass_13 rfl rfl dX4_pass_22 ?_
  refine gg_iload_n k dX4_pass_25 rfl ?_
  have J49 : ∀ (x : Int) (C3 : gSt), x = pGone (tkL (upI (C (10 + 9 * i.toNat)) p ca) (wa + max 0 (-(C (8 + 9 * i.toNat) (p - 1)))) (p + 1).toNat).1 p sh → C3 (10 + 9 * i.toNat) = pLeft (tkL (upI (C (10 + 9 * i.toNat)) p ca) (wa + max 0 (-(C (8 + 9 * i.toNat) (p - 1)))) (p + 1).toNat).1 p sh → (∀ q : Nat, q ≠ 10 + 9 * i.toNat → C3 q = C18 q) → -10000 ≤ x → x ≤ 10000 → GG K B C3 49 [(0, .ref (gad B (7 + 9 * (i).toNat))), (1, .int (iI (p))), (2, .int (iI (ca))), (3, .int (iI (wa))), (4, .int (iI (sh)))] [.int (iI x), .int (iI p), .ref (gad B (9 + 9 * (i).toNat))] := by
    intro x C3 hx hx1 hx2 hx3 hx4
    refine gg_iast k (cbLosses hB (by omega) (by omega)) (by omega) (by omega) dX4_pass_49 ?_
    refine gg_nm (fun C4 e4 => ?_)
    have h4s : C4 (8 + 9 * i.toNat) = C (8 + 9 * i.toNat) := by rw [e4, wr_k (by omega), hx2 _ (by omega), q18b _ (by omega), h6s]
    refine gg_aload_n k dX4_pass_50 rfl ?_
    refine gg_get k (cbStore hB (by omega) (by omega)) inX4_pass_X4 0 (by decide) fX4_pass_7 rfl rfl dX4_pass_51 ?_
    refine gg_iload_n k dX4_pass_54 rfl ?_
    refine gg_aload_n k dX4_pass_55 rfl ?_
    refine gg_get k (cbStore hB (by omega) (by omega)) inX4_pass_X4 0 (by decide) fX4_pass_7 rfl rfl dX4_pass_56 ?_
    refine gg_iload_n k dX4_pass_59 rfl ?_
    refine gg_iconst k dX4_pass_60 ?_
    refine gg_isub k dX4_pass_61 ?_
    refine gg_iald k (cbStocks hB (by omega) (by omega)) (by omega) (by omega) dX4_pass_62 ?_
    refine gg_ti (congrFun h4s (p - 1)) ?_
    refine gg_iload_n k dX4_pass_63 rfl ?_
    refine gg_iadd k dX4_pass_64 ?_
    refine gg_iload_n k dX4_pass_65 rfl ?_
    refine gg_isub k dX4_pass_66 ?_
    refine gg_aload_n k dX4_pass_67 rfl ?_
    refine gg_get k (cbStore hB (by omega) (by omega)) inX4_pass_X4 1 (by decide) fX4_pass_13 rfl rfl dX4_pass_68 ?_
    refine gg_iload_n k dX4_pass_71 rfl ?_
    refine gg_iald k (cbLosses hB (by omega) (by omega)) (by omega) (by omega) dX4_pass_72 ?_
    refine gg_ti (show C4 (9 + 9 * i.toNat) p = x by rw [e4, wr_s]) ?_
    refine gg_isub k dX4_pass_73 ?_
    refine gg_iast k (cbStocks hB (by omega) (by omega)) (by omega) (by omega) dX4_pass_74 ?_
    refine gg_nm (fun C74 e74 => ?_)
    exact hret _ _ _ dX4_pass_75 (by
      have e74 := e74
      refine ⟨?_, ?_, ?_, fun q h1 h2 h3 => ?_⟩
      · rw [e74, wr_k (by omega), e4, wr_k (by omega)]; exact hx1
      · rw [e74, wr_k (by omega), e4, wr_up, hx2 _ (by omega), q18b _ (by omega), e6, wr_k (by omega), ← hx]
      · rw [e74, wr_up, h4s, ← hx]
      · rw [e74, wr_k h3, e4, wr_k h2, hx2 q h1, q18b q h1, e6, wr_k h1])
  refine gg_iload k dX4_pass_26 rfl ?_
  refine gg_if_le k 48 dX4_pass_28 (by decide) ⟨by omega, by omega⟩ (fun c28 => ?_) (fun c28 => ?_)
  · refine gg_iconst k dX4_pass_48 ?_
    exact J49 0 C18 (by unfold pGone; rw [if_neg (by omega)]) (by unfold pLeft; rw [if_neg (by omega)]; exact hT6) (fun _ _ => rfl) (by omega) (by omega)
  · refine gg_iload k dX4_pass_31 rfl ?_
    refine gg_iload_n k dX4_pass_33 rfl ?_
    refine gg_icmp_gt k 48 dX4_pass_34 (by decide) ⟨by omega, by omega⟩ ⟨by omega, by omega⟩ (fun c34 => ?_) (fun c34 => ?_)
    · refine gg_iconst k dX4_pass_48 ?_
      exact J49 0 C18 (by unfold pGone; rw [if_neg (by omega)]) (by unfold pLeft; rw [if_neg (by omega)]; exact hT6) (fun _ _ => rfl) (by omega) (by omega)
    · refine gg_aload_n k dX4_pass_37 rfl ?_
      refine gg_iload_n k dX4_pass_38 rfl ?_
      refine gg_iload k dX4_pass_39 rfl ?_
      refine gg_isub k dX4_pass_41 ?_
      refine gg_calli (n := 1) (As := [.int (iI (p - sh))]) (rest := [.int (iI (p)), .ref (gad B (9 + 9 * (i).toNat))]) k (kX4_spoil hB hT hi0 hi6 (p - sh) (by omega) (by omega) (by have := tb2 (p - sh) (by omega) (by omega); omega)) ⟨_, _, _, gX4_pass_X4_spoil, rfl, rfl, rfl, by decide +kernel, by decide, by decide⟩ (cbStore hB (by omega) (by omega)) rfl rfl (Nat.le_of_ble_eq_true rfl) dX4_pass_42 (fun z42 C42 r42 q42 => ?_)
      obtain ⟨q42, e42⟩ := q42
      refine gg_goto (tgt := 49) k dX4_pass_45 (by decide) ?_
      exact J49 z42 C42 (by unfold pGone; rw [if_pos (by omega), ← hT6]; exact q42) (by unfold pLeft; rw [if_pos (by omega), e42, wr_up, hT6]) (fun q hq => by rw [e42, wr_k hq]) (by have := tb2 (p - sh) (by omega) (by omega); omega) (by have := tb2 (p - sh) (by omega) (by omega); omega)
end
section
theorem fX2_coming_9 : Cond.fieldLink RX2 9 "LotRules$Item" (TX2 0).2.1 (TX2 0).2.2.1 ∈ wsX2_coming := by decide +kernel
theorem fX2_coming_18 : Cond.fieldLink RX2 18 "LotRules$Item" (TX2 2).2.1 (TX2 2).2.2.1 ∈ wsX2_coming := by decide +kernel
theorem fX5_grossOf_26 : Cond.fieldLink RX5 26 "LotRules" (TX5 1).2.1 (TX5 1).2.2.1 ∈ wsX5_grossOf := by decide +kernel
theorem fX5_grossOf_33 : Cond.fieldLink RX5 33 "LotRules" (TX5 2).2.1 (TX5 2).2.2.1 ∈ wsX5_grossOf := by decide +kernel
theorem fX5_grossOf_84 : Cond.fieldLink RX5 84 "LotRules$Item" (TX2 1).2.1 (TX2 1).2.2.1 ∈ wsX5_grossOf := by decide +kernel
theorem fX5_grossOf_91 : Cond.fieldLink RX5 91 "LotRules$Item" (TX2 3).2.1 (TX2 3).2.2.1 ∈ wsX5_grossOf := by decide +kernel
theorem fX5_grossOf_94 : Cond.fieldLink RX5 94 "LotRules$Item" (TX2 2).2.1 (TX2 2).2.2.1 ∈ wsX5_grossOf := by decide +kernel
theorem fX5_make_26 : Cond.fieldLink RX5 26 "LotRules" (TX5 1).2.1 (TX5 1).2.2.1 ∈ wsX5_make := by decide +kernel
theorem fX5_make_94 : Cond.fieldLink RX5 94 "LotRules$Item" (TX2 2).2.1 (TX2 2).2.2.1 ∈ wsX5_make := by decide +kernel
theorem fX5_need_26 : Cond.fieldLink RX5 26 "LotRules" (TX5 1).2.1 (TX5 1).2.2.1 ∈ wsX5_need := by decide +kernel
theorem fX5_need_84 : Cond.fieldLink RX5 84 "LotRules$Item" (TX2 1).2.1 (TX2 1).2.2.1 ∈ wsX5_need := by decide +kernel
theorem fX5_runItem_20 : Cond.fieldLink RX5 20 "LotRules" (TX5 0).2.1 (TX5 0).2.2.1 ∈ wsX5_runItem := by decide +kernel
theorem fX5_runItem_26 : Cond.fieldLink RX5 26 "LotRules" (TX5 1).2.1 (TX5 1).2.2.1 ∈ wsX5_runItem := by decide +kernel
theorem fX5_runItem_71 : Cond.fieldLink RX5 71 "LotRules$Item" (TX2 0).2.1 (TX2 0).2.2.1 ∈ wsX5_runItem := by decide +kernel
theorem fX5_runItem_108 : Cond.fieldLink RX5 108 "LotRules$Item" (TX2 4).2.1 (TX2 4).2.2.1 ∈ wsX5_runItem := by decide +kernel
theorem fX5_spoilt_26 : Cond.fieldLink RX5 26 "LotRules" (TX5 1).2.1 (TX5 1).2.2.1 ∈ wsX5_spoilt := by decide +kernel
theorem fX5_spoilt_108 : Cond.fieldLink RX5 108 "LotRules$Item" (TX2 4).2.1 (TX2 4).2.2.1 ∈ wsX5_spoilt := by decide +kernel
theorem fX5_spoilt_117 : Cond.fieldLink RX5 117 "LotRules$Store" (TX4 1).2.1 (TX4 1).2.2.1 ∈ wsX5_spoilt := by decide +kernel
theorem fX5_stock_26 : Cond.fieldLink RX5 26 "LotRules" (TX5 1).2.1 (TX5 1).2.2.1 ∈ wsX5_stock := by decide +kernel
theorem fX5_stock_108 : Cond.fieldLink RX5 108 "LotRules$Item" (TX2 4).2.1 (TX2 4).2.2.1 ∈ wsX5_stock := by decide +kernel
theorem fX5_stock_112 : Cond.fieldLink RX5 112 "LotRules$Store" (TX4 0).2.1 (TX4 0).2.2.1 ∈ wsX5_stock := by decide +kernel
theorem inX2_coming_X2 : ∀ w ∈ u_ws RX2 TX2 5, w ∈ wsX2_coming := by decide +kernel
theorem inX5_grossOf_X2 : ∀ w ∈ u_ws RX2 TX2 5, w ∈ wsX5_grossOf := by decide +kernel
theorem inX5_grossOf_X5 : ∀ w ∈ u_ws RX5 TX5 8, w ∈ wsX5_grossOf := by decide +kernel
theorem inX5_make_X2 : ∀ w ∈ u_ws RX2 TX2 5, w ∈ wsX5_make := by decide +kernel
theorem inX5_make_X5 : ∀ w ∈ u_ws RX5 TX5 8, w ∈ wsX5_make := by decide +kernel
theorem inX5_need_X2 : ∀ w ∈ u_ws RX2 TX2 5, w ∈ wsX5_need := by decide +kernel
theorem inX5_need_X5 : ∀ w ∈ u_ws RX5 TX5 8, w ∈ wsX5_need := by decide +kernel
theorem inX5_runItem_X2 : ∀ w ∈ u_ws RX2 TX2 5, w ∈ wsX5_runItem := by decide +kernel
theorem inX5_runItem_X5 : ∀ w ∈ u_ws RX5 TX5 8, w ∈ wsX5_runItem := by decide +kernel
theorem inX5_spoilt_X2 : ∀ w ∈ u_ws RX2 TX2 5, w ∈ wsX5_spoilt := by decide +kernel
theorem inX5_spoilt_X4 : ∀ w ∈ u_ws RX4 TX4 3, w ∈ wsX5_spoilt := by decide +kernel
theorem inX5_spoilt_X5 : ∀ w ∈ u_ws RX5 TX5 8, w ∈ wsX5_spoilt := by decide +kernel
theorem inX5_stock_X2 : ∀ w ∈ u_ws RX2 TX2 5, w ∈ wsX5_stock := by decide +kernel
theorem inX5_stock_X4 : ∀ w ∈ u_ws RX4 TX4 3, w ∈ wsX5_stock := by decide +kernel
theorem inX5_stock_X5 : ∀ w ∈ u_ws RX5 TX5 8, w ∈ wsX5_stock := by decide +kernel
end
section
abbrev rX2_coming : Room := { frames := 0, cells := 0, slots := 0, locals := 0 }
set_option maxRecDepth 100000 in
set_option maxHeartbeats 4000000 in
theorem kX2_coming {l : Launch} {B : gB} {T : Int} {S : sS} {C : gSt} (hB : clsB B T) (hO : sOk S T) (hR : cRel S T C) {i : Int} (hi0 : 0 ≤ i) (hi6 : i < 6) (p : Int) (hp0 : 1 ≤ p) (hp1 : p ≤ T) : gMi l B yX2_coming wsX2_coming rX2_coming [.ref (gad B (2 + 9 * (i).toNat)), .int (iI (p))] C (fun z C' => z = sCome S i p ∧ C' = C) := by
  refine gMi_of (ty := .int) rfl (cc := cX2_coming) (nL := 3) (by decide) rfl (Nat.le_of_ble_eq_true rfl) (fun K k hret => ?_)
  have k : gOk K B l rX2_coming 3 cX2_coming RX2 wsX2_coming := k
  show GG K B C 0 [(0, .ref (gad B (2 + 9 * (i).toNat))), (1, .int (iI (p)))] []
  have hT := hO.t
  have hc := hO.cnt
  have h7 := hO.n7 i
  refine gg_iload_n k dX2_coming_0 rfl ?_
  refine gg_aload_n k dX2_coming_1 rfl ?_
  refine gg_get k (cbItem hB (by omega) (by omega)) inX2_coming_X2 0 (by decide) fX2_coming_9 rfl rfl dX2_coming_2 ?_
  refine gg_bipush k dX2_coming_5 (by decide +kernel) ?_
  refine gg_iald k (cbNum hB (by omega) (by omega)) (by omega) (by omega) dX2_coming_7 ?_
  refine gg_ti (hR.num _ (by omega) (by omega)) ?_
  have b7 := hO.n7 (i)
  refine gg_isub k dX2_coming_8 ?_
  refine gg_istore_n k [(2, .int (iI (p - (sNum S (i) (7))))), (0, .ref (gad B (2 + 9 * (i).toNat))), (1, .int (iI (p)))] dX2_coming_9 (by decide) rfl ?_
  refine gg_iload_n k dX2_coming_10 rfl ?_
  refine gg_iconst k dX2_coming_11 ?_
  refine gg_icmp_lt k 24 dX2_coming_12 (by decide) ⟨by omega, by omega⟩ ⟨by omega, by omega⟩ (fun c12 => ?_) (fun c12 => ?_)
  · refine gg_iconst k dX2_coming_24 ?_
    exact hret _ _ _ _ dX2_coming_25 (⟨by omega, by omega⟩) (⟨by unfold sCome; rw [if_neg (by omega)], rfl⟩)
  · refine gg_aload_n k dX2_coming_15 rfl ?_
    refine gg_get k (cbItem hB (by omega) (by omega)) inX2_coming_X2 2 (by decide) fX2_coming_18 rfl rfl dX2_coming_16 ?_
    refine gg_iload_n k dX2_coming_19 rfl ?_
    refine gg_iald k (cbLot hB (by omega) (by omega)) (by omega) (by omega) dX2_coming_20 ?_
    refine gg_ti (hR.lot _ (by omega) (by omega)) ?_
    have b20 := hO.lot (i) (p - (sNum S (i) (7)))
    refine gg_goto (tgt := 25) k dX2_coming_21 (by decide) ?_
    exact hret _ _ _ _ dX2_coming_25 (⟨by omega, by omega⟩) (⟨by unfold sCome; rw [if_pos (by omega)], rfl⟩)

abbrev rX5_grossOf : Room := { frames := 0, cells := 0, slots := 0, locals := 0 }
set_option maxRecDepth 100000 in
set_option maxHeartbeats 4000000 in
theorem kX5_grossOf {l : Launch} {B : gB} {T : Int} {S : sS} {C : gSt} (hB : clsB B T) (hO : sOk S T) (hR : cRel S T C) {i : Int} (hi0 : 0 ≤ i) (hi1 : i < sCnt S) (p : Int) (hp0 : 1 ≤ p) (hp1 : p ≤ T) : gMi l B yX5_grossOf wsX5_grossOf rX5_grossOf [.ref (gad B (0)), .int (iI (i)), .int (iI (p))] C (fun z C' => z = sGross S i p ∧ C' = C) := by
  refine gMi_of (ty := .int) rfl (cc := cX5_grossOf) (nL := 5) (by decide) rfl (Nat.le_of_ble_eq_true rfl) (fun K k hret => ?_)
  have k : gOk K B l rX5_grossOf 5 cX5_grossOf RX5 wsX5_grossOf := k
  show GG K B C 0 [(0, .ref (gad B (0))), (1, .int (iI (i))), (2, .int (iI (p)))] []
  have hT := hO.t
  have hc := hO.cnt
  have hgb := sGrossN_b hO i p (sCnt S).toNat
  refine gg_aload_n k dX5_grossOf_0 rfl ?_
  refine gg_get k (cb0 hB) inX5_grossOf_X5 1 (by decide) fX5_grossOf_26 rfl rfl dX5_grossOf_1 ?_
  refine gg_iload_n k dX5_grossOf_4 rfl ?_
  refine gg_aald k (cb1 hB) (by omega) (by omega) dX5_grossOf_5 ?_
  refine gg_get k (cbItem hB (by omega) (by omega)) inX5_grossOf_X2 1 (by decide) fX5_grossOf_84 rfl rfl dX5_grossOf_6 ?_
  refine gg_iload_n k dX5_grossOf_9 rfl ?_
  refine gg_iald k (cbNee hB (by omega) (by omega)) (by omega) (by omega) dX5_grossOf_10 ?_
  refine gg_ti (hR.nee _ (by omega) (by omega)) ?_
  have b10 := hO.nee (i) (p)
  refine gg_istore_n k [(3, .int (iI (sNee S (i) (p)))), (0, .ref (gad B (0))), (1, .int (iI (i))), (2, .int (iI (p)))] dX5_grossOf_11 (by decide) rfl ?_
  refine gg_iconst k dX5_grossOf_12 ?_
  refine gg_istore k [(4, .int (iI (0))), (3, .int (iI (sNee S (i) (p)))), (0, .ref (gad B (0))), (1, .int (iI (i))), (2, .int (iI (p)))] dX5_grossOf_13 (by decide) rfl ?_
  have L15 : ∀ (n15 : Nat) (j : Int) (sm : Int), 0 ≤ j → j ≤ sCnt S → sm = sGrossN S i p j.toNat → sCnt S - j < (n15 : Int) → GG K B C 15 [(0, .ref (gad B (0))), (1, .int (iI (i))), (2, .int (iI (p))), (3, .int (iI (sm))), (4, .int (iI (j)))] [] := by
    intro n15
    induction n15 with
    | zero =>
      intro j sm hj0 hj1 hs hn15
      exact absurd hn15 (by omega)
    | succ n15 ih15 =>
      intro j sm hj0 hj1 hs hn15
      refine gg_iload k dX5_grossOf_15 rfl ?_
      refine gg_aload_n k dX5_grossOf_17 rfl ?_
      refine gg_get k (cb0 hB) inX5_grossOf_X5 2 (by decide) fX5_grossOf_33 rfl rfl dX5_grossOf_18 ?_
      refine gg_ti hR.cnt ?_
      refine gg_icmp_ge k 58 dX5_grossOf_21 (by decide) ⟨by omega, by omega⟩ ⟨by omega, by omega⟩ (fun c21 => ?_) (fun c21 => ?_)
      · refine gg_iload_n k dX5_grossOf_58 rfl ?_
        exact hret _ _ _ _ dX5_grossOf_59 (by rw [hs, show j = sCnt S by omega]; exact ⟨by omega, by omega⟩) (⟨by unfold sGross; rw [hs, show j = sCnt S by omega], rfl⟩)
      · refine gg_iload_n k dX5_grossOf_24 rfl ?_
        refine gg_aload_n k dX5_grossOf_25 rfl ?_
        refine gg_get k (cb0 hB) inX5_grossOf_X5 1 (by decide) fX5_grossOf_26 rfl rfl dX5_grossOf_26 ?_
        refine gg_iload_n k dX5_grossOf_29 rfl ?_
        refine gg_aald k (cb1 hB) (by omega) (by omega) dX5_grossOf_30 ?_
        refine gg_get k (cbItem hB (by omega) (by omega)) inX5_grossOf_X2 3 (by decide) fX5_grossOf_91 rfl rfl dX5_grossOf_31 ?_
        refine gg_iload k dX5_grossOf_34 rfl ?_
        refine gg_iald k (cbTim hB (by omega) (by omega)) (by omega) (by omega) dX5_grossOf_36 ?_
        refine gg_ti (hR.tim _ (by omega) (by omega)) ?_
        have b36 := hO.tim (i) (j)
        refine gg_aload_n k dX5_grossOf_37 rfl ?_
        refine gg_get k (cb0 hB) inX5_grossOf_X5 1 (by decide) fX5_grossOf_26 rfl rfl dX5_grossOf_38 ?_
        refine gg_iload k dX5_grossOf_41 rfl ?_
        refine gg_aald k (cb1 hB) (by omega) (by omega) dX5_grossOf_43 ?_
        refine gg_get k (cbItem hB (by omega) (by omega)) inX5_grossOf_X2 2 (by decide) fX5_grossOf_94 rfl rfl dX5_grossOf_44 ?_
        refine gg_iload_n k dX5_grossOf_47 rfl ?_
        refine gg_iald k (cbLot hB (by omega) (by omega)) (by omega) (by omega) dX5_grossOf_48 ?_
        refine gg_ti (hR.lot _ (by omega) (by omega)) ?_
        have b48 := hO.lot (j) (p)
        refine gg_imul k dX5_grossOf_49 ?_
        refine gg_iadd k dX5_grossOf_50 ?_
        refine gg_istore_n k [(3, .int (iI (sm + ((sTim S (i) (j)) * (sLot S (j) (p)))))), (0, .ref (gad B (0))), (1, .int (iI (i))), (2, .int (iI (p))), (4, .int (iI (j)))] dX5_grossOf_51 (by decide) rfl ?_
        refine gg_iinc k 4 [(4, .int (iI (j + 1))), (3, .int (iI (sm + ((sTim S (i) (j)) * (sLot S (j) (p)))))), (0, .ref (gad B (0))), (1, .int (iI (i))), (2, .int (iI (p)))] dX5_grossOf_52 rfl (by decide) rfl ?_
        refine gg_goto (tgt := 15) k dX5_grossOf_55 (by decide) ?_
        refine gg_sub [2, 3, 4, 1, 0] rfl ?_
        exact ih15 (j + 1) (sm + ((sTim S (i) (j)) * (sLot S (j) (p)))) (by omega) (by omega) (by rw [sGrossN_s hj0, hs]) (by omega)
  refine gg_sub [2, 3, 4, 1, 0] rfl ?_
  exact L15 ((sCnt S - 0).toNat + 1) (0) (sNee S (i) (p)) (by omega) (by omega) (rfl) (by omega)

abbrev rX5_runItem : Room := { frames := 3, cells := 0, slots := 0, locals := 73 }
set_option maxRecDepth 100000 in
set_option maxHeartbeats 4000000 in
theorem kX5_runItem {l : Launch} {B : gB} {T : Int} {S : sS} {C : gSt} (hB : clsB B T) (hO : sOk S T) (hR : cRel S T C) {i : Int} (hi0 : 0 ≤ i) (hi1 : i < sCnt S) : gMv l B yX5_runItem wsX5_runItem rX5_runItem [.ref (gad B (0)), .int (iI (i))] C (fun C' => cRel S T C' ∧ cRun S i C' T ∧ ∀ q : Nat, q ≠ 10 + 9 * i.toNat → q ≠ 9 + 9 * i.toNat → q ≠ 8 + 9 * i.toNat → C' q = C q) := by
  refine gMv_of (cc := cX5_runItem) (nL := 4) (by decide) rfl (Nat.le_of_ble_eq_true rfl) (fun K k hret => ?_)
  have k : gOk K B l rX5_runItem 4 cX5_runItem RX5 wsX5_runItem := k
  show GG K B C 0 [(0, .ref (gad B (0))), (1, .int (iI (i)))] []
  have hT := hO.t
  have hc := hO.cnt
  
  refine gg_aload_n k dX5_runItem_0 rfl ?_
  refine gg_get k (cb0 hB) inX5_runItem_X5 1 (by decide) fX5_runItem_26 rfl rfl dX5_runItem_1 ?_
  refine gg_iload_n k dX5_runItem_4 rfl ?_
  refine gg_aald k (cb1 hB) (by omega) (by omega) dX5_runItem_5 ?_
  refine gg_astore_n k [(2, .ref (gad B (2 + 9 * (i).toNat))), (0, .ref (gad B (0))), (1, .int (iI (i)))] dX5_runItem_6 (by decide) rfl ?_
  refine gg_aload_n k dX5_runItem_7 rfl ?_
  refine gg_get k (cbItem hB (by omega) (by omega)) inX5_runItem_X2 4 (by decide) fX5_runItem_108 rfl rfl dX5_runItem_8 ?_
  refine gg_aload_n k dX5_runItem_11 rfl ?_
  refine gg_get k (cbItem hB (by omega) (by omega)) inX5_runItem_X2 0 (by decide) fX5_runItem_71 rfl rfl dX5_runItem_12 ?_
  refine gg_iconst k dX5_runItem_15 ?_
  refine gg_iald k (cbNum hB (by omega) (by omega)) (by omega) (by omega) dX5_runItem_16 ?_
  refine gg_ti (hR.num _ (by omega) (by omega)) ?_
  have b16 := hO.n4 (i)
  refine gg_callv (n := 1) (As := [.int (iI (sNum S (i) (4)))]) (rest := []) k (kX4_begin hB hO.t hi0 (by omega) (sNum S i 4)) ⟨_, _, _, gX5_runItem_X4_begin, rfl, rfl, rfl, by decide +kernel, by decide, by decide⟩ (cbStore hB (by omega) (by omega)) rfl rfl (Nat.le_of_ble_eq_true rfl) dX5_runItem_17 (fun C17 q17 => ?_)
  have hR0 : cRel S T C17 := by rw [q17]; exact (hR.wri (Or.inl (by unfold scr; omega))).wri (Or.inl (by unfold scr; omega))
  have hk0 : ∀ q : Nat, q ≠ 10 + 9 * i.toNat → q ≠ 9 + 9 * i.toNat → q ≠ 8 + 9 * i.toNat → C17 q = C q := fun q h1 h2 h3 => by rw [q17, wr_k h1, wr_k h3]
  have hr0 : cRun S i C17 0 := ⟨fun j h0 h1 => by rw [show j = 0 by omega, q17, wr_k (by omega), wr_s]; exact sStk_0.symm, fun j h0 h1 => by omega⟩
  have hl0 : ∀ j : Int, 0 ≤ j → j ≤ 0 → C17 (10 + 9 * i.toNat) j = (sRun S i 0).1 j := fun j h0 h1 => by rw [show j = 0 by omega, q17, wr_s]; rfl
  refine gg_iconst k dX5_runItem_20 ?_
  refine gg_istore_n k [(3, .int (iI (1))), (2, .ref (gad B (2 + 9 * (i).toNat))), (0, .ref (gad B (0))), (1, .int (iI (i)))] dX5_runItem_21 (by decide) rfl ?_
  have L22 : ∀ (n22 : Nat) (p : Int) (C1 : gSt), 1 ≤ p → p ≤ T + 1 → cRel S T C1 → cRun S i C1 (p - 1) → (∀ j : Int, 0 ≤ j → j ≤ p - 1 → C1 (10 + 9 * i.toNat) j = (sRun S i (p - 1).toNat).1 j) → (∀ q : Nat, q ≠ 10 + 9 * i.toNat → q ≠ 9 + 9 * i.toNat → q ≠ 8 + 9 * i.toNat → C1 q = C q) → T + 1 - p < (n22 : Int) → GG K B C1 22 [(0, .ref (gad B (0))), (1, .int (iI (i))), (2, .ref (gad B (2 + 9 * (i).toNat))), (3, .int (iI (p)))] [] := by
    intro n22
    induction n22 with
    | zero =>
      intro p C1 hp0 hp1 hR hr1 hl1 hk1 hn22
      exact absurd hn22 (by omega)
    | succ n22 ih22 =>
      intro p C1 hp0 hp1 hR hr1 hl1 hk1 hn22
      refine gg_iload_n k dX5_runItem_22 rfl ?_
      refine gg_aload_n k dX5_runItem_23 rfl ?_
      refine gg_get k (cb0 hB) inX5_runItem_X5 0 (by decide) fX5_runItem_20 rfl rfl dX5_runItem_24 ?_
      refine gg_icmp_gt k 61 dX5_runItem_27 (by decide) ⟨by omega, by omega⟩ ⟨by omega, by omega⟩ (fun c27 => ?_) (fun c27 => ?_)
      · exact hret _ _ _ dX5_runItem_61 (⟨hR, by rw [show T = p - 1 by omega]; exact hr1, hk1⟩)
      · refine gg_aload_n k dX5_runItem_30 rfl ?_
        refine gg_get k (cbItem hB (by omega) (by omega)) inX5_runItem_X2 4 (by decide) fX5_runItem_108 rfl rfl dX5_runItem_31 ?_
        refine gg_iload_n k dX5_runItem_34 rfl ?_
        refine gg_aload_n k dX5_runItem_35 rfl ?_
        refine gg_iload_n k dX5_runItem_36 rfl ?_
        refine gg_calli (n := 1) (As := [.int (iI (p))]) (rest := [.int (iI (p)), .ref (gad B (7 + 9 * (i).toNat))]) k (kX2_coming hB hO hR hi0 (by omega) p (by omega) (by omega)) ⟨_, _, _, gX5_runItem_X2_coming, rfl, rfl, rfl, by decide +kernel, by decide, by decide⟩ (cbItem hB (by omega) (by omega)) rfl rfl (Nat.le_of_ble_eq_true rfl) dX5_runItem_37 (fun z37 C37 r37 q37 => ?_)
        obtain ⟨q37, e37⟩ := q37
        rw [e37]
        clear e37
        refine gg_aload_n k dX5_runItem_40 rfl ?_
        refine gg_iload_n k dX5_runItem_41 rfl ?_
        refine gg_iload_n k dX5_runItem_42 rfl ?_
        refine gg_calli (n := 2) (As := [.int (iI (i)), .int (iI (p))]) (rest := [.int (iI (z37)), .int (iI (p)), .ref (gad B (7 + 9 * (i).toNat))]) k (kX5_grossOf hB hO hR hi0 hi1 p (by omega) (by omega)) ⟨_, _, _, gX5_runItem_X5_grossOf, rfl, rfl, rfl, by decide +kernel, by decide, by decide⟩ (cb0 hB) rfl rfl (Nat.le_of_ble_eq_true rfl) dX5_runItem_43 (fun z43 C43 r43 q43 => ?_)
        obtain ⟨q43, e43⟩ := q43
        rw [e43]
        clear e43
        refine gg_aload_n k dX5_runItem_46 rfl ?_
        refine gg_get k (cbItem hB (by omega) (by omega)) inX5_runItem_X2 0 (by decide) fX5_runItem_71 rfl rfl dX5_runItem_47 ?_
        refine gg_iconst k dX5_runItem_50 ?_
        refine gg_iald k (cbNum hB (by omega) (by omega)) (by omega) (by omega) dX5_runItem_51 ?_
        refine gg_ti (hR.num _ (by omega) (by omega)) ?_
        have b51 := hO.n3 (i)
        refine gg_callv (n := 4) (As := [.int (iI (p)), .int (iI (z37)), .int (iI (z43)), .int (iI (sNum S (i) (3)))]) (rest := []) k (kX4_pass hB hO.t hi0 (by omega) p z37 z43 (sNum S i 3) (by omega) (by omega) (by rw [q37]; exact sCome_b hO i p) (by rw [q43]; exact sGross_b hO i p) (hO.n3 i) (by rw [hr1.1 (p - 1) (by omega) (by omega)]; exact sStk_b hO i _ (by omega)) (fun x h0 h1 => by rw [hl1 x h0 h1]; exact (sRun_b hO i _).1 x h0)) ⟨_, _, _, gX5_runItem_X4_pass, rfl, rfl, rfl, by decide +kernel, by decide, by decide⟩ (cbStore hB (by omega) (by omega)) rfl rfl (Nat.le_of_ble_eq_true rfl) dX5_runItem_52 (fun C52 q52 => ?_)
        obtain ⟨w1, w2, w3, w4⟩ := q52
        rw [q37, q43] at w1 w2 w3
        have hst := run_step hO (i := i) (p := p) (by omega) hl1 (show max 0 (-(C1 (8 + 9 * i.toNat) (p - 1))) = _ by rw [hr1.1 (p - 1) (by omega) (by omega)]; exact sOwed hO i _)
        have hR2 : cRel S T C52 := hR.of (fun q h1 _ _ => w4 q (fun w => h1 (by unfold scr; omega)) (fun w => h1 (by unfold scr; omega)) (fun w => h1 (by unfold scr; omega))) (by rw [w4 60 (by omega) (by omega) (by omega)]) (by rw [w4 65 (by omega) (by omega) (by omega)])
        have hr2 : cRun S i C52 p := by
          refine ⟨fun j h0 h1 => ?_, fun j h0 h1 => ?_⟩
          · rw [w3]
            by_cases hj : j = p
            · rw [hj, upI_s, hst.1, hr1.1 (p - 1) (by omega) (by omega)]
              have hs := sStk_s hO i (p - 1).toNat
              rw [show (((p - 1).toNat : Nat) : Int) + 1 = p by omega, show (p - 1).toNat + 1 = p.toNat by omega] at hs
              omega
            · rw [upI_n hj]; exact hr1.1 j h0 (by omega)
          · rw [w2]
            by_cases hj : j = p
            · rw [hj, upI_s, hst.1]
            · rw [upI_n hj]; exact hr1.2 j h0 (by omega)
        have hl2 : ∀ j : Int, 0 ≤ j → j ≤ p → C52 (10 + 9 * i.toNat) j = (sRun S i p.toNat).1 j := fun j h0 h1 => by rw [w1]; exact hst.2 j h0 h1
        have hk2 : ∀ q : Nat, q ≠ 10 + 9 * i.toNat → q ≠ 9 + 9 * i.toNat → q ≠ 8 + 9 * i.toNat → C52 q = C q := fun q h1 h2 h3 => by rw [w4 q h1 h2 h3]; exact hk1 q h1 h2 h3
        refine gg_iinc k 3 [(3, .int (iI (p + 1))), (0, .ref (gad B (0))), (1, .int (iI (i))), (2, .ref (gad B (2 + 9 * (i).toNat)))] dX5_runItem_55 rfl (by decide) rfl ?_
        refine gg_goto (tgt := 22) k dX5_runItem_58 (by decide) ?_
        refine gg_sub [1, 2, 3, 0] rfl ?_
        exact ih22 (p + 1) (C52) (by omega) (by omega) (hR2) (by rw [show p + 1 - 1 = p by omega]; exact hr2) (by rw [show p + 1 - 1 = p by omega]; exact hl2) (hk2) (by omega)
  refine gg_sub [2, 3, 1, 0] rfl ?_
  exact L22 ((T + 1 - 1).toNat + 1) (1) (C17) (by omega) (by omega) (hR0) (hr0) (hl0) (hk0) (by omega)

abbrev rX5_stock : Room := { frames := 4, cells := 0, slots := 0, locals := 96 }
set_option maxRecDepth 100000 in
set_option maxHeartbeats 4000000 in
theorem kX5_stock {l : Launch} {B : gB} {T : Int} {S : sS} {C : gSt} (hB : clsB B T) (hO : sOk S T) (hR : cRel S T C) (i p : Int) (hi : rI i) (hp : rI p) : gMl l B yX5_stock wsX5_stock rX5_stock [.ref (gad B (0)), .int (iI (i)), .int (iI (p))] C (fun z C' => cRel S T C' ∧ z = if (0 ≤ i ∧ i < sCnt S) ∧ 0 ≤ p ∧ p ≤ T then sStk S i p.toNat else -9223372036854775808) := by
  refine gMl_of (cc := cX5_stock) (nL := 3) (by decide) rfl (Nat.le_of_ble_eq_true rfl) (fun K k hret => ?_)
  have k : gOk K B l rX5_stock 3 cX5_stock RX5 wsX5_stock := k
  show GG K B C 0 [(0, .ref (gad B (0))), (1, .int (iI (i))), (2, .int (iI (p)))] []
  have hT := hO.t
  have hc := hO.cnt
  obtain ⟨hi1, hi2⟩ := hi
  obtain ⟨hp1, hp2⟩ := hp
  refine gg_aload_n k dX5_stock_0 rfl ?_
  refine gg_iload_n k dX5_stock_1 rfl ?_
  refine gg_calli (n := 1) (As := [.int (iI (i))]) (rest := []) k (kX5_isItem hB hO hR (i) ⟨by omega, by omega⟩) ⟨_, _, _, gX5_stock_X5_isItem, rfl, rfl, rfl, by decide +kernel, by decide, by decide⟩ (cb0 hB) rfl rfl (Nat.le_of_ble_eq_true rfl) dX5_stock_2 (fun z2 C2 r2 q2 => ?_)
  obtain ⟨q2, e2⟩ := q2
  rw [e2]
  clear e2
  obtain ⟨r2, s2⟩ := r2
  refine gg_if_eq k 16 dX5_stock_5 (by decide) ⟨by omega, by omega⟩ (fun c5 => ?_) (fun c5 => ?_)
  · refine gg_ldc2 (z := -9223372036854775808) k dX5_stock_16 (by decide +kernel) ?_
    exact hret _ _ _ _ dX5_stock_19 (⟨by omega, by omega⟩) (⟨hR, by rw [if_neg (by omega)]⟩)
  · refine gg_aload_n k dX5_stock_8 rfl ?_
    refine gg_iload_n k dX5_stock_9 rfl ?_
    refine gg_calli (n := 1) (As := [.int (iI (p))]) (rest := []) k (kX5_isPeriodOrBeginning hB hO hR (p) ⟨by omega, by omega⟩) ⟨_, _, _, gX5_stock_X5_isPeriodOrBeginning, rfl, rfl, rfl, by decide +kernel, by decide, by decide⟩ (cb0 hB) rfl rfl (Nat.le_of_ble_eq_true rfl) dX5_stock_10 (fun z10 C10 r10 q10 => ?_)
    obtain ⟨q10, e10⟩ := q10
    rw [e10]
    clear e10
    obtain ⟨r10, s10⟩ := r10
    refine gg_if_ne k 20 dX5_stock_13 (by decide) ⟨by omega, by omega⟩ (fun c13 => ?_) (fun c13 => ?_)
    · refine gg_aload_n k dX5_stock_20 rfl ?_
      refine gg_iload_n k dX5_stock_21 rfl ?_
      refine gg_callv (n := 1) (As := [.int (iI (i))]) (rest := []) k (kX5_runItem hB hO hR (i := i) (by omega) (by omega)) ⟨_, _, _, gX5_stock_X5_runItem, rfl, rfl, rfl, by decide +kernel, by decide, by decide⟩ (cb0 hB) rfl rfl (Nat.le_of_ble_eq_true rfl) dX5_stock_22 (fun C22 q22 => ?_)
      obtain ⟨hR, hr22, hk22⟩ := q22
      refine gg_aload_n k dX5_stock_25 rfl ?_
      refine gg_get k (cb0 hB) inX5_stock_X5 1 (by decide) fX5_stock_26 rfl rfl dX5_stock_26 ?_
      refine gg_iload_n k dX5_stock_29 rfl ?_
      refine gg_aald k (cb1 hB) (by omega) (by omega) dX5_stock_30 ?_
      refine gg_get k (cbItem hB (by omega) (by omega)) inX5_stock_X2 4 (by decide) fX5_stock_108 rfl rfl dX5_stock_31 ?_
      refine gg_get k (cbStore hB (by omega) (by omega)) inX5_stock_X4 0 (by decide) fX5_stock_112 rfl rfl dX5_stock_34 ?_
      refine gg_iload_n k dX5_stock_37 rfl ?_
      refine gg_iald k (cbStocks hB (by omega) (by omega)) (by omega) (by omega) dX5_stock_38 ?_
      refine gg_ti (hr22.1 p (by omega) (by omega)) ?_
      have hb9 := sStk_b hO i p.toNat (by omega)
      refine gg_i2l k dX5_stock_39 ⟨by omega, by omega⟩ ?_
      exact hret _ _ _ _ dX5_stock_40 (⟨by omega, by omega⟩) (⟨hR, by rw [if_pos (by omega)]⟩)
    · refine gg_ldc2 (z := -9223372036854775808) k dX5_stock_16 (by decide +kernel) ?_
      exact hret _ _ _ _ dX5_stock_19 (⟨by omega, by omega⟩) (⟨hR, by rw [if_neg (by omega)]⟩)

abbrev rX5_spoilt : Room := { frames := 4, cells := 0, slots := 0, locals := 96 }
set_option maxRecDepth 100000 in
set_option maxHeartbeats 4000000 in
theorem kX5_spoilt {l : Launch} {B : gB} {T : Int} {S : sS} {C : gSt} (hB : clsB B T) (hO : sOk S T) (hR : cRel S T C) (i p : Int) (hi : rI i) (hp : rI p) : gMi l B yX5_spoilt wsX5_spoilt rX5_spoilt [.ref (gad B (0)), .int (iI (i)), .int (iI (p))] C (fun z C' => cRel S T C' ∧ z = if (0 ≤ i ∧ i < sCnt S) ∧ 1 ≤ p ∧ p ≤ T then sGone S i (p - 1).toNat else -1) := by
  refine gMi_of (ty := .int) rfl (cc := cX5_spoilt) (nL := 3) (by decide) rfl (Nat.le_of_ble_eq_true rfl) (fun K k hret => ?_)
  have k : gOk K B l rX5_spoilt 3 cX5_spoilt RX5 wsX5_spoilt := k
  show GG K B C 0 [(0, .ref (gad B (0))), (1, .int (iI (i))), (2, .int (iI (p)))] []
  have hT := hO.t
  have hc := hO.cnt
  obtain ⟨hi1, hi2⟩ := hi
  obtain ⟨hp1, hp2⟩ := hp
  refine gg_aload_n k dX5_spoilt_0 rfl ?_
  refine gg_iload_n k dX5_spoilt_1 rfl ?_
  refine gg_calli (n := 1) (As := [.int (iI (i))]) (rest := []) k (kX5_isItem hB hO hR (i) ⟨by omega, by omega⟩) ⟨_, _, _, gX5_spoilt_X5_isItem, rfl, rfl, rfl, by decide +kernel, by decide, by decide⟩ (cb0 hB) rfl rfl (Nat.le_of_ble_eq_true rfl) dX5_spoilt_2 (fun z2 C2 r2 q2 => ?_)
  obtain ⟨q2, e2⟩ := q2
  rw [e2]
  clear e2
  obtain ⟨r2, s2⟩ := r2
  refine gg_if_eq k 16 dX5_spoilt_5 (by decide) ⟨by omega, by omega⟩ (fun c5 => ?_) (fun c5 => ?_)
  · refine gg_iconst k dX5_spoilt_16 ?_
    exact hret _ _ _ _ dX5_spoilt_17 (⟨by omega, by omega⟩) (⟨hR, by rw [if_neg (by omega)]⟩)
  · refine gg_aload_n k dX5_spoilt_8 rfl ?_
    refine gg_iload_n k dX5_spoilt_9 rfl ?_
    refine gg_calli (n := 1) (As := [.int (iI (p))]) (rest := []) k (kX5_isPeriod hB hO hR (p) ⟨by omega, by omega⟩) ⟨_, _, _, gX5_spoilt_X5_isPeriod, rfl, rfl, rfl, by decide +kernel, by decide, by decide⟩ (cb0 hB) rfl rfl (Nat.le_of_ble_eq_true rfl) dX5_spoilt_10 (fun z10 C10 r10 q10 => ?_)
    obtain ⟨q10, e10⟩ := q10
    rw [e10]
    clear e10
    obtain ⟨r10, s10⟩ := r10
    refine gg_if_ne k 18 dX5_spoilt_13 (by decide) ⟨by omega, by omega⟩ (fun c13 => ?_) (fun c13 => ?_)
    · refine gg_aload_n k dX5_spoilt_18 rfl ?_
      refine gg_iload_n k dX5_spoilt_19 rfl ?_
      refine gg_callv (n := 1) (As := [.int (iI (i))]) (rest := []) k (kX5_runItem hB hO hR (i := i) (by omega) (by omega)) ⟨_, _, _, gX5_spoilt_X5_runItem, rfl, rfl, rfl, by decide +kernel, by decide, by decide⟩ (cb0 hB) rfl rfl (Nat.le_of_ble_eq_true rfl) dX5_spoilt_20 (fun C20 q20 => ?_)
      obtain ⟨hR, hr20, hk20⟩ := q20
      refine gg_aload_n k dX5_spoilt_23 rfl ?_
      refine gg_get k (cb0 hB) inX5_spoilt_X5 1 (by decide) fX5_spoilt_26 rfl rfl dX5_spoilt_24 ?_
      refine gg_iload_n k dX5_spoilt_27 rfl ?_
      refine gg_aald k (cb1 hB) (by omega) (by omega) dX5_spoilt_28 ?_
      refine gg_get k (cbItem hB (by omega) (by omega)) inX5_spoilt_X2 4 (by decide) fX5_spoilt_108 rfl rfl dX5_spoilt_29 ?_
      refine gg_get k (cbStore hB (by omega) (by omega)) inX5_spoilt_X4 1 (by decide) fX5_spoilt_117 rfl rfl dX5_spoilt_32 ?_
      refine gg_iload_n k dX5_spoilt_35 rfl ?_
      refine gg_iald k (cbLosses hB (by omega) (by omega)) (by omega) (by omega) dX5_spoilt_36 ?_
      refine gg_ti (hr20.2 p (by omega) (by omega)) ?_
      have hb9 := sGone_b hO i (p - 1).toNat
      exact hret _ _ _ _ dX5_spoilt_37 (⟨by omega, by omega⟩) (⟨hR, by rw [if_pos (by omega)]⟩)
    · refine gg_iconst k dX5_spoilt_16 ?_
      exact hret _ _ _ _ dX5_spoilt_17 (⟨by omega, by omega⟩) (⟨hR, by rw [if_neg (by omega)]⟩)

abbrev rX5_gross : Room := { frames := 1, cells := 0, slots := 0, locals := 24 }
set_option maxRecDepth 100000 in
set_option maxHeartbeats 4000000 in
theorem kX5_gross {l : Launch} {B : gB} {T : Int} {S : sS} {C : gSt} (hB : clsB B T) (hO : sOk S T) (hR : cRel S T C) (i p : Int) (hi : rI i) (hp : rI p) : gMi l B yX5_gross wsX5_gross rX5_gross [.ref (gad B (0)), .int (iI (i)), .int (iI (p))] C (fun z C' => cRel S T C' ∧ z = if (0 ≤ i ∧ i < sCnt S) ∧ 1 ≤ p ∧ p ≤ T then sGross S i p else -1) := by
  refine gMi_of (ty := .int) rfl (cc := cX5_gross) (nL := 3) (by decide) rfl (Nat.le_of_ble_eq_true rfl) (fun K k hret => ?_)
  have k : gOk K B l rX5_gross 3 cX5_gross RX5 wsX5_gross := k
  show GG K B C 0 [(0, .ref (gad B (0))), (1, .int (iI (i))), (2, .int (iI (p)))] []
  have hT := hO.t
  have hc := hO.cnt
  obtain ⟨hi1, hi2⟩ := hi
  obtain ⟨hp1, hp2⟩ := hp
  refine gg_aload_n k dX5_gross_0 rfl ?_
  refine gg_iload_n k dX5_gross_1 rfl ?_
  refine gg_calli (n := 1) (As := [.int (iI (i))]) (rest := []) k (kX5_isItem hB hO hR (i) ⟨by omega, by omega⟩) ⟨_, _, _, gX5_gross_X5_isItem, rfl, rfl, rfl, by decide +kernel, by decide, by decide⟩ (cb0 hB) rfl rfl (Nat.le_of_ble_eq_true rfl) dX5_gross_2 (fun z2 C2 r2 q2 => ?_)
  obtain ⟨q2, e2⟩ := q2
  rw [e2]
  clear e2
  obtain ⟨r2, s2⟩ := r2
  refine gg_if_eq k 16 dX5_gross_5 (by decide) ⟨by omega, by omega⟩ (fun c5 => ?_) (fun c5 => ?_)
  · refine gg_iconst k dX5_gross_16 ?_
    exact hret _ _ _ _ dX5_gross_17 (⟨by omega, by omega⟩) (⟨hR, by rw [if_neg (by omega)]⟩)
  · refine gg_aload_n k dX5_gross_8 rfl ?_
    refine gg_iload_n k dX5_gross_9 rfl ?_
    refine gg_calli (n := 1) (As := [.int (iI (p))]) (rest := []) k (kX5_isPeriod hB hO hR (p) ⟨by omega, by omega⟩) ⟨_, _, _, gX5_gross_X5_isPeriod, rfl, rfl, rfl, by decide +kernel, by decide, by decide⟩ (cb0 hB) rfl rfl (Nat.le_of_ble_eq_true rfl) dX5_gross_10 (fun z10 C10 r10 q10 => ?_)
    obtain ⟨q10, e10⟩ := q10
    rw [e10]
    clear e10
    obtain ⟨r10, s10⟩ := r10
    refine gg_if_ne k 18 dX5_gross_13 (by decide) ⟨by omega, by omega⟩ (fun c13 => ?_) (fun c13 => ?_)
    · refine gg_aload_n k dX5_gross_18 rfl ?_
      refine gg_iload_n k dX5_gross_19 rfl ?_
      refine gg_iload_n k dX5_gross_20 rfl ?_
      refine gg_calli (n := 2) (As := [.int (iI (i)), .int (iI (p))]) (rest := []) k (kX5_grossOf hB hO hR (i := i) (by omega) (by omega) p (by omega) (by omega)) ⟨_, _, _, gX5_gross_X5_grossOf, rfl, rfl, rfl, by decide +kernel, by decide, by decide⟩ (cb0 hB) rfl rfl (Nat.le_of_ble_eq_true rfl) dX5_gross_21 (fun z21 C21 r21 q21 => ?_)
      obtain ⟨q21, e21⟩ := q21
      rw [e21]
      clear e21
      obtain ⟨r21, s21⟩ := r21
      exact hret _ _ _ _ dX5_gross_24 (⟨by omega, by omega⟩) (⟨hR, by rw [if_pos (by omega)]; exact q21⟩)
    · refine gg_iconst k dX5_gross_16 ?_
      exact hret _ _ _ _ dX5_gross_17 (⟨by omega, by omega⟩) (⟨hR, by rw [if_neg (by omega)]⟩)

abbrev rX5_need : Room := { frames := 1, cells := 0, slots := 0, locals := 24 }
set_option maxRecDepth 100000 in
set_option maxHeartbeats 4000000 in
theorem kX5_need {l : Launch} {B : gB} {T : Int} {S : sS} {C : gSt} (hB : clsB B T) (hO : sOk S T) (hR : cRel S T C) (i p v : Int) (hi : rI i) (hp : rI p) (hv : rI v) : gMi l B yX5_need wsX5_need rX5_need [.ref (gad B (0)), .int (iI (i)), .int (iI (p)), .int (iI (v))] C (fun z C' => cRel (gUpd (rIP S T i p) S (uUp S 1 i p v 1000)) T C' ∧ z = gAns (rIP S T i p) (aUp S 1 i p v 1000)) := by
  refine gMi_of (ty := .int) rfl (cc := cX5_need) (nL := 4) (by decide) rfl (Nat.le_of_ble_eq_true rfl) (fun K k hret => ?_)
  have k : gOk K B l rX5_need 4 cX5_need RX5 wsX5_need := k
  show GG K B C 0 [(0, .ref (gad B (0))), (1, .int (iI (i))), (2, .int (iI (p))), (3, .int (iI (v)))] []
  have hT := hO.t
  have hc := hO.cnt
  obtain ⟨hi1, hi2⟩ := hi
  obtain ⟨hp1, hp2⟩ := hp
  obtain ⟨hv1, hv2⟩ := hv
  refine gg_aload_n k dX5_need_0 rfl ?_
  refine gg_iload_n k dX5_need_1 rfl ?_
  refine gg_calli (n := 1) (As := [.int (iI (i))]) (rest := []) k (kX5_isItem hB hO hR (i) ⟨by omega, by omega⟩) ⟨_, _, _, gX5_need_X5_isItem, rfl, rfl, rfl, by decide +kernel, by decide, by decide⟩ (cb0 hB) rfl rfl (Nat.le_of_ble_eq_true rfl) dX5_need_2 (fun z2 C2 r2 q2 => ?_)
  obtain ⟨q2, e2⟩ := q2
  rw [e2]
  clear e2
  obtain ⟨r2, s2⟩ := r2
  refine gg_if_eq k 16 dX5_need_5 (by decide) ⟨by omega, by omega⟩ (fun c5 => ?_) (fun c5 => ?_)
  · refine gg_iconst k dX5_need_16 ?_
    exact hret _ _ _ _ dX5_need_17 (⟨by omega, by omega⟩) (⟨by rw [gUpd_n (by rw [rIP_1 (by omega)]; omega)]; exact hR, by rw [gAns_n (by rw [rIP_1 (by omega)]; omega), rIP_1 (by omega)]⟩)
  · refine gg_aload_n k dX5_need_8 rfl ?_
    refine gg_iload_n k dX5_need_9 rfl ?_
    refine gg_calli (n := 1) (As := [.int (iI (p))]) (rest := []) k (kX5_isPeriod hB hO hR (p) ⟨by omega, by omega⟩) ⟨_, _, _, gX5_need_X5_isPeriod, rfl, rfl, rfl, by decide +kernel, by decide, by decide⟩ (cb0 hB) rfl rfl (Nat.le_of_ble_eq_true rfl) dX5_need_10 (fun z10 C10 r10 q10 => ?_)
    obtain ⟨q10, e10⟩ := q10
    rw [e10]
    clear e10
    obtain ⟨r10, s10⟩ := r10
    refine gg_if_ne k 18 dX5_need_13 (by decide) ⟨by omega, by omega⟩ (fun c13 => ?_) (fun c13 => ?_)
    · refine gg_aload_n k dX5_need_18 rfl ?_
      refine gg_get k (cb0 hB) inX5_need_X5 1 (by decide) fX5_need_26 rfl rfl dX5_need_19 ?_
      refine gg_iload_n k dX5_need_22 rfl ?_
      refine gg_aald k (cb1 hB) (by omega) (by omega) dX5_need_23 ?_
      refine gg_get k (cbItem hB (by omega) (by omega)) inX5_need_X2 1 (by decide) fX5_need_84 rfl rfl dX5_need_24 ?_
      refine gg_iload_n k dX5_need_27 rfl ?_
      refine gg_iload_n k dX5_need_28 rfl ?_
      refine gg_sipush k dX5_need_29 (by decide +kernel) ?_
      refine gg_callsi (n := 4) (As := [.ref (gad B (4 + 9 * (i).toNat)), .int (iI (p)), .int (iI (v)), .int (iI (1000))]) (rest := []) k (kX5_replace (4 + 9 * (i).toNat) _ (cbNee hB (by omega) (by omega)) (p) (v) (1000) (by omega) (by omega) ⟨by omega, by omega⟩ ⟨by omega, by omega⟩ (by rw [hR.nee _ (by omega) (by omega)]; have := hO.nee i p; exact ⟨by omega, by omega⟩)) ⟨_, _, _, gX5_need_X5_replace, rfl, rfl, rfl, by decide +kernel, by decide, by decide⟩ rfl rfl (Nat.le_of_ble_eq_true rfl) dX5_need_32 (fun z32 C32 r32 q32 => ?_)
      obtain ⟨r32, s32⟩ := r32
      exact hret _ _ _ _ dX5_need_35 (⟨by omega, by omega⟩) (by
        rw [gUpd_0 (rIP_0 (by omega)), gAns_0 (rIP_0 (by omega))]
        rcases q32 with ⟨w1, w2, w3⟩ | ⟨w1, w2, w3⟩
        · rw [uUp_2 w1, aUp_2 w1, w3]; exact ⟨hR, w2⟩
        · rw [uUp_0 w1, aUp_0 w1, w3, w2]; exact ⟨hR.up (n := 1) (by omega) (by omega) (by omega), hR.nee _ (by omega) (by omega)⟩)
    · refine gg_iconst k dX5_need_16 ?_
      exact hret _ _ _ _ dX5_need_17 (⟨by omega, by omega⟩) (⟨by rw [gUpd_n (by rw [rIP_1 (by omega)]; omega)]; exact hR, by rw [gAns_n (by rw [rIP_1 (by omega)]; omega), rIP_1 (by omega)]⟩)

abbrev rX5_make : Room := { frames := 1, cells := 0, slots := 0, locals := 24 }
set_option maxRecDepth 100000 in
set_option maxHeartbeats 4000000 in
theorem kX5_make {l : Launch} {B : gB} {T : Int} {S : sS} {C : gSt} (hB : clsB B T) (hO : sOk S T) (hR : cRel S T C) (i p v : Int) (hi : rI i) (hp : rI p) (hv : rI v) : gMi l B yX5_make wsX5_make rX5_make [.ref (gad B (0)), .int (iI (i)), .int (iI (p)), .int (iI (v))] C (fun z C' => cRel (gUpd (rIP S T i p) S (uUp S 2 i p v 5000)) T C' ∧ z = gAns (rIP S T i p) (aUp S 2 i p v 5000)) := by
  refine gMi_of (ty := .int) rfl (cc := cX5_make) (nL := 4) (by decide) rfl (Nat.le_of_ble_eq_true rfl) (fun K k hret => ?_)
  have k : gOk K B l rX5_make 4 cX5_make RX5 wsX5_make := k
  show GG K B C 0 [(0, .ref (gad B (0))), (1, .int (iI (i))), (2, .int (iI (p))), (3, .int (iI (v)))] []
  have hT := hO.t
  have hc := hO.cnt
  obtain ⟨hi1, hi2⟩ := hi
  obtain ⟨hp1, hp2⟩ := hp
  obtain ⟨hv1, hv2⟩ := hv
  refine gg_aload_n k dX5_make_0 rfl ?_
  refine gg_iload_n k dX5_make_1 rfl ?_
  refine gg_calli (n := 1) (As := [.int (iI (i))]) (rest := []) k (kX5_isItem hB hO hR (i) ⟨by omega, by omega⟩) ⟨_, _, _, gX5_make_X5_isItem, rfl, rfl, rfl, by decide +kernel, by decide, by decide⟩ (cb0 hB) rfl rfl (Nat.le_of_ble_eq_true rfl) dX5_make_2 (fun z2 C2 r2 q2 => ?_)
  obtain ⟨q2, e2⟩ := q2
  rw [e2]
  clear e2
  obtain ⟨r2, s2⟩ := r2
  refine gg_if_eq k 16 dX5_make_5 (by decide) ⟨by omega, by omega⟩ (fun c5 => ?_) (fun c5 => ?_)
  · refine gg_iconst k dX5_make_16 ?_
    exact hret _ _ _ _ dX5_make_17 (⟨by omega, by omega⟩) (⟨by rw [gUpd_n (by rw [rIP_1 (by omega)]; omega)]; exact hR, by rw [gAns_n (by rw [rIP_1 (by omega)]; omega), rIP_1 (by omega)]⟩)
  · refine gg_aload_n k dX5_make_8 rfl ?_
    refine gg_iload_n k dX5_make_9 rfl ?_
    refine gg_calli (n := 1) (As := [.int (iI (p))]) (rest := []) k (kX5_isPeriod hB hO hR (p) ⟨by omega, by omega⟩) ⟨_, _, _, gX5_make_X5_isPeriod, rfl, rfl, rfl, by decide +kernel, by decide, by decide⟩ (cb0 hB) rfl rfl (Nat.le_of_ble_eq_true rfl) dX5_make_10 (fun z10 C10 r10 q10 => ?_)
    obtain ⟨q10, e10⟩ := q10
    rw [e10]
    clear e10
    obtain ⟨r10, s10⟩ := r10
    refine gg_if_ne k 18 dX5_make_13 (by decide) ⟨by omega, by omega⟩ (fun c13 => ?_) (fun c13 => ?_)
    · refine gg_aload_n k dX5_make_18 rfl ?_
      refine gg_get k (cb0 hB) inX5_make_X5 1 (by decide) fX5_make_26 rfl rfl dX5_make_19 ?_
      refine gg_iload_n k dX5_make_22 rfl ?_
      refine gg_aald k (cb1 hB) (by omega) (by omega) dX5_make_23 ?_
      refine gg_get k (cbItem hB (by omega) (by omega)) inX5_make_X2 2 (by decide) fX5_make_94 rfl rfl dX5_make_24 ?_
      refine gg_iload_n k dX5_make_27 rfl ?_
      refine gg_iload_n k dX5_make_28 rfl ?_
      refine gg_sipush k dX5_make_29 (by decide +kernel) ?_
      refine gg_callsi (n := 4) (As := [.ref (gad B (5 + 9 * (i).toNat)), .int (iI (p)), .int (iI (v)), .int (iI (5000))]) (rest := []) k (kX5_replace (5 + 9 * (i).toNat) _ (cbLot hB (by omega) (by omega)) (p) (v) (5000) (by omega) (by omega) ⟨by omega, by omega⟩ ⟨by omega, by omega⟩ (by rw [hR.lot _ (by omega) (by omega)]; have := hO.lot i p; exact ⟨by omega, by omega⟩)) ⟨_, _, _, gX5_make_X5_replace, rfl, rfl, rfl, by decide +kernel, by decide, by decide⟩ rfl rfl (Nat.le_of_ble_eq_true rfl) dX5_make_32 (fun z32 C32 r32 q32 => ?_)
      obtain ⟨r32, s32⟩ := r32
      exact hret _ _ _ _ dX5_make_35 (⟨by omega, by omega⟩) (by
        rw [gUpd_0 (rIP_0 (by omega)), gAns_0 (rIP_0 (by omega))]
        rcases q32 with ⟨w1, w2, w3⟩ | ⟨w1, w2, w3⟩
        · rw [uUp_2 w1, aUp_2 w1, w3]; exact ⟨hR, w2⟩
        · rw [uUp_0 w1, aUp_0 w1, w3, w2]; exact ⟨hR.up (n := 2) (by omega) (by omega) (by omega), hR.lot _ (by omega) (by omega)⟩)
    · refine gg_iconst k dX5_make_16 ?_
      exact hret _ _ _ _ dX5_make_17 (⟨by omega, by omega⟩) (⟨by rw [gUpd_n (by rw [rIP_1 (by omega)]; omega)]; exact hR, by rw [gAns_n (by rw [rIP_1 (by omega)]; omega), rIP_1 (by omega)]⟩)
end
section
/-! ===== masks of six bits ===== -/
def b2 (i : Int) : Int := ((2 ^ i.toNat : Nat) : Int)
def bOr (a b : Int) : Int := ((a.toNat ||| b.toNat : Nat) : Int)
def bAnd (a b : Int) : Int := ((a.toNat &&& b.toNat : Nat) : Int)
def sb (m j : Int) : Bool := m.toNat.testBit j.toNat
theorem bt_or : ∀ a, a < 64 → ∀ b, b < 64 → (nI a ||| nI b) = nI (a ||| b) := by decide +kernel
theorem bt_and : ∀ a, a < 64 → ∀ b, b < 64 → (nI a &&& nI b) = nI (a &&& b) := by decide +kernel
theorem bt_shl : ∀ i, i < 6 → ((1 : Int32) <<< (nI i &&& 31)) = nI (2 ^ i) := by decide +kernel
theorem bt_orlt : ∀ a, a < 64 → ∀ b, b < 64 → (a ||| b) < 64 := by decide +kernel
theorem bt_andlt : ∀ a, a < 64 → ∀ b, b < 64 → (a &&& b) < 64 := by decide +kernel
theorem bt_pw : ∀ i, i < 6 → 2 ^ i < 64 := by decide +kernel
theorem bt_tb : ∀ a, a < 64 → ∀ i, i < 6 → ((a &&& 2 ^ i) = 0 ↔ a.testBit i = false) := by decide +kernel
theorem iI_toN {a : Int} (h : 0 ≤ a) : iI a = nI a.toNat := by rw [← iI_nI, Int.toNat_of_nonneg h]
theorem b2_b {i : Int} (h0 : 0 ≤ i) (h6 : i < 6) : 0 ≤ b2 i ∧ b2 i < 64 := by
  have := bt_pw i.toNat (by omega)
  unfold b2
  generalize 2 ^ i.toNat = x at this ⊢
  omega
theorem bOr_b {a b : Int} (ha : 0 ≤ a ∧ a < 64) (hb : 0 ≤ b ∧ b < 64) : 0 ≤ bOr a b ∧ bOr a b < 64 := by
  have := bt_orlt a.toNat (by omega) b.toNat (by omega)
  unfold bOr
  omega
theorem bAnd_b {a b : Int} (ha : 0 ≤ a ∧ a < 64) (hb : 0 ≤ b ∧ b < 64) : 0 ≤ bAnd a b ∧ bAnd a b < 64 := by
  have := bt_andlt a.toNat (by omega) b.toNat (by omega)
  unfold bAnd
  omega
theorem bAnd_0 {m i : Int} (hm : 0 ≤ m ∧ m < 64) (h0 : 0 ≤ i) (h6 : i < 6) : bAnd m (b2 i) = 0 ↔ sb m i = false := by
  unfold bAnd b2 sb
  rw [Int.toNat_natCast, ← bt_tb m.toNat (by omega) i.toNat (by omega)]
  omega
theorem sb_or {a b j : Int} : sb (bOr a b) j = (sb a j || sb b j) := by
  unfold sb bOr
  rw [Int.toNat_natCast, Nat.testBit_or]
theorem sb_b2 {i j : Int} (hi : 0 ≤ i) (hj : 0 ≤ j) : sb (b2 i) j = decide (i = j) := by
  unfold sb b2
  rw [Int.toNat_natCast, Nat.testBit_two_pow]
  by_cases h : i = j
  · rw [h]; simp
  · rw [decide_eq_false h, decide_eq_false (by omega)]
theorem sb_0 {j : Int} : sb 0 j = false := by unfold sb; simp
section GGB
variable {K : gK} {B : gB} {C : gSt} {l : Launch} {R : Room} {nL : Nat} {cc : ByteArray} {own : String} {Ts : List Cond} {pc : Nat} {lv : gLv} {st : List Value}
theorem gg_ishl (k : gOk K B l R nL cc own Ts) {i : Int} (h0 : 0 ≤ i) (h6 : i < 6) (hd : decode cc pc = .ok (.ishl, 1)) (h : GG K B C (pc + 1) lv (.int (iI (b2 i)) :: st)) : GG K B C pc lv (.int (iI i) :: .int (iI 1) :: st) :=
  gg_go k (fun _ _ _ _ _ _ _ _ _ _ _ _ hx hb _ _ _ _ hw => lv_ishl hx hb hd (by
    have e : (iI 1 <<< (iI i &&& 31)) = iI (b2 i) := by
      rw [iI_toN h0, show iI 1 = 1 by decide +kernel, bt_shl i.toNat (by omega)]
      unfold b2
      exact (iI_nI _).symm
    rw [e]; exact hw)) h
theorem gg_ior (k : gOk K B l R nL cc own Ts) {a b : Int} (ha : 0 ≤ a ∧ a < 64) (hb0 : 0 ≤ b ∧ b < 64) (hd : decode cc pc = .ok (.ior, 1)) (h : GG K B C (pc + 1) lv (.int (iI (bOr a b)) :: st)) : GG K B C pc lv (.int (iI b) :: .int (iI a) :: st) :=
  gg_go k (fun _ _ _ _ _ _ _ _ _ _ _ _ hx hb _ _ _ _ hw => lv_ior hx hb hd (by
    have e : (iI a ||| iI b) = iI (bOr a b) := by
      rw [iI_toN ha.1, iI_toN hb0.1, bt_or a.toNat (by omega) b.toNat (by omega)]
      unfold bOr
      exact (iI_nI _).symm
    rw [e]; exact hw)) h
theorem gg_iand (k : gOk K B l R nL cc own Ts) {a b : Int} (ha : 0 ≤ a ∧ a < 64) (hb0 : 0 ≤ b ∧ b < 64) (hd : decode cc pc = .ok (.iand, 1)) (h : GG K B C (pc + 1) lv (.int (iI (bAnd a b)) :: st)) : GG K B C pc lv (.int (iI b) :: .int (iI a) :: st) :=
  gg_go k (fun _ _ _ _ _ _ _ _ _ _ _ _ hx hb _ _ _ _ hw => lv_iand hx hb hd (by
    have e : (iI a &&& iI b) = iI (bAnd a b) := by
      rw [iI_toN ha.1, iI_toN hb0.1, bt_and a.toNat (by omega) b.toNat (by omega)]
      unfold bAnd
      exact (iI_nI _).symm
    rw [e]; exact hw)) h
end GGB
/-! ===== SET-UPS, TIME, OVER ===== -/
/-- for which item the machine stands, in period p, behind the first k items, b before -/
def sStI (S : sS) (p b : Int) : Nat → Int
  | 0 => b
  | k + 1 => if (k : Int) ≠ b ∧ 0 < sLot S k p then k else sStI S p b k
def sSt (S : sS) : Nat → Int
  | 0 => -3
  | n + 1 => sStI S ((n : Int) + 1) (sSt S n) (sCnt S).toNat
abbrev sSet (S : sS) (i p : Int) : Prop := i ≠ sSt S (p - 1).toNat ∧ 0 < sLot S i p
def sTimeN (S : sS) (p : Int) : Nat → Int
  | 0 => 0
  | k + 1 => sTimeN S p k + sLot S k p * sNum S k 5 + (if sSet S k p then sNum S k 6 else 0)
def sTime (S : sS) (p : Int) : Int := sTimeN S p (sCnt S).toNat
def sOver (S : sS) (p : Int) : Int := max 0 (sTime S p - sCap S p)
theorem sStI_b {S : sS} {p b : Int} : ∀ k : Nat, sStI S p b k = b ∨ (0 ≤ sStI S p b k ∧ sStI S p b k < (k : Int))
  | 0 => Or.inl rfl
  | k + 1 => by
    unfold sStI
    split
    · right; push_cast; omega
    · rcases sStI_b (S := S) (p := p) (b := b) k with h | h
      · exact Or.inl h
      · right; push_cast; omega
theorem sSt_b {S : sS} {T : Int} (h : sOk S T) : ∀ n : Nat, sSt S n = -3 ∨ (0 ≤ sSt S n ∧ sSt S n < 6)
  | 0 => Or.inl rfl
  | n + 1 => by
    have hc := h.cnt
    have i1 := sSt_b h n
    have i2 := sStI_b (S := S) (p := (n : Int) + 1) (b := sSt S n) (sCnt S).toNat
    have e : sSt S (n + 1) = sStI S ((n : Int) + 1) (sSt S n) (sCnt S).toNat := rfl
    omega
theorem sStI_s {S : sS} {p b j : Int} (h : 0 ≤ j) : sStI S p b (j + 1).toNat = if j ≠ b ∧ 0 < sLot S j p then j else sStI S p b j.toNat := by
  rw [show (j + 1).toNat = j.toNat + 1 by omega]
  show (if ((j.toNat : Nat) : Int) ≠ b ∧ _ then ((j.toNat : Nat) : Int) else _) = _
  rw [Int.toNat_of_nonneg h]
theorem sSt_s {S : sS} {p : Int} (h : 1 ≤ p) : sSt S p.toNat = sStI S p (sSt S (p - 1).toNat) (sCnt S).toNat := by
  rw [show p.toNat = (p - 1).toNat + 1 by omega]
  show sStI S (((p - 1).toNat : Nat) + 1 : Int) _ _ = _
  rw [show (((p - 1).toNat : Nat) : Int) + 1 = p by omega]
theorem sTimeN_s {S : sS} {p j : Int} (h : 0 ≤ j) : sTimeN S p (j + 1).toNat = sTimeN S p j.toNat + sLot S j p * sNum S j 5 + (if sSet S j p then sNum S j 6 else 0) := by
  rw [show (j + 1).toNat = j.toNat + 1 by omega]
  show sTimeN S p j.toNat + sLot S ((j.toNat : Nat) : Int) p * sNum S ((j.toNat : Nat) : Int) 5 + (if sSet S ((j.toNat : Nat) : Int) p then sNum S ((j.toNat : Nat) : Int) 6 else 0) = _
  rw [Int.toNat_of_nonneg h]
theorem sLT_b {S : sS} {T : Int} (h : sOk S T) (i p : Int) : 0 ≤ sLot S i p * sNum S i 5 ∧ sLot S i p * sNum S i 5 ≤ 100000 := by
  have h1 := h.lot i p
  have h2 := h.n5 i
  have h3 : sLot S i p * sNum S i 5 ≤ 5000 * 20 := Int.mul_le_mul h1.2 h2.2 h2.1 (by omega)
  exact ⟨Int.mul_nonneg h1.1 h2.1, by omega⟩
theorem sTimeN_b {S : sS} {T : Int} (h : sOk S T) (p : Int) : ∀ n : Nat, 0 ≤ sTimeN S p n ∧ sTimeN S p n ≤ 100200 * (n : Int)
  | 0 => by show (0 : Int) ≤ 0 ∧ (0 : Int) ≤ _; omega
  | n + 1 => by
    have ih := sTimeN_b h p n
    have h1 := sLT_b h n p
    have h2 := h.n6 n
    show 0 ≤ sTimeN S p n + sLot S n p * sNum S n 5 + (if _ then _ else _) ∧ sTimeN S p n + sLot S n p * sNum S n 5 + (if _ then _ else _) ≤ _
    split <;> (push_cast; omega)
theorem sTime_b {S : sS} {T : Int} (h : sOk S T) (p : Int) : 0 ≤ sTime S p ∧ sTime S p ≤ 601200 := by
  have h1 := sTimeN_b h p (sCnt S).toNat
  have h2 := h.cnt
  unfold sTime
  omega
theorem sOver_b {S : sS} {T : Int} (h : sOk S T) (p : Int) : 0 ≤ sOver S p ∧ sOver S p ≤ 601200 := by
  have h1 := sTime_b h p
  have h2 := h.cap p
  unfold sOver
  omega
/-- the machine has been followed through period n -/
def cMach (S : sS) (C : gSt) (n : Int) : Prop := (∀ j : Int, 0 ≤ j → j ≤ n → C 60 j = sSt S j.toNat) ∧ ∀ j : Int, 1 ≤ j → j ≤ n → (0 ≤ C 59 j ∧ C 59 j < 64) ∧ ∀ i : Int, 0 ≤ i → i < sCnt S → (sb (C 59 j) i = true ↔ sSet S i j)
end
section
theorem fX3_follow_9 : Cond.fieldLink RX3 9 "LotRules$Machine" (TX3 0).2.1 (TX3 0).2.2.1 ∈ wsX3_follow := by decide +kernel
theorem fX3_follow_15 : Cond.fieldLink RX3 15 "LotRules$Machine" (TX3 1).2.1 (TX3 1).2.2.1 ∈ wsX3_follow := by decide +kernel
theorem fX3_follow_18 : Cond.fieldLink RX3 18 "LotRules$Item" (TX2 2).2.1 (TX2 2).2.2.1 ∈ wsX3_follow := by decide +kernel
theorem fX3_setsUp_9 : Cond.fieldLink RX3 9 "LotRules$Machine" (TX3 0).2.1 (TX3 0).2.2.1 ∈ wsX3_setsUp := by decide +kernel
theorem fX5_isSetUp_26 : Cond.fieldLink RX5 26 "LotRules" (TX5 1).2.1 (TX5 1).2.2.1 ∈ wsX5_isSetUp := by decide +kernel
theorem fX5_isSetUp_33 : Cond.fieldLink RX5 33 "LotRules" (TX5 2).2.1 (TX5 2).2.2.1 ∈ wsX5_isSetUp := by decide +kernel
theorem fX5_isSetUp_49 : Cond.fieldLink RX5 49 "LotRules" (TX5 5).2.1 (TX5 5).2.2.1 ∈ wsX5_isSetUp := by decide +kernel
theorem fX5_overOf_36 : Cond.fieldLink RX5 36 "LotRules" (TX5 3).2.1 (TX5 3).2.2.1 ∈ wsX5_overOf := by decide +kernel
theorem fX5_stands_26 : Cond.fieldLink RX5 26 "LotRules" (TX5 1).2.1 (TX5 1).2.2.1 ∈ wsX5_stands := by decide +kernel
theorem fX5_stands_33 : Cond.fieldLink RX5 33 "LotRules" (TX5 2).2.1 (TX5 2).2.2.1 ∈ wsX5_stands := by decide +kernel
theorem fX5_stands_49 : Cond.fieldLink RX5 49 "LotRules" (TX5 5).2.1 (TX5 5).2.2.1 ∈ wsX5_stands := by decide +kernel
theorem fX5_stands_127 : Cond.fieldLink RX5 127 "LotRules$Machine" (TX3 1).2.1 (TX3 1).2.2.1 ∈ wsX5_stands := by decide +kernel
theorem fX5_timeOf_26 : Cond.fieldLink RX5 26 "LotRules" (TX5 1).2.1 (TX5 1).2.2.1 ∈ wsX5_timeOf := by decide +kernel
theorem fX5_timeOf_33 : Cond.fieldLink RX5 33 "LotRules" (TX5 2).2.1 (TX5 2).2.2.1 ∈ wsX5_timeOf := by decide +kernel
theorem fX5_timeOf_49 : Cond.fieldLink RX5 49 "LotRules" (TX5 5).2.1 (TX5 5).2.2.1 ∈ wsX5_timeOf := by decide +kernel
theorem fX5_timeOf_71 : Cond.fieldLink RX5 71 "LotRules$Item" (TX2 0).2.1 (TX2 0).2.2.1 ∈ wsX5_timeOf := by decide +kernel
theorem fX5_timeOf_94 : Cond.fieldLink RX5 94 "LotRules$Item" (TX2 2).2.1 (TX2 2).2.2.1 ∈ wsX5_timeOf := by decide +kernel
theorem inX3_follow_X2 : ∀ w ∈ u_ws RX2 TX2 5, w ∈ wsX3_follow := by decide +kernel
theorem inX3_follow_X3 : ∀ w ∈ u_ws RX3 TX3 2, w ∈ wsX3_follow := by decide +kernel
theorem inX3_setsUp_X3 : ∀ w ∈ u_ws RX3 TX3 2, w ∈ wsX3_setsUp := by decide +kernel
theorem inX5_isSetUp_X5 : ∀ w ∈ u_ws RX5 TX5 8, w ∈ wsX5_isSetUp := by decide +kernel
theorem inX5_overOf_X5 : ∀ w ∈ u_ws RX5 TX5 8, w ∈ wsX5_overOf := by decide +kernel
theorem inX5_stands_X3 : ∀ w ∈ u_ws RX3 TX3 2, w ∈ wsX5_stands := by decide +kernel
theorem inX5_stands_X5 : ∀ w ∈ u_ws RX5 TX5 8, w ∈ wsX5_stands := by decide +kernel
theorem inX5_timeOf_X2 : ∀ w ∈ u_ws RX2 TX2 5, w ∈ wsX5_timeOf := by decide +kernel
theorem inX5_timeOf_X5 : ∀ w ∈ u_ws RX5 TX5 8, w ∈ wsX5_timeOf := by decide +kernel
theorem mX5_overOf_184 : Cond.methodLink RX5 184 Lib.MathLoose.max_long.x ∈ wsX5_overOf ∧ Cond.static Lib.MathLoose.max_long.x ∈ wsX5_overOf ∧ Cond.initialized "java/lang/Math" ∈ wsX5_overOf ∧ Cond.code Lib.MathLoose.max_long.x Lib.MathLoose.max_long.code 4 (some .long) ∈ wsX5_overOf := by decide +kernel
end
section
abbrev rX3_follow : Room := { frames := 0, cells := 0, slots := 0, locals := 0 }
set_option maxRecDepth 100000 in
set_option maxHeartbeats 4000000 in
theorem kX3_follow {l : Launch} {B : gB} {T : Int} {S : sS} {C : gSt} (hB : clsB B T) (hO : sOk S T) (hR : cRel S T C)  : gMv l B yX3_follow wsX3_follow rX3_follow [.ref (gad B (58)), .ref (gad B (1)), .int (iI (sCnt S))] C (fun C' => cRel S T C' ∧ cMach S C' T ∧ ∀ q : Nat, q ≠ 59 → q ≠ 60 → C' q = C q) := by
  refine gMv_of (cc := cX3_follow) (nL := 6) (by decide) rfl (Nat.le_of_ble_eq_true rfl) (fun K k hret => ?_)
  have k : gOk K B l rX3_follow 6 cX3_follow RX3 wsX3_follow := k
  show GG K B C 0 [(0, .ref (gad B (58))), (1, .ref (gad B (1))), (2, .int (iI (sCnt S)))] []
  have hT := hO.t
  have hc := hO.cnt
  
  refine gg_iconst k dX3_follow_0 ?_
  refine gg_istore_n k [(3, .int (iI (1))), (0, .ref (gad B (58))), (1, .ref (gad B (1))), (2, .int (iI (sCnt S)))] dX3_follow_1 (by decide) rfl ?_
  have L2 : ∀ (n2 : Nat) (p : Int) (C1 : gSt), 1 ≤ p → p ≤ T + 1 → cRel S T C1 → cMach S C1 (p - 1) → (∀ q : Nat, q ≠ 59 → q ≠ 60 → C1 q = C q) → T + 1 - p < (n2 : Int) → GG K B C1 2 [(0, .ref (gad B (58))), (1, .ref (gad B (1))), (2, .int (iI (sCnt S))), (3, .int (iI (p)))] [] := by
    intro n2
    induction n2 with
    | zero =>
      intro p C1 hp0 hp1 hR hm1 hk1 hn2
      exact absurd hn2 (by omega)
    | succ n2 ih2 =>
      intro p C1 hp0 hp1 hR hm1 hk1 hn2
      refine gg_iload_n k dX3_follow_2 rfl ?_
      refine gg_aload_n k dX3_follow_3 rfl ?_
      refine gg_get k (cbMach hB) inX3_follow_X3 1 (by decide) fX3_follow_15 rfl rfl dX3_follow_4 ?_
      refine gg_ilen k (cbStanding hB) dX3_follow_7 ?_
      refine gg_icmp_ge k 97 dX3_follow_8 (by decide) ⟨by omega, by omega⟩ ⟨by omega, by omega⟩ (fun c8 => ?_) (fun c8 => ?_)
      · exact hret _ _ _ dX3_follow_97 (⟨hR, by rw [show T = p - 1 by omega]; exact hm1, hk1⟩)
      · refine gg_aload_n k dX3_follow_11 rfl ?_
        refine gg_get k (cbMach hB) inX3_follow_X3 1 (by decide) fX3_follow_15 rfl rfl dX3_follow_12 ?_
        refine gg_iload_n k dX3_follow_15 rfl ?_
        refine gg_iconst k dX3_follow_16 ?_
        refine gg_isub k dX3_follow_17 ?_
        refine gg_iald k (cbStanding hB) (by omega) (by omega) dX3_follow_18 ?_
        refine gg_ti (hm1.1 (p - 1) (by omega) (by omega)) ?_
        have hsb := sSt_b hO (p - 1).toNat
        refine gg_istore k [(4, .int (iI ((sSt S (p - 1).toNat)))), (0, .ref (gad B (58))), (1, .ref (gad B (1))), (2, .int (iI (sCnt S))), (3, .int (iI (p)))] dX3_follow_19 (by decide) rfl ?_
        refine gg_aload_n k dX3_follow_21 rfl ?_
        refine gg_get k (cbMach hB) inX3_follow_X3 0 (by decide) fX3_follow_9 rfl rfl dX3_follow_22 ?_
        refine gg_iload_n k dX3_follow_25 rfl ?_
        refine gg_iconst k dX3_follow_26 ?_
        refine gg_iast k (cbSetUps hB) (by omega) (by omega) dX3_follow_27 ?_
        refine gg_nm (fun C27 e27 => ?_)
        have hR : cRel S T C27 := by rw [e27]; exact hR.wri (Or.inl (by unfold scr; omega))
        refine gg_aload_n k dX3_follow_28 rfl ?_
        refine gg_get k (cbMach hB) inX3_follow_X3 1 (by decide) fX3_follow_15 rfl rfl dX3_follow_29 ?_
        refine gg_iload_n k dX3_follow_32 rfl ?_
        refine gg_iload k dX3_follow_33 rfl ?_
        refine gg_iast k (cbStanding hB) (by omega) (by omega) dX3_follow_35 ?_
        refine gg_nm (fun C35 e35 => ?_)
        have hR : cRel S T C35 := by rw [e35]; exact hR.wri (Or.inr (Or.inl ⟨rfl, by omega⟩))
        have h59 : C35 59 p = 0 := by rw [e35, wr_k (by omega), e27, wr_s]
        refine gg_iconst k dX3_follow_36 ?_
        refine gg_istore k [(5, .int (iI (0))), (4, .int (iI ((sSt S (p - 1).toNat)))), (0, .ref (gad B (58))), (1, .ref (gad B (1))), (2, .int (iI (sCnt S))), (3, .int (iI (p)))] dX3_follow_37 (by decide) rfl ?_
        have L39 : ∀ (n39 : Nat) (x : Int) (C2 : gSt), 0 ≤ x → x ≤ sCnt S → cRel S T C2 → C2 60 p = sStI S p (sSt S (p - 1).toNat) x.toNat → 0 ≤ C2 59 p ∧ C2 59 p < 64 → (∀ y : Int, 0 ≤ y → y < 6 → (sb (C2 59 p) y = true ↔ y < x ∧ sSet S y p)) → (∀ j : Int, j ≠ p → C2 60 j = C1 60 j ∧ C2 59 j = C1 59 j) → (∀ q : Nat, q ≠ 59 → q ≠ 60 → C2 q = C q) → sCnt S - x < (n39 : Int) → GG K B C2 39 [(0, .ref (gad B (58))), (1, .ref (gad B (1))), (2, .int (iI (sCnt S))), (3, .int (iI (p))), (4, .int (iI ((sSt S (p - 1).toNat)))), (5, .int (iI (x)))] [] := by
          intro n39
          induction n39 with
          | zero =>
            intro x C2 hx0 hx1 hR hs2 hb2 hbt ho2 hk2 hn39
            exact absurd hn39 (by omega)
          | succ n39 ih39 =>
            intro x C2 hx0 hx1 hR hs2 hb2 hbt ho2 hk2 hn39
            refine gg_iload k dX3_follow_39 rfl ?_
            refine gg_iload_n k dX3_follow_41 rfl ?_
            refine gg_icmp_ge k 91 dX3_follow_42 (by decide) ⟨by omega, by omega⟩ ⟨by omega, by omega⟩ (fun c42 => ?_) (fun c42 => ?_)
            · have hxe : x = sCnt S := by omega
              have hm9 : cMach S C2 p := by
                refine ⟨fun j h0 h1 => ?_, fun j h0 h1 => ?_⟩
                · by_cases hj : j = p
                  · rw [hj, hs2, hxe]; exact (sSt_s (by omega)).symm
                  · rw [(ho2 j hj).1]; exact hm1.1 j h0 (by omega)
                · by_cases hj : j = p
                  · rw [hj]
                    exact ⟨hb2, fun y h2 h3 => by rw [hbt y h2 (by omega)]; exact ⟨fun w => w.2, fun w => ⟨by omega, w⟩⟩⟩
                  · rw [(ho2 j hj).2]; exact hm1.2 j h0 (by omega)
              have hk9 := hk2
              refine gg_iinc k 3 [(3, .int (iI (p + 1))), (0, .ref (gad B (58))), (1, .ref (gad B (1))), (2, .int (iI (sCnt S))), (4, .int (iI ((sSt S (p - 1).toNat)))), (5, .int (iI (x)))] dX3_follow_91 rfl (by decide) rfl ?_
              refine gg_goto (tgt := 2) k dX3_follow_94 (by decide) ?_
              refine gg_sub [1, 2, 3, 0] rfl ?_
              exact ih2 (p + 1) (C2) (by omega) (by omega) (hR) (by rw [show p + 1 - 1 = p by omega]; exact hm9) (hk9) (by omega)
            · refine gg_iload k dX3_follow_45 rfl ?_
              refine gg_iload k dX3_follow_47 rfl ?_
              refine gg_icmp_eq k 85 dX3_follow_49 (by decide) ⟨by omega, by omega⟩ ⟨by omega, by omega⟩ (fun c49 => ?_) (fun c49 => ?_)
              · refine gg_iinc k 5 [(5, .int (iI (x + 1))), (0, .ref (gad B (58))), (1, .ref (gad B (1))), (2, .int (iI (sCnt S))), (3, .int (iI (p))), (4, .int (iI ((sSt S (p - 1).toNat))))] dX3_follow_85 rfl (by decide) rfl ?_
                refine gg_goto (tgt := 39) k dX3_follow_88 (by decide) ?_
                refine gg_sub [1, 2, 3, 4, 5, 0] rfl ?_
                exact ih39 (x + 1) (C2) (by omega) (by omega) (hR) (by rw [sStI_s hx0, if_neg (by omega)]; exact hs2) (hb2) (fun y h0 h1 => by rw [hbt y h0 h1]; by_cases hy : y = x; (· rw [hy]; exact ⟨fun w => by omega, fun w => absurd w.2 (by omega)⟩); (· exact ⟨fun w => ⟨by omega, w.2⟩, fun w => ⟨by omega, w.2⟩⟩)) (ho2) (hk2) (by omega)
              · refine gg_aload_n k dX3_follow_52 rfl ?_
                refine gg_iload k dX3_follow_53 rfl ?_
                refine gg_aald k (cb1 hB) (by omega) (by omega) dX3_follow_55 ?_
                refine gg_get k (cbItem hB (by omega) (by omega)) inX3_follow_X2 2 (by decide) fX3_follow_18 rfl rfl dX3_follow_56 ?_
                refine gg_iload_n k dX3_follow_59 rfl ?_
                refine gg_iald k (cbLot hB (by omega) (by omega)) (by omega) (by omega) dX3_follow_60 ?_
                refine gg_ti (hR.lot _ (by omega) (by omega)) ?_
                have b60 := hO.lot (x) (p)
                refine gg_if_le k 85 dX3_follow_61 (by decide) ⟨by omega, by omega⟩ (fun c61 => ?_) (fun c61 => ?_)
                · refine gg_iinc k 5 [(5, .int (iI (x + 1))), (0, .ref (gad B (58))), (1, .ref (gad B (1))), (2, .int (iI (sCnt S))), (3, .int (iI (p))), (4, .int (iI ((sSt S (p - 1).toNat))))] dX3_follow_85 rfl (by decide) rfl ?_
                  refine gg_goto (tgt := 39) k dX3_follow_88 (by decide) ?_
                  refine gg_sub [1, 2, 3, 4, 5, 0] rfl ?_
                  exact ih39 (x + 1) (C2) (by omega) (by omega) (hR) (by rw [sStI_s hx0, if_neg (by omega)]; exact hs2) (hb2) (fun y h0 h1 => by rw [hbt y h0 h1]; by_cases hy : y = x; (· rw [hy]; exact ⟨fun w => by omega, fun w => absurd w.2 (by omega)⟩); (· exact ⟨fun w => ⟨by omega, w.2⟩, fun w => ⟨by omega, w.2⟩⟩)) (ho2) (hk2) (by omega)
                · refine gg_aload_n k dX3_follow_64 rfl ?_
                  refine gg_get k (cbMach hB) inX3_follow_X3 0 (by decide) fX3_follow_9 rfl rfl dX3_follow_65 ?_
                  refine gg_iload_n k dX3_follow_68 rfl ?_
                  refine gg_dup2 k dX3_follow_69 rfl rfl ?_
                  refine gg_iald k (cbSetUps hB) (by omega) (by omega) dX3_follow_70 ?_
                  refine gg_iconst k dX3_follow_71 ?_
                  refine gg_iload k dX3_follow_72 rfl ?_
                  refine gg_ishl k (by omega) (by omega) dX3_follow_74 ?_
                  have b74 := b2_b (i := x) (by omega) (by omega)
                  refine gg_ior k (by omega) (by omega) dX3_follow_75 ?_
                  have b75 := bOr_b (a := C2 (59) (p)) (b := b2 x) (by omega) (by omega)
                  refine gg_iast k (cbSetUps hB) (by omega) (by omega) dX3_follow_76 ?_
                  refine gg_nm (fun C76 e76 => ?_)
                  have hR : cRel S T C76 := by rw [e76]; exact hR.wri (Or.inl (by unfold scr; omega))
                  refine gg_aload_n k dX3_follow_77 rfl ?_
                  refine gg_get k (cbMach hB) inX3_follow_X3 1 (by decide) fX3_follow_15 rfl rfl dX3_follow_78 ?_
                  refine gg_iload_n k dX3_follow_81 rfl ?_
                  refine gg_iload k dX3_follow_82 rfl ?_
                  refine gg_iast k (cbStanding hB) (by omega) (by omega) dX3_follow_84 ?_
                  refine gg_nm (fun C84 e84 => ?_)
                  have hR : cRel S T C84 := by rw [e84]; exact hR.wri (Or.inr (Or.inl ⟨rfl, by omega⟩))
                  have h59b : C84 59 p = bOr (C2 59 p) (b2 x) := by rw [e84, wr_k (by omega), e76, wr_s]
                  refine gg_iinc k 5 [(5, .int (iI (x + 1))), (0, .ref (gad B (58))), (1, .ref (gad B (1))), (2, .int (iI (sCnt S))), (3, .int (iI (p))), (4, .int (iI ((sSt S (p - 1).toNat))))] dX3_follow_85 rfl (by decide) rfl ?_
                  refine gg_goto (tgt := 39) k dX3_follow_88 (by decide) ?_
                  refine gg_sub [1, 2, 3, 4, 5, 0] rfl ?_
                  exact ih39 (x + 1) (C84) (by omega) (by omega) (hR) (by rw [e84, wr_s, sStI_s hx0, if_pos (by omega)]) (by rw [h59b]; exact bOr_b hb2 (b2_b (by omega) (by omega))) (fun y h0 h1 => by rw [h59b, sb_or, sb_b2 hx0 h0, Bool.or_eq_true, hbt y h0 h1, decide_eq_true_eq]; by_cases hy : y = x; (· rw [hy]; exact ⟨fun _ => ⟨by omega, by omega, by omega⟩, fun _ => Or.inr rfl⟩); (· exact ⟨fun w => by rcases w with w | w; (· exact ⟨by omega, w.2⟩); (· omega), fun w => Or.inl ⟨by omega, w.2⟩⟩)) (fun j hj => ⟨by rw [e84, wr_j hj, e76, wr_k (by omega)]; exact (ho2 j hj).1, by rw [e84, wr_k (by omega), e76, wr_j hj]; exact (ho2 j hj).2⟩) (fun q h1 h2 => by rw [e84, wr_k h2, e76, wr_k h1]; exact hk2 q h1 h2) (by omega)
        refine gg_sub [2, 3, 4, 5, 1, 0] rfl ?_
        exact L39 ((sCnt S - 0).toNat + 1) (0) (C35) (by omega) (by omega) (hR) (by rw [e35, wr_s]; rfl) (by rw [h59]; omega) (fun y h0 h1 => by rw [h59, sb_0]; exact ⟨fun h => (by cases h), fun h => (by omega)⟩) (fun j hj => ⟨by rw [e35, wr_j hj, e27, wr_k (by omega)], by rw [e35, wr_k (by omega), e27, wr_j hj]⟩) (fun q h1 h2 => by rw [e35, wr_k h2, e27, wr_k h1]; exact hk1 q h1 h2) (by omega)
  refine gg_sub [1, 2, 3, 0] rfl ?_
  exact L2 ((T + 1 - 1).toNat + 1) (1) (C) (by omega) (by omega) (hR) (⟨fun j h0 h1 => by rw [show j = 0 by omega]; exact hR.st0, fun j h0 h1 => by omega⟩) (fun _ _ _ => rfl) (by omega)

abbrev rX3_setsUp : Room := { frames := 0, cells := 0, slots := 0, locals := 0 }
set_option maxRecDepth 100000 in
set_option maxHeartbeats 4000000 in
theorem kX3_setsUp {l : Launch} {B : gB} {T : Int} {S : sS} {C : gSt} (hB : clsB B T) (hO : sOk S T) (hR : cRel S T C) (hm : cMach S C T) (i p : Int) (hi0 : 0 ≤ i) (hi1 : i < sCnt S) (hp0 : 1 ≤ p) (hp1 : p ≤ T) : gMi l B yX3_setsUp wsX3_setsUp rX3_setsUp [.ref (gad B (58)), .int (iI (i)), .int (iI (p))] C (fun z C' => ((z = 1 ∧ sSet S i p) ∨ (z = 0 ∧ ¬ sSet S i p)) ∧ C' = C) := by
  refine gMz_of (cc := cX3_setsUp) (nL := 3) (by decide) rfl (Nat.le_of_ble_eq_true rfl) (fun z C' h => by omega) (fun K k hret => ?_)
  have k : gOk K B l rX3_setsUp 3 cX3_setsUp RX3 wsX3_setsUp := k
  show GG K B C 0 [(0, .ref (gad B (58))), (1, .int (iI (i))), (2, .int (iI (p)))] []
  have hT := hO.t
  have hc := hO.cnt
  obtain ⟨hmb, hmi⟩ := hm.2 p hp0 hp1
  have hmi := hmi i hi0 hi1
  refine gg_aload_n k dX3_setsUp_0 rfl ?_
  refine gg_get k (cbMach hB) inX3_setsUp_X3 0 (by decide) fX3_setsUp_9 rfl rfl dX3_setsUp_1 ?_
  refine gg_iload_n k dX3_setsUp_4 rfl ?_
  refine gg_iald k (cbSetUps hB) (by omega) (by omega) dX3_setsUp_5 ?_
  refine gg_iconst k dX3_setsUp_6 ?_
  refine gg_iload_n k dX3_setsUp_7 rfl ?_
  refine gg_ishl k (by omega) (by omega) dX3_setsUp_8 ?_
  have b8 := b2_b (i := i) (by omega) (by omega)
  refine gg_iand k (by omega) (by omega) dX3_setsUp_9 ?_
  have b9 := bAnd_b (a := C (59) (p)) (b := b2 i) (by omega) (by omega)
  refine gg_if_eq k 17 dX3_setsUp_10 (by decide) ⟨by omega, by omega⟩ (fun c10 => ?_) (fun c10 => ?_)
  · refine gg_iconst k dX3_setsUp_17 ?_
    exact hret _ _ _ _ dX3_setsUp_18 (⟨by omega, by omega⟩) (⟨Or.inr ⟨rfl, fun w => by rw [(bAnd_0 hmb hi0 (by omega)).mp c10] at hmi; exact absurd (hmi.mpr w) (by decide)⟩, rfl⟩)
  · refine gg_iconst k dX3_setsUp_13 ?_
    refine gg_goto (tgt := 18) k dX3_setsUp_14 (by decide) ?_
    exact hret _ _ _ _ dX3_setsUp_18 (⟨by omega, by omega⟩) (⟨Or.inl ⟨rfl, hmi.mp (by cases hz : sb (C 59 p) i; (· exact absurd ((bAnd_0 hmb hi0 (by omega)).mpr hz) c10); (· rfl))⟩, rfl⟩)

abbrev rX5_isSetUp : Room := { frames := 1, cells := 0, slots := 0, locals := 25 }
set_option maxRecDepth 100000 in
set_option maxHeartbeats 4000000 in
theorem kX5_isSetUp {l : Launch} {B : gB} {T : Int} {S : sS} {C : gSt} (hB : clsB B T) (hO : sOk S T) (hR : cRel S T C) (i p : Int) (hi : rI i) (hp : rI p) : gMi l B yX5_isSetUp wsX5_isSetUp rX5_isSetUp [.ref (gad B (0)), .int (iI (i)), .int (iI (p))] C (fun z C' => cRel S T C' ∧ z = if (0 ≤ i ∧ i < sCnt S) ∧ 1 ≤ p ∧ p ≤ T then (if sSet S i p then 1 else 0) else -1) := by
  refine gMi_of (ty := .int) rfl (cc := cX5_isSetUp) (nL := 3) (by decide) rfl (Nat.le_of_ble_eq_true rfl) (fun K k hret => ?_)
  have k : gOk K B l rX5_isSetUp 3 cX5_isSetUp RX5 wsX5_isSetUp := k
  show GG K B C 0 [(0, .ref (gad B (0))), (1, .int (iI (i))), (2, .int (iI (p)))] []
  have hT := hO.t
  have hc := hO.cnt
  obtain ⟨hi1, hi2⟩ := hi
  obtain ⟨hp1, hp2⟩ := hp
  refine gg_aload_n k dX5_isSetUp_0 rfl ?_
  refine gg_iload_n k dX5_isSetUp_1 rfl ?_
  refine gg_calli (n := 1) (As := [.int (iI (i))]) (rest := []) k (kX5_isItem hB hO hR (i) ⟨by omega, by omega⟩) ⟨_, _, _, gX5_isSetUp_X5_isItem, rfl, rfl, rfl, by decide +kernel, by decide, by decide⟩ (cb0 hB) rfl rfl (Nat.le_of_ble_eq_true rfl) dX5_isSetUp_2 (fun z2 C2 r2 q2 => ?_)
  obtain ⟨q2, e2⟩ := q2
  rw [e2]
  clear e2
  obtain ⟨r2, s2⟩ := r2
  refine gg_if_eq k 16 dX5_isSetUp_5 (by decide) ⟨by omega, by omega⟩ (fun c5 => ?_) (fun c5 => ?_)
  · refine gg_iconst k dX5_isSetUp_16 ?_
    exact hret _ _ _ _ dX5_isSetUp_17 (⟨by omega, by omega⟩) (⟨hR, by rw [if_neg (by omega)]⟩)
  · refine gg_aload_n k dX5_isSetUp_8 rfl ?_
    refine gg_iload_n k dX5_isSetUp_9 rfl ?_
    refine gg_calli (n := 1) (As := [.int (iI (p))]) (rest := []) k (kX5_isPeriod hB hO hR (p) ⟨by omega, by omega⟩) ⟨_, _, _, gX5_isSetUp_X5_isPeriod, rfl, rfl, rfl, by decide +kernel, by decide, by decide⟩ (cb0 hB) rfl rfl (Nat.le_of_ble_eq_true rfl) dX5_isSetUp_10 (fun z10 C10 r10 q10 => ?_)
    obtain ⟨q10, e10⟩ := q10
    rw [e10]
    clear e10
    obtain ⟨r10, s10⟩ := r10
    refine gg_if_ne k 18 dX5_isSetUp_13 (by decide) ⟨by omega, by omega⟩ (fun c13 => ?_) (fun c13 => ?_)
    · refine gg_aload_n k dX5_isSetUp_18 rfl ?_
      refine gg_get k (cb0 hB) inX5_isSetUp_X5 5 (by decide) fX5_isSetUp_49 rfl rfl dX5_isSetUp_19 ?_
      refine gg_aload_n k dX5_isSetUp_22 rfl ?_
      refine gg_get k (cb0 hB) inX5_isSetUp_X5 1 (by decide) fX5_isSetUp_26 rfl rfl dX5_isSetUp_23 ?_
      refine gg_aload_n k dX5_isSetUp_26 rfl ?_
      refine gg_get k (cb0 hB) inX5_isSetUp_X5 2 (by decide) fX5_isSetUp_33 rfl rfl dX5_isSetUp_27 ?_
      refine gg_ti hR.cnt ?_
      refine gg_callv (n := 2) (As := [.ref (gad B (1)), .int (iI (sCnt S))]) (rest := []) k (kX3_follow hB hO hR) ⟨_, _, _, gX5_isSetUp_X3_follow, rfl, rfl, rfl, by decide +kernel, by decide, by decide⟩ (cbMach hB) rfl rfl (Nat.le_of_ble_eq_true rfl) dX5_isSetUp_30 (fun C30 q30 => ?_)
      obtain ⟨hR, hm30, hk30⟩ := q30
      refine gg_aload_n k dX5_isSetUp_33 rfl ?_
      refine gg_get k (cb0 hB) inX5_isSetUp_X5 5 (by decide) fX5_isSetUp_49 rfl rfl dX5_isSetUp_34 ?_
      refine gg_iload_n k dX5_isSetUp_37 rfl ?_
      refine gg_iload_n k dX5_isSetUp_38 rfl ?_
      refine gg_calli (n := 2) (As := [.int (iI (i)), .int (iI (p))]) (rest := []) k (kX3_setsUp hB hO hR hm30 (i) (p) (by omega) (by omega) (by omega) (by omega)) ⟨_, _, _, gX5_isSetUp_X3_setsUp, rfl, rfl, rfl, by decide +kernel, by decide, by decide⟩ (cbMach hB) rfl rfl (Nat.le_of_ble_eq_true rfl) dX5_isSetUp_39 (fun z39 C39 r39 q39 => ?_)
      obtain ⟨q39, e39⟩ := q39
      rw [e39]
      clear e39
      obtain ⟨r39, s39⟩ := r39
      refine gg_if_eq k 49 dX5_isSetUp_42 (by decide) ⟨by omega, by omega⟩ (fun c42 => ?_) (fun c42 => ?_)
      · refine gg_iconst k dX5_isSetUp_49 ?_
        exact hret _ _ _ _ dX5_isSetUp_50 (⟨by omega, by omega⟩) (⟨hR, by rw [if_pos (by omega), if_neg (by rcases q39 with w | w; (· omega); (· exact w.2))]⟩)
      · refine gg_iconst k dX5_isSetUp_45 ?_
        refine gg_goto (tgt := 50) k dX5_isSetUp_46 (by decide) ?_
        exact hret _ _ _ _ dX5_isSetUp_50 (⟨by omega, by omega⟩) (⟨hR, by rw [if_pos (by omega), if_pos (by rcases q39 with w | w; (· exact w.2); (· omega))]⟩)
    · refine gg_iconst k dX5_isSetUp_16 ?_
      exact hret _ _ _ _ dX5_isSetUp_17 (⟨by omega, by omega⟩) (⟨hR, by rw [if_neg (by omega)]⟩)

abbrev rX5_stands : Room := { frames := 2, cells := 0, slots := 0, locals := 42 }
set_option maxRecDepth 100000 in
set_option maxHeartbeats 4000000 in
theorem kX5_stands {l : Launch} {B : gB} {T : Int} {S : sS} {C : gSt} (hB : clsB B T) (hO : sOk S T) (hR : cRel S T C) (p : Int) (hp : rI p) : gMi l B yX5_stands wsX5_stands rX5_stands [.ref (gad B (0)), .int (iI (p))] C (fun z C' => cRel S T C' ∧ z = if 0 ≤ p ∧ p ≤ T then sSt S p.toNat else -1) := by
  refine gMi_of (ty := .int) rfl (cc := cX5_stands) (nL := 2) (by decide) rfl (Nat.le_of_ble_eq_true rfl) (fun K k hret => ?_)
  have k : gOk K B l rX5_stands 2 cX5_stands RX5 wsX5_stands := k
  show GG K B C 0 [(0, .ref (gad B (0))), (1, .int (iI (p)))] []
  have hT := hO.t
  have hc := hO.cnt
  obtain ⟨hp1, hp2⟩ := hp
  refine gg_aload_n k dX5_stands_0 rfl ?_
  refine gg_iload_n k dX5_stands_1 rfl ?_
  refine gg_calli (n := 1) (As := [.int (iI (p))]) (rest := []) k (kX5_isPeriodOrBeginning hB hO hR (p) ⟨by omega, by omega⟩) ⟨_, _, _, gX5_stands_X5_isPeriodOrBeginning, rfl, rfl, rfl, by decide +kernel, by decide, by decide⟩ (cb0 hB) rfl rfl (Nat.le_of_ble_eq_true rfl) dX5_stands_2 (fun z2 C2 r2 q2 => ?_)
  obtain ⟨q2, e2⟩ := q2
  rw [e2]
  clear e2
  obtain ⟨r2, s2⟩ := r2
  refine gg_if_ne k 10 dX5_stands_5 (by decide) ⟨by omega, by omega⟩ (fun c5 => ?_) (fun c5 => ?_)
  · refine gg_aload_n k dX5_stands_10 rfl ?_
    refine gg_get k (cb0 hB) inX5_stands_X5 5 (by decide) fX5_stands_49 rfl rfl dX5_stands_11 ?_
    refine gg_aload_n k dX5_stands_14 rfl ?_
    refine gg_get k (cb0 hB) inX5_stands_X5 1 (by decide) fX5_stands_26 rfl rfl dX5_stands_15 ?_
    refine gg_aload_n k dX5_stands_18 rfl ?_
    refine gg_get k (cb0 hB) inX5_stands_X5 2 (by decide) fX5_stands_33 rfl rfl dX5_stands_19 ?_
    refine gg_ti hR.cnt ?_
    refine gg_callv (n := 2) (As := [.ref (gad B (1)), .int (iI (sCnt S))]) (rest := []) k (kX3_follow hB hO hR) ⟨_, _, _, gX5_stands_X3_follow, rfl, rfl, rfl, by decide +kernel, by decide, by decide⟩ (cbMach hB) rfl rfl (Nat.le_of_ble_eq_true rfl) dX5_stands_22 (fun C22 q22 => ?_)
    obtain ⟨hR, hm22, hk22⟩ := q22
    refine gg_aload_n k dX5_stands_25 rfl ?_
    refine gg_get k (cb0 hB) inX5_stands_X5 5 (by decide) fX5_stands_49 rfl rfl dX5_stands_26 ?_
    refine gg_get k (cbMach hB) inX5_stands_X3 1 (by decide) fX5_stands_127 rfl rfl dX5_stands_29 ?_
    refine gg_iload_n k dX5_stands_32 rfl ?_
    refine gg_iald k (cbStanding hB) (by omega) (by omega) dX5_stands_33 ?_
    refine gg_ti (hm22.1 p (by omega) (by omega)) ?_
    have hb9 := sSt_b hO p.toNat
    exact hret _ _ _ _ dX5_stands_34 (⟨by omega, by omega⟩) (⟨hR, by rw [if_pos (by omega)]⟩)
  · refine gg_iconst k dX5_stands_8 ?_
    exact hret _ _ _ _ dX5_stands_9 (⟨by omega, by omega⟩) (⟨hR, by rw [if_neg (by omega)]⟩)

abbrev rX5_timeOf : Room := { frames := 1, cells := 0, slots := 0, locals := 22 }
set_option maxRecDepth 100000 in
set_option maxHeartbeats 4000000 in
theorem kX5_timeOf {l : Launch} {B : gB} {T : Int} {S : sS} {C : gSt} (hB : clsB B T) (hO : sOk S T) (hR : cRel S T C) (hm : cMach S C T) (p : Int) (hp0 : 1 ≤ p) (hp1 : p ≤ T) : gMl l B yX5_timeOf wsX5_timeOf rX5_timeOf [.ref (gad B (0)), .int (iI (p))] C (fun z C' => z = sTime S p ∧ C' = C) := by
  refine gMl_of (cc := cX5_timeOf) (nL := 5) (by decide) rfl (Nat.le_of_ble_eq_true rfl) (fun K k hret => ?_)
  have k : gOk K B l rX5_timeOf 5 cX5_timeOf RX5 wsX5_timeOf := k
  show GG K B C 0 [(0, .ref (gad B (0))), (1, .int (iI (p)))] []
  have hT := hO.t
  have hc := hO.cnt
  
  refine gg_lconst0 k dX5_timeOf_0 ?_
  refine gg_lstore_n k [(2, .long (iL (0))), (0, .ref (gad B (0))), (1, .int (iI (p)))] dX5_timeOf_1 (by decide) rfl ?_
  refine gg_iconst k dX5_timeOf_2 ?_
  refine gg_istore k [(4, .int (iI (0))), (2, .long (iL (0))), (0, .ref (gad B (0))), (1, .int (iI (p)))] dX5_timeOf_3 (by decide) rfl ?_
  have L5 : ∀ (n5 : Nat) (j : Int) (sm : Int), 0 ≤ j → j ≤ sCnt S → sm = sTimeN S p j.toNat → sCnt S - j < (n5 : Int) → GG K B C 5 [(0, .ref (gad B (0))), (1, .int (iI (p))), (2, .long (iL (sm))), (4, .int (iI (j)))] [] := by
    intro n5
    induction n5 with
    | zero =>
      intro j sm hj0 hj1 hs hn5
      exact absurd hn5 (by omega)
    | succ n5 ih5 =>
      intro j sm hj0 hj1 hs hn5
      refine gg_iload k dX5_timeOf_5 rfl ?_
      refine gg_aload_n k dX5_timeOf_7 rfl ?_
      refine gg_get k (cb0 hB) inX5_timeOf_X5 2 (by decide) fX5_timeOf_33 rfl rfl dX5_timeOf_8 ?_
      refine gg_ti hR.cnt ?_
      refine gg_icmp_ge k 79 dX5_timeOf_11 (by decide) ⟨by omega, by omega⟩ ⟨by omega, by omega⟩ (fun c11 => ?_) (fun c11 => ?_)
      · refine gg_lload_n k dX5_timeOf_79 rfl ?_
        exact hret _ _ _ _ dX5_timeOf_80 (by have := sTime_b hO p; unfold sTime at this; rw [hs, show j = sCnt S by omega]; exact ⟨by omega, by omega⟩) (⟨by unfold sTime; rw [hs, show j = sCnt S by omega], rfl⟩)
      · refine gg_lload_n k dX5_timeOf_14 rfl ?_
        refine gg_aload_n k dX5_timeOf_15 rfl ?_
        refine gg_get k (cb0 hB) inX5_timeOf_X5 1 (by decide) fX5_timeOf_26 rfl rfl dX5_timeOf_16 ?_
        refine gg_iload k dX5_timeOf_19 rfl ?_
        refine gg_aald k (cb1 hB) (by omega) (by omega) dX5_timeOf_21 ?_
        refine gg_get k (cbItem hB (by omega) (by omega)) inX5_timeOf_X2 2 (by decide) fX5_timeOf_94 rfl rfl dX5_timeOf_22 ?_
        refine gg_iload_n k dX5_timeOf_25 rfl ?_
        refine gg_iald k (cbLot hB (by omega) (by omega)) (by omega) (by omega) dX5_timeOf_26 ?_
        refine gg_ti (hR.lot _ (by omega) (by omega)) ?_
        have b26 := hO.lot (j) (p)
        refine gg_aload_n k dX5_timeOf_27 rfl ?_
        refine gg_get k (cb0 hB) inX5_timeOf_X5 1 (by decide) fX5_timeOf_26 rfl rfl dX5_timeOf_28 ?_
        refine gg_iload k dX5_timeOf_31 rfl ?_
        refine gg_aald k (cb1 hB) (by omega) (by omega) dX5_timeOf_33 ?_
        refine gg_get k (cbItem hB (by omega) (by omega)) inX5_timeOf_X2 0 (by decide) fX5_timeOf_71 rfl rfl dX5_timeOf_34 ?_
        refine gg_iconst k dX5_timeOf_37 ?_
        refine gg_iald k (cbNum hB (by omega) (by omega)) (by omega) (by omega) dX5_timeOf_38 ?_
        refine gg_ti (hR.num _ (by omega) (by omega)) ?_
        have b38 := hO.n5 (j)
        refine gg_imul k dX5_timeOf_39 ?_
        have hlt := sLT_b hO j p
        refine gg_i2l k dX5_timeOf_40 ⟨by omega, by omega⟩ ?_
        refine gg_ladd k dX5_timeOf_41 ?_
        refine gg_lstore_n k [(2, .long (iL (sm + ((sLot S (j) (p)) * (sNum S (j) (5)))))), (0, .ref (gad B (0))), (1, .int (iI (p))), (4, .int (iI (j)))] dX5_timeOf_42 (by decide) rfl ?_
        refine gg_aload_n k dX5_timeOf_43 rfl ?_
        refine gg_get k (cb0 hB) inX5_timeOf_X5 5 (by decide) fX5_timeOf_49 rfl rfl dX5_timeOf_44 ?_
        refine gg_iload k dX5_timeOf_47 rfl ?_
        refine gg_iload_n k dX5_timeOf_49 rfl ?_
        refine gg_calli (n := 2) (As := [.int (iI (j)), .int (iI (p))]) (rest := []) k (kX3_setsUp hB hO hR hm (j) (p) (by omega) (by omega) (by omega) (by omega)) ⟨_, _, _, gX5_timeOf_X3_setsUp, rfl, rfl, rfl, by decide +kernel, by decide, by decide⟩ (cbMach hB) rfl rfl (Nat.le_of_ble_eq_true rfl) dX5_timeOf_50 (fun z50 C50 r50 q50 => ?_)
        obtain ⟨q50, e50⟩ := q50
        rw [e50]
        clear e50
        obtain ⟨r50, s50⟩ := r50
        refine gg_if_eq k 73 dX5_timeOf_53 (by decide) ⟨by omega, by omega⟩ (fun c53 => ?_) (fun c53 => ?_)
        · refine gg_iinc k 3 [(4, .int (iI (j + 1))), (2, .long (iL (sm + ((sLot S (j) (p)) * (sNum S (j) (5)))))), (0, .ref (gad B (0))), (1, .int (iI (p)))] dX5_timeOf_73 rfl (by decide) rfl ?_
          refine gg_goto (tgt := 5) k dX5_timeOf_76 (by decide) ?_
          refine gg_sub [2, 3, 1, 0] rfl ?_
          exact ih5 (j + 1) (sm + ((sLot S (j) (p)) * (sNum S (j) (5)))) (by omega) (by omega) (by rw [sTimeN_s hj0, hs, if_neg (by rcases q50 with w | w; (· omega); (· exact w.2))]; omega) (by omega)
        · refine gg_lload_n k dX5_timeOf_56 rfl ?_
          refine gg_aload_n k dX5_timeOf_57 rfl ?_
          refine gg_get k (cb0 hB) inX5_timeOf_X5 1 (by decide) fX5_timeOf_26 rfl rfl dX5_timeOf_58 ?_
          refine gg_iload k dX5_timeOf_61 rfl ?_
          refine gg_aald k (cb1 hB) (by omega) (by omega) dX5_timeOf_63 ?_
          refine gg_get k (cbItem hB (by omega) (by omega)) inX5_timeOf_X2 0 (by decide) fX5_timeOf_71 rfl rfl dX5_timeOf_64 ?_
          refine gg_bipush k dX5_timeOf_67 (by decide +kernel) ?_
          refine gg_iald k (cbNum hB (by omega) (by omega)) (by omega) (by omega) dX5_timeOf_69 ?_
          refine gg_ti (hR.num _ (by omega) (by omega)) ?_
          have b69 := hO.n6 (j)
          refine gg_i2l k dX5_timeOf_70 ⟨by omega, by omega⟩ ?_
          refine gg_ladd k dX5_timeOf_71 ?_
          refine gg_lstore_n k [(2, .long (iL ((sm + ((sLot S (j) (p)) * (sNum S (j) (5)))) + (sNum S (j) (6))))), (0, .ref (gad B (0))), (1, .int (iI (p))), (4, .int (iI (j)))] dX5_timeOf_72 (by decide) rfl ?_
          refine gg_iinc k 3 [(4, .int (iI (j + 1))), (2, .long (iL ((sm + ((sLot S (j) (p)) * (sNum S (j) (5)))) + (sNum S (j) (6))))), (0, .ref (gad B (0))), (1, .int (iI (p)))] dX5_timeOf_73 rfl (by decide) rfl ?_
          refine gg_goto (tgt := 5) k dX5_timeOf_76 (by decide) ?_
          refine gg_sub [2, 3, 1, 0] rfl ?_
          exact ih5 (j + 1) ((sm + ((sLot S (j) (p)) * (sNum S (j) (5)))) + (sNum S (j) (6))) (by omega) (by omega) (by rw [sTimeN_s hj0, hs, if_pos (by rcases q50 with w | w; (· exact w.2); (· omega))]) (by omega)
  refine gg_sub [2, 3, 1, 0] rfl ?_
  exact L5 ((sCnt S - 0).toNat + 1) (0) (0) (by omega) (by omega) (rfl) (by omega)

abbrev rX5_overOf : Room := { frames := 2, cells := 0, slots := 0, locals := 46 }
set_option maxRecDepth 100000 in
set_option maxHeartbeats 4000000 in
theorem kX5_overOf {l : Launch} {B : gB} {T : Int} {S : sS} {C : gSt} (hB : clsB B T) (hO : sOk S T) (hR : cRel S T C) (hm : cMach S C T) (p : Int) (hp0 : 1 ≤ p) (hp1 : p ≤ T) : gMl l B yX5_overOf wsX5_overOf rX5_overOf [.ref (gad B (0)), .int (iI (p))] C (fun z C' => z = sOver S p ∧ C' = C) := by
  refine gMl_of (cc := cX5_overOf) (nL := 2) (by decide) rfl (Nat.le_of_ble_eq_true rfl) (fun K k hret => ?_)
  have k : gOk K B l rX5_overOf 2 cX5_overOf RX5 wsX5_overOf := k
  show GG K B C 0 [(0, .ref (gad B (0))), (1, .int (iI (p)))] []
  have hT := hO.t
  have hc := hO.cnt
  
  refine gg_lconst0 k dX5_overOf_0 ?_
  refine gg_aload_n k dX5_overOf_1 rfl ?_
  refine gg_iload_n k dX5_overOf_2 rfl ?_
  refine gg_calll (n := 1) (As := [.int (iI (p))]) (rest := [.long (iL (0))]) k (kX5_timeOf hB hO hR hm (p) (by omega) (by omega)) ⟨_, _, _, gX5_overOf_X5_timeOf, rfl, rfl, rfl, by decide +kernel, by decide, by decide⟩ (cb0 hB) rfl rfl (Nat.le_of_ble_eq_true rfl) dX5_overOf_3 (fun z3 C3 r3 q3 => ?_)
  obtain ⟨q3, e3⟩ := q3
  rw [e3]
  clear e3
  obtain ⟨r3, s3⟩ := r3
  have tb3 := sTime_b hO p
  refine gg_aload_n k dX5_overOf_6 rfl ?_
  refine gg_get k (cb0 hB) inX5_overOf_X5 3 (by decide) fX5_overOf_36 rfl rfl dX5_overOf_7 ?_
  refine gg_iload_n k dX5_overOf_10 rfl ?_
  refine gg_iald k (cbCap hB) (by omega) (by omega) dX5_overOf_11 ?_
  refine gg_ti (hR.cap (by omega) (by omega)) ?_
  have b11 := hO.cap (p)
  refine gg_i2l k dX5_overOf_12 ⟨by omega, by omega⟩ ?_
  refine gg_lsub k dX5_overOf_13 ?_
  refine gg_maxl k ⟨by omega, by omega⟩ ⟨by omega, by omega⟩ dX5_overOf_14 mX5_overOf_184.1 mX5_overOf_184.2.1 mX5_overOf_184.2.2.1 mX5_overOf_184.2.2.2 (Nat.le_of_ble_eq_true rfl) (Nat.le_of_ble_eq_true rfl) ?_
  exact hret _ _ _ _ dX5_overOf_17 (⟨by omega, by omega⟩) (⟨by unfold sOver; rw [← q3], rfl⟩)
end
section
/-! ===== PRICES ===== -/
theorem smL_s {l : Int → Int} {j : Int} (h : 0 ≤ j) : smL l (j + 1).toNat = smL l j.toNat + l j := by
  rw [show (j + 1).toNat = j.toNat + 1 by omega]
  show smL l j.toNat + l ((j.toNat : Nat) : Int) = _
  rw [Int.toNat_of_nonneg h]
def sPr0p (S : sS) (p : Int) : Int → Int := fun i => if sSet S i p then sNum S i 0 else 0
def sPr0 (S : sS) (T : Int) : Int := smL (fun x => smL (sPr0p S (x + 1)) (sCnt S).toNat) T.toNat
def sPr1p (S : sS) (i : Int) : Int → Int := fun x => sNum S i 1 * max 0 (sStk S i (x + 1).toNat)
def sPr1 (S : sS) (T : Int) : Int := smL (fun i => smL (sPr1p S i) T.toNat) (sCnt S).toNat
def sPr2 (S : sS) (T : Int) : Int := smL (fun x => sOvr S 0 * sOver S (x + 1)) T.toNat
def sPrice (S : sS) (T w : Int) : Int := if w = 0 then sPr0 S T else if w = 1 then sPr1 S T else if w = 2 then sPr2 S T else sPr0 S T + sPr1 S T + sPr2 S T
theorem smL_bb {l : Int → Int} {m : Int} {n : Nat} (h : ∀ j : Int, 0 ≤ j → j < n → 0 ≤ l j ∧ l j ≤ m) : 0 ≤ smL l n ∧ smL l n ≤ m * (n : Int) := ⟨smL_nn n (fun j a b => (h j a b).1), smL_le n (fun j a b => (h j a b).2)⟩
theorem sPr0p_b {S : sS} {T : Int} (h : sOk S T) (i p : Int) : 0 ≤ sPr0p S p i ∧ sPr0p S p i ≤ 10000 := by
  have := h.n0 i
  unfold sPr0p
  split <;> omega
theorem sPr0q_b {S : sS} {T : Int} (h : sOk S T) (p : Int) (n : Nat) : 0 ≤ smL (sPr0p S p) n ∧ smL (sPr0p S p) n ≤ 10000 * (n : Int) := smL_bb (fun j _ _ => sPr0p_b h j p)
theorem sPr1p_b {S : sS} {T : Int} (h : sOk S T) (i x : Int) (h0 : 0 ≤ x) (h1 : x < 12) : 0 ≤ sPr1p S i x ∧ sPr1p S i x ≤ 6500000 := by
  have a := h.n1 i
  have b := sStk_b h i (x + 1).toNat (by omega)
  unfold sPr1p
  have c : sNum S i 1 * max 0 (sStk S i (x + 1).toNat) ≤ 100 * 65000 := Int.mul_le_mul a.2 (by omega) (by omega) (by omega)
  exact ⟨Int.mul_nonneg a.1 (by omega), by omega⟩
theorem sPr1q_b {S : sS} {T : Int} (h : sOk S T) (i : Int) (n : Nat) (hn : n ≤ 12) : 0 ≤ smL (sPr1p S i) n ∧ smL (sPr1p S i) n ≤ 6500000 * (n : Int) := smL_bb (fun j a b => sPr1p_b h i j a (by omega))
theorem sPr2p_b {S : sS} {T : Int} (h : sOk S T) (x : Int) : 0 ≤ sOvr S 0 * sOver S x ∧ sOvr S 0 * sOver S x ≤ 60120000 := by
  have a := h.ovr0
  have b := sOver_b h x
  have c : sOvr S 0 * sOver S x ≤ 100 * 601200 := Int.mul_le_mul a.2 b.2 b.1 (by omega)
  exact ⟨Int.mul_nonneg a.1 b.1, by omega⟩
theorem sPr0_b {S : sS} {T : Int} (h : sOk S T) (n : Nat) (hn : n ≤ 12) : 0 ≤ smL (fun x => smL (sPr0p S (x + 1)) (sCnt S).toNat) n ∧ smL (fun x => smL (sPr0p S (x + 1)) (sCnt S).toNat) n ≤ 720000 := by
  have hc := h.cnt
  have := smL_bb (l := fun x => smL (sPr0p S (x + 1)) (sCnt S).toNat) (m := 60000) (n := n) (fun j _ _ => by have := sPr0q_b h (j + 1) (sCnt S).toNat; omega)
  omega
theorem sPr1_b {S : sS} {T : Int} (h : sOk S T) (n m : Nat) (hn : n ≤ 6) (hm : m ≤ 12) : 0 ≤ smL (fun i => smL (sPr1p S i) m) n ∧ smL (fun i => smL (sPr1p S i) m) n ≤ 468000000 := by
  have := smL_bb (l := fun i => smL (sPr1p S i) m) (m := 78000000) (n := n) (fun j _ _ => by have := sPr1q_b h j m hm; omega)
  omega
theorem sPr2_b {S : sS} {T : Int} (h : sOk S T) (n : Nat) (hn : n ≤ 12) : 0 ≤ smL (fun x => sOvr S 0 * sOver S (x + 1)) n ∧ smL (fun x => sOvr S 0 * sOver S (x + 1)) n ≤ 721440000 := by
  have := smL_bb (l := fun x => sOvr S 0 * sOver S (x + 1)) (m := 60120000) (n := n) (fun j _ _ => sPr2p_b h (j + 1))
  omega
theorem sPrice_b {S : sS} {T : Int} (h : sOk S T) (w : Int) : 0 ≤ sPrice S T w ∧ sPrice S T w ≤ 1200000000 := by
  have ht := h.t
  have hc := h.cnt
  have a := sPr0_b h T.toNat (by omega)
  have b := sPr1_b h (sCnt S).toNat T.toNat (by omega) (by omega)
  have c := sPr2_b h T.toNat (by omega)
  unfold sPrice sPr0 sPr1 sPr2
  split
  · omega
  · split
    · omega
    · split <;> omega
section GGT
variable {K : gK} {B : gB} {C : gSt} {l : Launch} {R : Room} {nL : Nat} {cc : ByteArray} {own : String} {Ts : List Cond} {pc : Nat} {lv : gLv} {st : List Value}
theorem gg_tsO (k : gOk K B l R nL cc own Ts) {z dflt lo hi : Int} {offs : Array Int} {len : Nat} (tgt : Nat) (hd : decode cc pc = .ok (.tableswitch dflt lo hi offs, len)) (ht : (pc : Int) + dflt = (tgt : Int)) (hz : rI z) (hs : z < lo ∨ hi < z) (h : GG K B C tgt lv st) : GG K B C pc lv (.int (iI z) :: st) :=
  gg_go k (fun _ _ _ _ _ _ _ _ _ _ _ _ hx hb _ _ _ _ hw => lv_tableOut hx hb hd (by rw [iI_t hz]; exact hs) ht hw) h
theorem gg_tsI (k : gOk K B l R nL cc own Ts) {z c dflt lo hi off : Int} {offs : Array Int} {len : Nat} (tgt : Nat) (hd : decode cc pc = .ok (.tableswitch dflt lo hi offs, len)) (hz : z = c) (hc : rI c) (h1 : lo ≤ c) (h2 : c ≤ hi) (ho : offs[(c - lo).toNat]? = some off) (ht : (pc : Int) + off = (tgt : Int)) (h : GG K B C tgt lv st) : GG K B C pc lv (.int (iI z) :: st) := by
  subst hz
  exact gg_go k (fun _ _ _ _ _ _ _ _ _ _ _ _ hx hb _ _ _ _ hw => lv_tableIn hx hb hd (by rw [iI_t hc]; omega) (by rw [iI_t hc]; omega) (by rw [iI_t hc]; exact ho) ht hw) h
end GGT
/-! ===== FAULTS ===== -/
abbrev fQ : Type := Int × Int × Int × Int
def fOw (S : sS) (p : Int) : Nat → List fQ
  | 0 => []
  | k + 1 => fOw S p k ++ (if 0 < (sRun S k p.toNat).2 then [(1, p, (k : Int), (sRun S k p.toNat).2)] else [])
def fLe (S : sS) (p : Int) : Nat → List fQ
  | 0 => []
  | k + 1 => fLe S p k ++ (if 0 < sLot S k p ∧ sLot S k p < sNum S k 2 then [(2, p, (k : Int), sNum S k 2 - sLot S k p)] else [])
def fOv (S : sS) (p : Int) : List fQ := if 0 < sOver S p - sOvr S 1 then [(3, p, -3, sOver S p - sOvr S 1)] else []
def fPer (S : sS) (p : Int) : List fQ := fOw S p (sCnt S).toNat ++ fLe S p (sCnt S).toNat ++ fOv S p
def fAll (S : sS) : Nat → List fQ
  | 0 => []
  | n + 1 => fAll S n ++ fPer S ((n : Int) + 1)
theorem fOw_s {S : sS} {p j : Int} (h : 0 ≤ j) : fOw S p (j + 1).toNat = fOw S p j.toNat ++ (if 0 < (sRun S j p.toNat).2 then [(1, p, j, (sRun S j p.toNat).2)] else []) := by
  rw [show (j + 1).toNat = j.toNat + 1 by omega]
  show _ ++ (if 0 < (sRun S ((j.toNat : Nat) : Int) p.toNat).2 then [(1, p, ((j.toNat : Nat) : Int), (sRun S ((j.toNat : Nat) : Int) p.toNat).2)] else []) = _
  rw [Int.toNat_of_nonneg h]
theorem fLe_s {S : sS} {p j : Int} (h : 0 ≤ j) : fLe S p (j + 1).toNat = fLe S p j.toNat ++ (if 0 < sLot S j p ∧ sLot S j p < sNum S j 2 then [(2, p, j, sNum S j 2 - sLot S j p)] else []) := by
  rw [show (j + 1).toNat = j.toNat + 1 by omega]
  show _ ++ (if 0 < sLot S ((j.toNat : Nat) : Int) p ∧ sLot S ((j.toNat : Nat) : Int) p < sNum S ((j.toNat : Nat) : Int) 2 then [(2, p, ((j.toNat : Nat) : Int), sNum S ((j.toNat : Nat) : Int) 2 - sLot S ((j.toNat : Nat) : Int) p)] else []) = _
  rw [Int.toNat_of_nonneg h]
theorem fAll_s {S : sS} {p : Int} (h : 1 ≤ p) : fAll S p.toNat = fAll S (p - 1).toNat ++ fPer S p := by
  rw [show p.toNat = (p - 1).toNat + 1 by omega]
  show fAll S (p - 1).toNat ++ fPer S (((p - 1).toNat : Nat) + 1 : Int) = _
  rw [show (((p - 1).toNat : Nat) : Int) + 1 = p by omega]
theorem fOw_l {S : sS} {p : Int} : ∀ n : Nat, (fOw S p n).length ≤ n
  | 0 => Nat.le_refl _
  | n + 1 => by
    have := fOw_l (S := S) (p := p) n
    unfold fOw
    split <;> simp <;> omega
theorem fLe_l {S : sS} {p : Int} : ∀ n : Nat, (fLe S p n).length ≤ n
  | 0 => Nat.le_refl _
  | n + 1 => by
    have := fLe_l (S := S) (p := p) n
    unfold fLe
    split <;> simp <;> omega
theorem fOv_l {S : sS} {p : Int} : (fOv S p).length ≤ 1 := by
  unfold fOv
  split <;> simp
theorem fAll_l {S : sS} {T : Int} (h : sOk S T) : ∀ n : Nat, (fAll S n).length ≤ 13 * n
  | 0 => Nat.le_refl _
  | n + 1 => by
    have hc := h.cnt
    have i1 := fAll_l h n
    have i2 := fOw_l (S := S) (p := (n : Int) + 1) (sCnt S).toNat
    have i3 := fLe_l (S := S) (p := (n : Int) + 1) (sCnt S).toNat
    have i4 := fOv_l (S := S) (p := (n : Int) + 1)
    show (fAll S n ++ (fOw S ((n : Int) + 1) (sCnt S).toNat ++ fLe S ((n : Int) + 1) (sCnt S).toNat ++ fOv S ((n : Int) + 1))).length ≤ _
    simp only [List.length_append]
    omega
/-- each number of a fault fits an int -/
def fRng (x : fQ) : Prop := rI x.1 ∧ rI x.2.1 ∧ rI x.2.2.1 ∧ rI x.2.2.2
theorem fAll_r {S : sS} {T : Int} (h : sOk S T) : ∀ n : Nat, n ≤ 12 → ∀ x ∈ fAll S n, fRng x
  | 0, _, x, hx => by cases hx
  | n + 1, hn, x, hx => by
    have hc := h.cnt
    rcases List.mem_append.mp hx with hx | hx
    · exact fAll_r h n (by omega) x hx
    · rcases List.mem_append.mp hx with hx | hx
      · rcases List.mem_append.mp hx with hx | hx
        · have key : ∀ k : Nat, k ≤ 6 → x ∈ fOw S ((n : Int) + 1) k → fRng x := by
            intro k
            induction k with
            | zero => intro _ w; cases w
            | succ k ih =>
              intro hk w
              rcases List.mem_append.mp w with w | w
              · exact ih (by omega) w
              · have hb := sRun_b h (k : Int) ((n : Int) + 1).toNat
                split at w
                · rw [List.mem_singleton.mp w]
                  exact ⟨⟨by omega, by omega⟩, ⟨by show -2147483648 ≤ (n : Int) + 1; omega, by show (n : Int) + 1 ≤ _; omega⟩, ⟨by show _ ≤ (k : Int); omega, by show (k : Int) ≤ _; omega⟩, ⟨by show _ ≤ (sRun S k ((n : Int) + 1).toNat).2; omega, by show (sRun S k ((n : Int) + 1).toNat).2 ≤ _; omega⟩⟩
                · cases w
          exact key _ (by omega) hx
        · have key : ∀ k : Nat, k ≤ 6 → x ∈ fLe S ((n : Int) + 1) k → fRng x := by
            intro k
            induction k with
            | zero => intro _ w; cases w
            | succ k ih =>
              intro hk w
              rcases List.mem_append.mp w with w | w
              · exact ih (by omega) w
              · have hb := h.lot k ((n : Int) + 1)
                have hb2 := h.n2 k
                split at w
                · rw [List.mem_singleton.mp w]
                  exact ⟨⟨by omega, by omega⟩, ⟨by show -2147483648 ≤ (n : Int) + 1; omega, by show (n : Int) + 1 ≤ _; omega⟩, ⟨by show _ ≤ (k : Int); omega, by show (k : Int) ≤ _; omega⟩, ⟨by show _ ≤ sNum S k 2 - sLot S k ((n : Int) + 1); omega, by show sNum S k 2 - sLot S k ((n : Int) + 1) ≤ _; omega⟩⟩
                · cases w
          exact key _ (by omega) hx
      · have hb := sOver_b h ((n : Int) + 1)
        have hb2 := h.ovr 1
        unfold fOv at hx
        split at hx
        · rw [List.mem_singleton.mp hx]
          exact ⟨⟨by omega, by omega⟩, ⟨by show -2147483648 ≤ (n : Int) + 1; omega, by show (n : Int) + 1 ≤ _; omega⟩, ⟨by show -2147483648 ≤ (-3 : Int); omega, by show (-3 : Int) ≤ _; omega⟩, ⟨by show _ ≤ sOver S ((n : Int) + 1) - sOvr S 1; omega, by show sOver S ((n : Int) + 1) - sOvr S 1 ≤ _; omega⟩⟩
        · cases hx
def cFl (C : gSt) (Lf : List fQ) : Prop := C 61 0 = (Lf.length : Int) ∧ ∀ (k : Nat) (x : fQ), Lf[k]? = some x → C 62 (4 * (k : Int)) = x.1 ∧ C 62 (4 * (k : Int) + 1) = x.2.1 ∧ C 62 (4 * (k : Int) + 2) = x.2.2.1 ∧ C 62 (4 * (k : Int) + 3) = x.2.2.2
theorem cFl.kept {C C' : gSt} {Lf : List fQ} (h : cFl C Lf) (h1 : C' 61 = C 61) (h2 : C' 62 = C 62) : cFl C' Lf := by
  unfold cFl
  rw [h1, h2]
  exact h
/-- what fault answers -/
def fComp (x : fQ) (w : Int) : Int := if w = 0 then x.1 else if w = 1 then x.2.1 else if w = 2 then x.2.2.1 else x.2.2.2
def sFault (S : sS) (T k w : Int) : Int := if 0 ≤ k ∧ k < ((fAll S T.toNat).length : Int) then (if 0 ≤ w ∧ w < 4 then fComp ((fAll S T.toNat).getD k.toNat (0, 0, 0, 0)) w else -2) else -1
end
section
theorem fX5_holdPrices_20 : Cond.fieldLink RX5 20 "LotRules" (TX5 0).2.1 (TX5 0).2.2.1 ∈ wsX5_holdPrices := by decide +kernel
theorem fX5_holdPrices_26 : Cond.fieldLink RX5 26 "LotRules" (TX5 1).2.1 (TX5 1).2.2.1 ∈ wsX5_holdPrices := by decide +kernel
theorem fX5_holdPrices_33 : Cond.fieldLink RX5 33 "LotRules" (TX5 2).2.1 (TX5 2).2.2.1 ∈ wsX5_holdPrices := by decide +kernel
theorem fX5_holdPrices_71 : Cond.fieldLink RX5 71 "LotRules$Item" (TX2 0).2.1 (TX2 0).2.2.1 ∈ wsX5_holdPrices := by decide +kernel
theorem fX5_holdPrices_108 : Cond.fieldLink RX5 108 "LotRules$Item" (TX2 4).2.1 (TX2 4).2.2.1 ∈ wsX5_holdPrices := by decide +kernel
theorem fX5_holdPrices_112 : Cond.fieldLink RX5 112 "LotRules$Store" (TX4 0).2.1 (TX4 0).2.2.1 ∈ wsX5_holdPrices := by decide +kernel
theorem fX5_overPrices_20 : Cond.fieldLink RX5 20 "LotRules" (TX5 0).2.1 (TX5 0).2.2.1 ∈ wsX5_overPrices := by decide +kernel
theorem fX5_overPrices_26 : Cond.fieldLink RX5 26 "LotRules" (TX5 1).2.1 (TX5 1).2.2.1 ∈ wsX5_overPrices := by decide +kernel
theorem fX5_overPrices_33 : Cond.fieldLink RX5 33 "LotRules" (TX5 2).2.1 (TX5 2).2.2.1 ∈ wsX5_overPrices := by decide +kernel
theorem fX5_overPrices_43 : Cond.fieldLink RX5 43 "LotRules" (TX5 4).2.1 (TX5 4).2.2.1 ∈ wsX5_overPrices := by decide +kernel
theorem fX5_overPrices_49 : Cond.fieldLink RX5 49 "LotRules" (TX5 5).2.1 (TX5 5).2.2.1 ∈ wsX5_overPrices := by decide +kernel
theorem fX5_setUpPrices_20 : Cond.fieldLink RX5 20 "LotRules" (TX5 0).2.1 (TX5 0).2.2.1 ∈ wsX5_setUpPrices := by decide +kernel
theorem fX5_setUpPrices_26 : Cond.fieldLink RX5 26 "LotRules" (TX5 1).2.1 (TX5 1).2.2.1 ∈ wsX5_setUpPrices := by decide +kernel
theorem fX5_setUpPrices_33 : Cond.fieldLink RX5 33 "LotRules" (TX5 2).2.1 (TX5 2).2.2.1 ∈ wsX5_setUpPrices := by decide +kernel
theorem fX5_setUpPrices_49 : Cond.fieldLink RX5 49 "LotRules" (TX5 5).2.1 (TX5 5).2.2.1 ∈ wsX5_setUpPrices := by decide +kernel
theorem fX5_setUpPrices_71 : Cond.fieldLink RX5 71 "LotRules$Item" (TX2 0).2.1 (TX2 0).2.2.1 ∈ wsX5_setUpPrices := by decide +kernel
theorem fX5_time_26 : Cond.fieldLink RX5 26 "LotRules" (TX5 1).2.1 (TX5 1).2.2.1 ∈ wsX5_time := by decide +kernel
theorem fX5_time_33 : Cond.fieldLink RX5 33 "LotRules" (TX5 2).2.1 (TX5 2).2.2.1 ∈ wsX5_time := by decide +kernel
theorem fX5_time_49 : Cond.fieldLink RX5 49 "LotRules" (TX5 5).2.1 (TX5 5).2.2.1 ∈ wsX5_time := by decide +kernel
theorem inX5_holdPrices_X2 : ∀ w ∈ u_ws RX2 TX2 5, w ∈ wsX5_holdPrices := by decide +kernel
theorem inX5_holdPrices_X4 : ∀ w ∈ u_ws RX4 TX4 3, w ∈ wsX5_holdPrices := by decide +kernel
theorem inX5_holdPrices_X5 : ∀ w ∈ u_ws RX5 TX5 8, w ∈ wsX5_holdPrices := by decide +kernel
theorem inX5_overPrices_X5 : ∀ w ∈ u_ws RX5 TX5 8, w ∈ wsX5_overPrices := by decide +kernel
theorem inX5_setUpPrices_X2 : ∀ w ∈ u_ws RX2 TX2 5, w ∈ wsX5_setUpPrices := by decide +kernel
theorem inX5_setUpPrices_X5 : ∀ w ∈ u_ws RX5 TX5 8, w ∈ wsX5_setUpPrices := by decide +kernel
theorem inX5_time_X5 : ∀ w ∈ u_ws RX5 TX5 8, w ∈ wsX5_time := by decide +kernel
theorem mX5_holdPrices_17 : Cond.methodLink RX5 17 Lib.Math.max.name ∈ wsX5_holdPrices ∧ Cond.static Lib.Math.max.name ∈ wsX5_holdPrices ∧ Cond.initialized "java/lang/Math" ∈ wsX5_holdPrices ∧ Cond.code Lib.Math.max.name Lib.Math.max.code 2 (some .int) ∈ wsX5_holdPrices := by decide +kernel
end
section
abbrev rX5_time : Room := { frames := 2, cells := 0, slots := 0, locals := 46 }
set_option maxRecDepth 100000 in
set_option maxHeartbeats 4000000 in
theorem kX5_time {l : Launch} {B : gB} {T : Int} {S : sS} {C : gSt} (hB : clsB B T) (hO : sOk S T) (hR : cRel S T C) (p : Int) (hp : rI p) : gMl l B yX5_time wsX5_time rX5_time [.ref (gad B (0)), .int (iI (p))] C (fun z C' => cRel S T C' ∧ z = if 1 ≤ p ∧ p ≤ T then sTime S p else -9223372036854775808) := by
  refine gMl_of (cc := cX5_time) (nL := 2) (by decide) rfl (Nat.le_of_ble_eq_true rfl) (fun K k hret => ?_)
  have k : gOk K B l rX5_time 2 cX5_time RX5 wsX5_time := k
  show GG K B C 0 [(0, .ref (gad B (0))), (1, .int (iI (p)))] []
  have hT := hO.t
  have hc := hO.cnt
  obtain ⟨hp1, hp2⟩ := hp
  refine gg_aload_n k dX5_time_0 rfl ?_
  refine gg_iload_n k dX5_time_1 rfl ?_
  refine gg_calli (n := 1) (As := [.int (iI (p))]) (rest := []) k (kX5_isPeriod hB hO hR (p) ⟨by omega, by omega⟩) ⟨_, _, _, gX5_time_X5_isPeriod, rfl, rfl, rfl, by decide +kernel, by decide, by decide⟩ (cb0 hB) rfl rfl (Nat.le_of_ble_eq_true rfl) dX5_time_2 (fun z2 C2 r2 q2 => ?_)
  obtain ⟨q2, e2⟩ := q2
  rw [e2]
  clear e2
  obtain ⟨r2, s2⟩ := r2
  refine gg_if_ne k 12 dX5_time_5 (by decide) ⟨by omega, by omega⟩ (fun c5 => ?_) (fun c5 => ?_)
  · refine gg_aload_n k dX5_time_12 rfl ?_
    refine gg_get k (cb0 hB) inX5_time_X5 5 (by decide) fX5_time_49 rfl rfl dX5_time_13 ?_
    refine gg_aload_n k dX5_time_16 rfl ?_
    refine gg_get k (cb0 hB) inX5_time_X5 1 (by decide) fX5_time_26 rfl rfl dX5_time_17 ?_
    refine gg_aload_n k dX5_time_20 rfl ?_
    refine gg_get k (cb0 hB) inX5_time_X5 2 (by decide) fX5_time_33 rfl rfl dX5_time_21 ?_
    refine gg_ti hR.cnt ?_
    refine gg_callv (n := 2) (As := [.ref (gad B (1)), .int (iI (sCnt S))]) (rest := []) k (kX3_follow hB hO hR) ⟨_, _, _, gX5_time_X3_follow, rfl, rfl, rfl, by decide +kernel, by decide, by decide⟩ (cbMach hB) rfl rfl (Nat.le_of_ble_eq_true rfl) dX5_time_24 (fun C24 q24 => ?_)
    obtain ⟨hR, hm24, hk24⟩ := q24
    refine gg_aload_n k dX5_time_27 rfl ?_
    refine gg_iload_n k dX5_time_28 rfl ?_
    refine gg_calll (n := 1) (As := [.int (iI (p))]) (rest := []) k (kX5_timeOf hB hO hR hm24 p (by omega) (by omega)) ⟨_, _, _, gX5_time_X5_timeOf, rfl, rfl, rfl, by decide +kernel, by decide, by decide⟩ (cb0 hB) rfl rfl (Nat.le_of_ble_eq_true rfl) dX5_time_29 (fun z29 C29 r29 q29 => ?_)
    obtain ⟨q29, e29⟩ := q29
    rw [e29]
    clear e29
    obtain ⟨r29, s29⟩ := r29
    exact hret _ _ _ _ dX5_time_32 (⟨by omega, by omega⟩) (⟨hR, by rw [if_pos (by omega)]; exact q29⟩)
  · refine gg_ldc2 (z := -9223372036854775808) k dX5_time_8 (by decide +kernel) ?_
    exact hret _ _ _ _ dX5_time_11 (⟨by omega, by omega⟩) (⟨hR, by rw [if_neg (by omega)]⟩)

abbrev rX5_setUpPrices : Room := { frames := 1, cells := 0, slots := 0, locals := 25 }
set_option maxRecDepth 100000 in
set_option maxHeartbeats 4000000 in
theorem kX5_setUpPrices {l : Launch} {B : gB} {T : Int} {S : sS} {C : gSt} (hB : clsB B T) (hO : sOk S T) (hR : cRel S T C)  : gMl l B yX5_setUpPrices wsX5_setUpPrices rX5_setUpPrices [.ref (gad B (0))] C (fun z C' => cRel S T C' ∧ z = sPr0 S T) := by
  refine gMl_of (cc := cX5_setUpPrices) (nL := 5) (by decide) rfl (Nat.le_of_ble_eq_true rfl) (fun K k hret => ?_)
  have k : gOk K B l rX5_setUpPrices 5 cX5_setUpPrices RX5 wsX5_setUpPrices := k
  show GG K B C 0 [(0, .ref (gad B (0)))] []
  have hT := hO.t
  have hc := hO.cnt
  
  refine gg_aload_n k dX5_setUpPrices_0 rfl ?_
  refine gg_get k (cb0 hB) inX5_setUpPrices_X5 5 (by decide) fX5_setUpPrices_49 rfl rfl dX5_setUpPrices_1 ?_
  refine gg_aload_n k dX5_setUpPrices_4 rfl ?_
  refine gg_get k (cb0 hB) inX5_setUpPrices_X5 1 (by decide) fX5_setUpPrices_26 rfl rfl dX5_setUpPrices_5 ?_
  refine gg_aload_n k dX5_setUpPrices_8 rfl ?_
  refine gg_get k (cb0 hB) inX5_setUpPrices_X5 2 (by decide) fX5_setUpPrices_33 rfl rfl dX5_setUpPrices_9 ?_
  refine gg_ti hR.cnt ?_
  refine gg_callv (n := 2) (As := [.ref (gad B (1)), .int (iI (sCnt S))]) (rest := []) k (kX3_follow hB hO hR) ⟨_, _, _, gX5_setUpPrices_X3_follow, rfl, rfl, rfl, by decide +kernel, by decide, by decide⟩ (cbMach hB) rfl rfl (Nat.le_of_ble_eq_true rfl) dX5_setUpPrices_12 (fun C12 q12 => ?_)
  obtain ⟨hR, hm12, hk12⟩ := q12
  refine gg_lconst0 k dX5_setUpPrices_15 ?_
  refine gg_lstore_n k [(1, .long (iL (0))), (0, .ref (gad B (0)))] dX5_setUpPrices_16 (by decide) rfl ?_
  refine gg_iconst k dX5_setUpPrices_17 ?_
  refine gg_istore_n k [(3, .int (iI (1))), (1, .long (iL (0))), (0, .ref (gad B (0)))] dX5_setUpPrices_18 (by decide) rfl ?_
  have L19 : ∀ (n19 : Nat) (p : Int) (sm : Int), 1 ≤ p → p ≤ T + 1 → sm = smL (fun x => smL (sPr0p S (x + 1)) (sCnt S).toNat) (p - 1).toNat → T + 1 - p < (n19 : Int) → GG K B C12 19 [(0, .ref (gad B (0))), (1, .long (iL (sm))), (3, .int (iI (p)))] [] := by
    intro n19
    induction n19 with
    | zero =>
      intro p sm hp0 hp1 hs hn19
      exact absurd hn19 (by omega)
    | succ n19 ih19 =>
      intro p sm hp0 hp1 hs hn19
      refine gg_iload_n k dX5_setUpPrices_19 rfl ?_
      refine gg_aload_n k dX5_setUpPrices_20 rfl ?_
      refine gg_get k (cb0 hB) inX5_setUpPrices_X5 0 (by decide) fX5_setUpPrices_20 rfl rfl dX5_setUpPrices_21 ?_
      refine gg_icmp_gt k 80 dX5_setUpPrices_24 (by decide) ⟨by omega, by omega⟩ ⟨by omega, by omega⟩ (fun c24 => ?_) (fun c24 => ?_)
      · refine gg_lload_n k dX5_setUpPrices_80 rfl ?_
        exact hret _ _ _ _ dX5_setUpPrices_81 (by have := sPr0_b hO (p - 1).toNat (by omega); rw [hs]; exact ⟨by omega, by omega⟩) (⟨hR, by unfold sPr0; rw [hs, show p - 1 = T by omega]⟩)
      · refine gg_iconst k dX5_setUpPrices_27 ?_
        refine gg_istore k [(4, .int (iI (0))), (0, .ref (gad B (0))), (1, .long (iL (sm))), (3, .int (iI (p)))] dX5_setUpPrices_28 (by decide) rfl ?_
        have L30 : ∀ (n30 : Nat) (j : Int) (sn : Int), 0 ≤ j → j ≤ sCnt S → sn = sm + smL (sPr0p S p) j.toNat → sCnt S - j < (n30 : Int) → GG K B C12 30 [(0, .ref (gad B (0))), (1, .long (iL (sn))), (3, .int (iI (p))), (4, .int (iI (j)))] [] := by
          intro n30
          induction n30 with
          | zero =>
            intro j sn hj0 hj1 hsn hn30
            exact absurd hn30 (by omega)
          | succ n30 ih30 =>
            intro j sn hj0 hj1 hsn hn30
            refine gg_iload k dX5_setUpPrices_30 rfl ?_
            refine gg_aload_n k dX5_setUpPrices_32 rfl ?_
            refine gg_get k (cb0 hB) inX5_setUpPrices_X5 2 (by decide) fX5_setUpPrices_33 rfl rfl dX5_setUpPrices_33 ?_
            refine gg_ti hR.cnt ?_
            refine gg_icmp_ge k 74 dX5_setUpPrices_36 (by decide) ⟨by omega, by omega⟩ ⟨by omega, by omega⟩ (fun c36 => ?_) (fun c36 => ?_)
            · refine gg_iinc k 2 [(3, .int (iI (p + 1))), (0, .ref (gad B (0))), (1, .long (iL (sn))), (4, .int (iI (j)))] dX5_setUpPrices_74 rfl (by decide) rfl ?_
              refine gg_goto (tgt := 19) k dX5_setUpPrices_77 (by decide) ?_
              refine gg_sub [1, 2, 0] rfl ?_
              exact ih19 (p + 1) (sn) (by omega) (by omega) (by rw [show p + 1 - 1 = (p - 1) + 1 by omega, smL_s (by omega), ← hs]; show sn = sm + smL (sPr0p S (p - 1 + 1)) _; rw [show p - 1 + 1 = p by omega, hsn, show j = sCnt S by omega]) (by omega)
            · refine gg_aload_n k dX5_setUpPrices_39 rfl ?_
              refine gg_get k (cb0 hB) inX5_setUpPrices_X5 5 (by decide) fX5_setUpPrices_49 rfl rfl dX5_setUpPrices_40 ?_
              refine gg_iload k dX5_setUpPrices_43 rfl ?_
              refine gg_iload_n k dX5_setUpPrices_45 rfl ?_
              refine gg_calli (n := 2) (As := [.int (iI (j)), .int (iI (p))]) (rest := []) k (kX3_setsUp hB hO hR hm12 (j) (p) (by omega) (by omega) (by omega) (by omega)) ⟨_, _, _, gX5_setUpPrices_X3_setsUp, rfl, rfl, rfl, by decide +kernel, by decide, by decide⟩ (cbMach hB) rfl rfl (Nat.le_of_ble_eq_true rfl) dX5_setUpPrices_46 (fun z46 C46 r46 q46 => ?_)
              obtain ⟨q46, e46⟩ := q46
              rw [e46]
              clear e46
              obtain ⟨r46, s46⟩ := r46
              refine gg_if_eq k 68 dX5_setUpPrices_49 (by decide) ⟨by omega, by omega⟩ (fun c49 => ?_) (fun c49 => ?_)
              · refine gg_iinc k 3 [(4, .int (iI (j + 1))), (0, .ref (gad B (0))), (1, .long (iL (sn))), (3, .int (iI (p)))] dX5_setUpPrices_68 rfl (by decide) rfl ?_
                refine gg_goto (tgt := 30) k dX5_setUpPrices_71 (by decide) ?_
                refine gg_sub [1, 2, 3, 0] rfl ?_
                exact ih30 (j + 1) (sn) (by omega) (by omega) (by rw [smL_s hj0, hsn]; show _ = _ + (_ + if sSet S j p then sNum S j 0 else 0); rw [if_neg (by rcases q46 with w | w; (· omega); (· exact w.2))]; omega) (by omega)
              · refine gg_lload_n k dX5_setUpPrices_52 rfl ?_
                refine gg_aload_n k dX5_setUpPrices_53 rfl ?_
                refine gg_get k (cb0 hB) inX5_setUpPrices_X5 1 (by decide) fX5_setUpPrices_26 rfl rfl dX5_setUpPrices_54 ?_
                refine gg_iload k dX5_setUpPrices_57 rfl ?_
                refine gg_aald k (cb1 hB) (by omega) (by omega) dX5_setUpPrices_59 ?_
                refine gg_get k (cbItem hB (by omega) (by omega)) inX5_setUpPrices_X2 0 (by decide) fX5_setUpPrices_71 rfl rfl dX5_setUpPrices_60 ?_
                refine gg_iconst k dX5_setUpPrices_63 ?_
                refine gg_iald k (cbNum hB (by omega) (by omega)) (by omega) (by omega) dX5_setUpPrices_64 ?_
                refine gg_ti (hR.num _ (by omega) (by omega)) ?_
                have b64 := hO.n0 (j)
                refine gg_i2l k dX5_setUpPrices_65 ⟨by omega, by omega⟩ ?_
                refine gg_ladd k dX5_setUpPrices_66 ?_
                refine gg_lstore_n k [(1, .long (iL (sn + (sNum S (j) (0))))), (0, .ref (gad B (0))), (3, .int (iI (p))), (4, .int (iI (j)))] dX5_setUpPrices_67 (by decide) rfl ?_
                refine gg_iinc k 3 [(4, .int (iI (j + 1))), (1, .long (iL (sn + (sNum S (j) (0))))), (0, .ref (gad B (0))), (3, .int (iI (p)))] dX5_setUpPrices_68 rfl (by decide) rfl ?_
                refine gg_goto (tgt := 30) k dX5_setUpPrices_71 (by decide) ?_
                refine gg_sub [2, 1, 3, 0] rfl ?_
                exact ih30 (j + 1) (sn + (sNum S (j) (0))) (by omega) (by omega) (by rw [smL_s hj0, hsn]; show _ = _ + (_ + if sSet S j p then sNum S j 0 else 0); rw [if_pos (by rcases q46 with w | w; (· exact w.2); (· omega))]; omega) (by omega)
        refine gg_sub [1, 2, 3, 0] rfl ?_
        exact L30 ((sCnt S - 0).toNat + 1) (0) (sm) (by omega) (by omega) (by show sm = sm + 0; omega) (by omega)
  refine gg_sub [2, 1, 0] rfl ?_
  exact L19 ((T + 1 - 1).toNat + 1) (1) (0) (by omega) (by omega) (rfl) (by omega)

abbrev rX5_holdPrices : Room := { frames := 4, cells := 0, slots := 0, locals := 96 }
set_option maxRecDepth 100000 in
set_option maxHeartbeats 4000000 in
theorem kX5_holdPrices {l : Launch} {B : gB} {T : Int} {S : sS} {C : gSt} (hB : clsB B T) (hO : sOk S T) (hR : cRel S T C)  : gMl l B yX5_holdPrices wsX5_holdPrices rX5_holdPrices [.ref (gad B (0))] C (fun z C' => cRel S T C' ∧ z = sPr1 S T) := by
  refine gMl_of (cc := cX5_holdPrices) (nL := 5) (by decide) rfl (Nat.le_of_ble_eq_true rfl) (fun K k hret => ?_)
  have k : gOk K B l rX5_holdPrices 5 cX5_holdPrices RX5 wsX5_holdPrices := k
  show GG K B C 0 [(0, .ref (gad B (0)))] []
  have hT := hO.t
  have hc := hO.cnt
  
  refine gg_lconst0 k dX5_holdPrices_0 ?_
  refine gg_lstore_n k [(1, .long (iL (0))), (0, .ref (gad B (0)))] dX5_holdPrices_1 (by decide) rfl ?_
  refine gg_iconst k dX5_holdPrices_2 ?_
  refine gg_istore_n k [(3, .int (iI (0))), (1, .long (iL (0))), (0, .ref (gad B (0)))] dX5_holdPrices_3 (by decide) rfl ?_
  have L4 : ∀ (n4 : Nat) (i : Int) (sm : Int) (C1 : gSt), 0 ≤ i → i ≤ sCnt S → cRel S T C1 → sm = smL (fun i => smL (sPr1p S i) T.toNat) i.toNat → sCnt S - i < (n4 : Int) → GG K B C1 4 [(0, .ref (gad B (0))), (1, .long (iL (sm))), (3, .int (iI (i)))] [] := by
    intro n4
    induction n4 with
    | zero =>
      intro i sm C1 hi0 hi1 hR hs hn4
      exact absurd hn4 (by omega)
    | succ n4 ih4 =>
      intro i sm C1 hi0 hi1 hR hs hn4
      refine gg_iload_n k dX5_holdPrices_4 rfl ?_
      refine gg_aload_n k dX5_holdPrices_5 rfl ?_
      refine gg_get k (cb0 hB) inX5_holdPrices_X5 2 (by decide) fX5_holdPrices_33 rfl rfl dX5_holdPrices_6 ?_
      refine gg_ti hR.cnt ?_
      refine gg_icmp_ge k 77 dX5_holdPrices_9 (by decide) ⟨by omega, by omega⟩ ⟨by omega, by omega⟩ (fun c9 => ?_) (fun c9 => ?_)
      · refine gg_lload_n k dX5_holdPrices_77 rfl ?_
        exact hret _ _ _ _ dX5_holdPrices_78 (by have := sPr1_b hO i.toNat T.toNat (by omega) (by omega); rw [hs]; exact ⟨by omega, by omega⟩) (⟨hR, by unfold sPr1; rw [hs, show i = sCnt S by omega]⟩)
      · refine gg_aload_n k dX5_holdPrices_12 rfl ?_
        refine gg_iload_n k dX5_holdPrices_13 rfl ?_
        refine gg_callv (n := 1) (As := [.int (iI (i))]) (rest := []) k (kX5_runItem hB hO hR (i := i) (by omega) (by omega)) ⟨_, _, _, gX5_holdPrices_X5_runItem, rfl, rfl, rfl, by decide +kernel, by decide, by decide⟩ (cb0 hB) rfl rfl (Nat.le_of_ble_eq_true rfl) dX5_holdPrices_14 (fun C14 q14 => ?_)
        obtain ⟨hR, hr14, hk14⟩ := q14
        refine gg_iconst k dX5_holdPrices_17 ?_
        refine gg_istore k [(4, .int (iI (1))), (0, .ref (gad B (0))), (1, .long (iL (sm))), (3, .int (iI (i)))] dX5_holdPrices_18 (by decide) rfl ?_
        have L20 : ∀ (n20 : Nat) (p : Int) (sn : Int), 1 ≤ p → p ≤ T + 1 → sn = sm + smL (sPr1p S i) (p - 1).toNat → T + 1 - p < (n20 : Int) → GG K B C14 20 [(0, .ref (gad B (0))), (1, .long (iL (sn))), (3, .int (iI (i))), (4, .int (iI (p)))] [] := by
          intro n20
          induction n20 with
          | zero =>
            intro p sn hp0 hp1 hsn hn20
            exact absurd hn20 (by omega)
          | succ n20 ih20 =>
            intro p sn hp0 hp1 hsn hn20
            refine gg_iload k dX5_holdPrices_20 rfl ?_
            refine gg_aload_n k dX5_holdPrices_22 rfl ?_
            refine gg_get k (cb0 hB) inX5_holdPrices_X5 0 (by decide) fX5_holdPrices_20 rfl rfl dX5_holdPrices_23 ?_
            refine gg_icmp_gt k 71 dX5_holdPrices_26 (by decide) ⟨by omega, by omega⟩ ⟨by omega, by omega⟩ (fun c26 => ?_) (fun c26 => ?_)
            · refine gg_iinc k 2 [(3, .int (iI (i + 1))), (0, .ref (gad B (0))), (1, .long (iL (sn))), (4, .int (iI (p)))] dX5_holdPrices_71 rfl (by decide) rfl ?_
              refine gg_goto (tgt := 4) k dX5_holdPrices_74 (by decide) ?_
              refine gg_sub [1, 2, 0] rfl ?_
              exact ih4 (i + 1) (sn) (C14) (by omega) (by omega) (hR) (by rw [smL_s hi0, ← hs, hsn, show p - 1 = T by omega]) (by omega)
            · refine gg_lload_n k dX5_holdPrices_29 rfl ?_
              refine gg_aload_n k dX5_holdPrices_30 rfl ?_
              refine gg_get k (cb0 hB) inX5_holdPrices_X5 1 (by decide) fX5_holdPrices_26 rfl rfl dX5_holdPrices_31 ?_
              refine gg_iload_n k dX5_holdPrices_34 rfl ?_
              refine gg_aald k (cb1 hB) (by omega) (by omega) dX5_holdPrices_35 ?_
              refine gg_get k (cbItem hB (by omega) (by omega)) inX5_holdPrices_X2 0 (by decide) fX5_holdPrices_71 rfl rfl dX5_holdPrices_36 ?_
              refine gg_iconst k dX5_holdPrices_39 ?_
              refine gg_iald k (cbNum hB (by omega) (by omega)) (by omega) (by omega) dX5_holdPrices_40 ?_
              refine gg_ti (hR.num _ (by omega) (by omega)) ?_
              have b40 := hO.n1 (i)
              refine gg_i2l k dX5_holdPrices_41 ⟨by omega, by omega⟩ ?_
              refine gg_iconst k dX5_holdPrices_42 ?_
              refine gg_aload_n k dX5_holdPrices_43 rfl ?_
              refine gg_get k (cb0 hB) inX5_holdPrices_X5 1 (by decide) fX5_holdPrices_26 rfl rfl dX5_holdPrices_44 ?_
              refine gg_iload_n k dX5_holdPrices_47 rfl ?_
              refine gg_aald k (cb1 hB) (by omega) (by omega) dX5_holdPrices_48 ?_
              refine gg_get k (cbItem hB (by omega) (by omega)) inX5_holdPrices_X2 4 (by decide) fX5_holdPrices_108 rfl rfl dX5_holdPrices_49 ?_
              refine gg_get k (cbStore hB (by omega) (by omega)) inX5_holdPrices_X4 0 (by decide) fX5_holdPrices_112 rfl rfl dX5_holdPrices_52 ?_
              refine gg_iload k dX5_holdPrices_55 rfl ?_
              refine gg_iald k (cbStocks hB (by omega) (by omega)) (by omega) (by omega) dX5_holdPrices_57 ?_
              refine gg_ti (hr14.1 p (by omega) (by omega)) ?_
              have hb9 := sStk_b hO i p.toNat (by omega)
              refine gg_max k ⟨by omega, by omega⟩ ⟨by omega, by omega⟩ dX5_holdPrices_58 mX5_holdPrices_17.1 mX5_holdPrices_17.2.1 mX5_holdPrices_17.2.2.1 mX5_holdPrices_17.2.2.2 (Nat.le_of_ble_eq_true rfl) (Nat.le_of_ble_eq_true rfl) ?_
              refine gg_i2l k dX5_holdPrices_61 ⟨by omega, by omega⟩ ?_
              refine gg_lmul k dX5_holdPrices_62 ?_
              refine gg_ladd k dX5_holdPrices_63 ?_
              refine gg_lstore_n k [(1, .long (iL (sn + ((sNum S (i) (1)) * (max 0 (sStk S i p.toNat)))))), (0, .ref (gad B (0))), (3, .int (iI (i))), (4, .int (iI (p)))] dX5_holdPrices_64 (by decide) rfl ?_
              refine gg_iinc k 3 [(4, .int (iI (p + 1))), (1, .long (iL (sn + ((sNum S (i) (1)) * (max 0 (sStk S i p.toNat)))))), (0, .ref (gad B (0))), (3, .int (iI (i)))] dX5_holdPrices_65 rfl (by decide) rfl ?_
              refine gg_goto (tgt := 20) k dX5_holdPrices_68 (by decide) ?_
              refine gg_sub [2, 1, 3, 0] rfl ?_
              exact ih20 (p + 1) (sn + ((sNum S (i) (1)) * (max 0 (sStk S i p.toNat)))) (by omega) (by omega) (by rw [show p + 1 - 1 = (p - 1) + 1 by omega, smL_s (by omega), hsn]; show _ = _ + (_ + sNum S i 1 * max 0 (sStk S i (p - 1 + 1).toNat)); rw [show p - 1 + 1 = p by omega]; omega) (by omega)
        refine gg_sub [1, 2, 3, 0] rfl ?_
        exact L20 ((T + 1 - 1).toNat + 1) (1) (sm) (by omega) (by omega) (by show sm = sm + 0; omega) (by omega)
  refine gg_sub [2, 1, 0] rfl ?_
  exact L4 ((sCnt S - 0).toNat + 1) (0) (0) (C) (by omega) (by omega) (hR) (rfl) (by omega)

abbrev rX5_overPrices : Room := { frames := 3, cells := 0, slots := 0, locals := 67 }
set_option maxRecDepth 100000 in
set_option maxHeartbeats 4000000 in
theorem kX5_overPrices {l : Launch} {B : gB} {T : Int} {S : sS} {C : gSt} (hB : clsB B T) (hO : sOk S T) (hR : cRel S T C)  : gMl l B yX5_overPrices wsX5_overPrices rX5_overPrices [.ref (gad B (0))] C (fun z C' => cRel S T C' ∧ z = sPr2 S T) := by
  refine gMl_of (cc := cX5_overPrices) (nL := 4) (by decide) rfl (Nat.le_of_ble_eq_true rfl) (fun K k hret => ?_)
  have k : gOk K B l rX5_overPrices 4 cX5_overPrices RX5 wsX5_overPrices := k
  show GG K B C 0 [(0, .ref (gad B (0)))] []
  have hT := hO.t
  have hc := hO.cnt
  
  refine gg_aload_n k dX5_overPrices_0 rfl ?_
  refine gg_get k (cb0 hB) inX5_overPrices_X5 5 (by decide) fX5_overPrices_49 rfl rfl dX5_overPrices_1 ?_
  refine gg_aload_n k dX5_overPrices_4 rfl ?_
  refine gg_get k (cb0 hB) inX5_overPrices_X5 1 (by decide) fX5_overPrices_26 rfl rfl dX5_overPrices_5 ?_
  refine gg_aload_n k dX5_overPrices_8 rfl ?_
  refine gg_get k (cb0 hB) inX5_overPrices_X5 2 (by decide) fX5_overPrices_33 rfl rfl dX5_overPrices_9 ?_
  refine gg_ti hR.cnt ?_
  refine gg_callv (n := 2) (As := [.ref (gad B (1)), .int (iI (sCnt S))]) (rest := []) k (kX3_follow hB hO hR) ⟨_, _, _, gX5_overPrices_X3_follow, rfl, rfl, rfl, by decide +kernel, by decide, by decide⟩ (cbMach hB) rfl rfl (Nat.le_of_ble_eq_true rfl) dX5_overPrices_12 (fun C12 q12 => ?_)
  obtain ⟨hR, hm12, hk12⟩ := q12
  refine gg_lconst0 k dX5_overPrices_15 ?_
  refine gg_lstore_n k [(1, .long (iL (0))), (0, .ref (gad B (0)))] dX5_overPrices_16 (by decide) rfl ?_
  refine gg_iconst k dX5_overPrices_17 ?_
  refine gg_istore_n k [(3, .int (iI (1))), (1, .long (iL (0))), (0, .ref (gad B (0)))] dX5_overPrices_18 (by decide) rfl ?_
  have L19 : ∀ (n19 : Nat) (p : Int) (sm : Int), 1 ≤ p → p ≤ T + 1 → sm = smL (fun x => sOvr S 0 * sOver S (x + 1)) (p - 1).toNat → T + 1 - p < (n19 : Int) → GG K B C12 19 [(0, .ref (gad B (0))), (1, .long (iL (sm))), (3, .int (iI (p)))] [] := by
    intro n19
    induction n19 with
    | zero =>
      intro p sm hp0 hp1 hs hn19
      exact absurd hn19 (by omega)
    | succ n19 ih19 =>
      intro p sm hp0 hp1 hs hn19
      refine gg_iload_n k dX5_overPrices_19 rfl ?_
      refine gg_aload_n k dX5_overPrices_20 rfl ?_
      refine gg_get k (cb0 hB) inX5_overPrices_X5 0 (by decide) fX5_overPrices_20 rfl rfl dX5_overPrices_21 ?_
      refine gg_icmp_gt k 49 dX5_overPrices_24 (by decide) ⟨by omega, by omega⟩ ⟨by omega, by omega⟩ (fun c24 => ?_) (fun c24 => ?_)
      · refine gg_lload_n k dX5_overPrices_49 rfl ?_
        exact hret _ _ _ _ dX5_overPrices_50 (by have := sPr2_b hO (p - 1).toNat (by omega); rw [hs]; exact ⟨by omega, by omega⟩) (⟨hR, by unfold sPr2; rw [hs, show p - 1 = T by omega]⟩)
      · refine gg_lload_n k dX5_overPrices_27 rfl ?_
        refine gg_aload_n k dX5_overPrices_28 rfl ?_
        refine gg_get k (cb0 hB) inX5_overPrices_X5 4 (by decide) fX5_overPrices_43 rfl rfl dX5_overPrices_29 ?_
        refine gg_iconst k dX5_overPrices_32 ?_
        refine gg_iald k (cbOvr hB) (by omega) (by omega) dX5_overPrices_33 ?_
        refine gg_ti (hR.ovr _) ?_
        have b33 := hO.ovr (0)
        refine gg_i2l k dX5_overPrices_34 ⟨by omega, by omega⟩ ?_
        refine gg_aload_n k dX5_overPrices_35 rfl ?_
        refine gg_iload_n k dX5_overPrices_36 rfl ?_
        refine gg_calll (n := 1) (As := [.int (iI (p))]) (rest := [.long (iL (sOvr S (0))), .long (iL (sm))]) k (kX5_overOf hB hO hR hm12 p (by omega) (by omega)) ⟨_, _, _, gX5_overPrices_X5_overOf, rfl, rfl, rfl, by decide +kernel, by decide, by decide⟩ (cb0 hB) rfl rfl (Nat.le_of_ble_eq_true rfl) dX5_overPrices_37 (fun z37 C37 r37 q37 => ?_)
        obtain ⟨q37, e37⟩ := q37
        rw [e37]
        clear e37
        obtain ⟨r37, s37⟩ := r37
        have ob37 := sOver_b hO p
        refine gg_lmul k dX5_overPrices_40 ?_
        refine gg_ladd k dX5_overPrices_41 ?_
        refine gg_lstore_n k [(1, .long (iL (sm + ((sOvr S (0)) * z37)))), (0, .ref (gad B (0))), (3, .int (iI (p)))] dX5_overPrices_42 (by decide) rfl ?_
        refine gg_iinc k 2 [(3, .int (iI (p + 1))), (1, .long (iL (sm + ((sOvr S (0)) * z37)))), (0, .ref (gad B (0)))] dX5_overPrices_43 rfl (by decide) rfl ?_
        refine gg_goto (tgt := 19) k dX5_overPrices_46 (by decide) ?_
        refine gg_sub [2, 1, 0] rfl ?_
        exact ih19 (p + 1) (sm + ((sOvr S (0)) * z37)) (by omega) (by omega) (by rw [show p + 1 - 1 = (p - 1) + 1 by omega, smL_s (by omega), ← hs]; show _ = sm + sOvr S 0 * sOver S (p - 1 + 1); rw [show p - 1 + 1 = p by omega, q37]) (by omega)
  refine gg_sub [2, 1, 0] rfl ?_
  exact L19 ((T + 1 - 1).toNat + 1) (1) (0) (by omega) (by omega) (rfl) (by omega)

abbrev rX5_priceOf : Room := { frames := 5, cells := 0, slots := 0, locals := 120 }
set_option maxRecDepth 100000 in
set_option maxHeartbeats 4000000 in
theorem kX5_priceOf {l : Launch} {B : gB} {T : Int} {S : sS} {C : gSt} (hB : clsB B T) (hO : sOk S T) (hR : cRel S T C) (w : Int) (hw0 : 0 ≤ w) (hw3 : w ≤ 3) : gMl l B yX5_priceOf wsX5_priceOf rX5_priceOf [.ref (gad B (0)), .int (iI (w))] C (fun z C' => cRel S T C' ∧ z = sPrice S T w) := by
  refine gMl_of (cc := cX5_priceOf) (nL := 2) (by decide) rfl (Nat.le_of_ble_eq_true rfl) (fun K k hret => ?_)
  have k : gOk K B l rX5_priceOf 2 cX5_priceOf RX5 wsX5_priceOf := k
  show GG K B C 0 [(0, .ref (gad B (0))), (1, .int (iI (w)))] []
  have hT := hO.t
  have hc := hO.cnt
  have hp0 : 0 ≤ sPr0 S T ∧ sPr0 S T ≤ 720000 := sPr0_b hO T.toNat (by omega)
  have hp1 : 0 ≤ sPr1 S T ∧ sPr1 S T ≤ 468000000 := sPr1_b hO (sCnt S).toNat T.toNat (by omega) (by omega)
  have hp2 : 0 ≤ sPr2 S T ∧ sPr2 S T ≤ 721440000 := sPr2_b hO T.toNat (by omega)
  refine gg_iload_n k dX5_priceOf_0 rfl ?_
  by_cases c1 : w < 0 ∨ 2 < w
  · refine gg_tsO k 43 dX5_priceOf_1 (by decide) ⟨by omega, by omega⟩ c1 ?_
    refine gg_aload_n k dX5_priceOf_43 rfl ?_
    refine gg_calll (n := 0) (As := []) (rest := []) k (kX5_setUpPrices hB hO hR) ⟨_, _, _, gX5_priceOf_X5_setUpPrices, rfl, rfl, rfl, by decide +kernel, by decide, by decide⟩ (cb0 hB) rfl rfl (Nat.le_of_ble_eq_true rfl) dX5_priceOf_44 (fun z44 C44 r44 q44 => ?_)
    obtain ⟨hR, q44⟩ := q44
    obtain ⟨r44, s44⟩ := r44
    refine gg_aload_n k dX5_priceOf_47 rfl ?_
    refine gg_calll (n := 0) (As := []) (rest := [.long (iL (z44))]) k (kX5_holdPrices hB hO hR) ⟨_, _, _, gX5_priceOf_X5_holdPrices, rfl, rfl, rfl, by decide +kernel, by decide, by decide⟩ (cb0 hB) rfl rfl (Nat.le_of_ble_eq_true rfl) dX5_priceOf_48 (fun z48 C48 r48 q48 => ?_)
    obtain ⟨hR, q48⟩ := q48
    obtain ⟨r48, s48⟩ := r48
    refine gg_ladd k dX5_priceOf_51 ?_
    refine gg_aload_n k dX5_priceOf_52 rfl ?_
    refine gg_calll (n := 0) (As := []) (rest := [.long (iL (z44 + z48))]) k (kX5_overPrices hB hO hR) ⟨_, _, _, gX5_priceOf_X5_overPrices, rfl, rfl, rfl, by decide +kernel, by decide, by decide⟩ (cb0 hB) rfl rfl (Nat.le_of_ble_eq_true rfl) dX5_priceOf_53 (fun z53 C53 r53 q53 => ?_)
    obtain ⟨hR, q53⟩ := q53
    obtain ⟨r53, s53⟩ := r53
    refine gg_ladd k dX5_priceOf_56 ?_
    exact hret _ _ _ _ dX5_priceOf_57 (⟨by omega, by omega⟩) (⟨hR, by unfold sPrice; rw [if_neg (by omega), if_neg (by omega), if_neg (by omega), ← q44, ← q48, ← q53]⟩)
  · rcases (show w = 0 ∨ w = 1 ∨ w = 2 by omega) with c1 | c1 | c1
    · refine gg_tsI (c := 0) k 28 dX5_priceOf_1 c1 ⟨by omega, by omega⟩ (by decide) (by decide) rfl (by decide) ?_
      refine gg_aload_n k dX5_priceOf_28 rfl ?_
      refine gg_calll (n := 0) (As := []) (rest := []) k (kX5_setUpPrices hB hO hR) ⟨_, _, _, gX5_priceOf_X5_setUpPrices, rfl, rfl, rfl, by decide +kernel, by decide, by decide⟩ (cb0 hB) rfl rfl (Nat.le_of_ble_eq_true rfl) dX5_priceOf_29 (fun z29 C29 r29 q29 => ?_)
      obtain ⟨hR, q29⟩ := q29
      obtain ⟨r29, s29⟩ := r29
      exact hret _ _ _ _ dX5_priceOf_32 (⟨by omega, by omega⟩) (⟨hR, by unfold sPrice; rw [if_pos (by omega)]; exact q29⟩)
    · refine gg_tsI (c := 1) k 33 dX5_priceOf_1 c1 ⟨by omega, by omega⟩ (by decide) (by decide) rfl (by decide) ?_
      refine gg_aload_n k dX5_priceOf_33 rfl ?_
      refine gg_calll (n := 0) (As := []) (rest := []) k (kX5_holdPrices hB hO hR) ⟨_, _, _, gX5_priceOf_X5_holdPrices, rfl, rfl, rfl, by decide +kernel, by decide, by decide⟩ (cb0 hB) rfl rfl (Nat.le_of_ble_eq_true rfl) dX5_priceOf_34 (fun z34 C34 r34 q34 => ?_)
      obtain ⟨hR, q34⟩ := q34
      obtain ⟨r34, s34⟩ := r34
      exact hret _ _ _ _ dX5_priceOf_37 (⟨by omega, by omega⟩) (⟨hR, by unfold sPrice; rw [if_neg (by omega), if_pos (by omega)]; exact q34⟩)
    · refine gg_tsI (c := 2) k 38 dX5_priceOf_1 c1 ⟨by omega, by omega⟩ (by decide) (by decide) rfl (by decide) ?_
      refine gg_aload_n k dX5_priceOf_38 rfl ?_
      refine gg_calll (n := 0) (As := []) (rest := []) k (kX5_overPrices hB hO hR) ⟨_, _, _, gX5_priceOf_X5_overPrices, rfl, rfl, rfl, by decide +kernel, by decide, by decide⟩ (cb0 hB) rfl rfl (Nat.le_of_ble_eq_true rfl) dX5_priceOf_39 (fun z39 C39 r39 q39 => ?_)
      obtain ⟨hR, q39⟩ := q39
      obtain ⟨r39, s39⟩ := r39
      exact hret _ _ _ _ dX5_priceOf_42 (⟨by omega, by omega⟩) (⟨hR, by unfold sPrice; rw [if_neg (by omega), if_neg (by omega), if_pos (by omega)]; exact q39⟩)

abbrev rX5_price : Room := { frames := 6, cells := 0, slots := 0, locals := 141 }
set_option maxRecDepth 100000 in
set_option maxHeartbeats 4000000 in
theorem kX5_price {l : Launch} {B : gB} {T : Int} {S : sS} {C : gSt} (hB : clsB B T) (hO : sOk S T) (hR : cRel S T C) (w : Int) (hw : rI w) : gMl l B yX5_price wsX5_price rX5_price [.ref (gad B (0)), .int (iI (w))] C (fun z C' => cRel S T C' ∧ z = if 0 ≤ w ∧ w ≤ 3 then sPrice S T w else -9223372036854775808) := by
  refine gMl_of (cc := cX5_price) (nL := 2) (by decide) rfl (Nat.le_of_ble_eq_true rfl) (fun K k hret => ?_)
  have k : gOk K B l rX5_price 2 cX5_price RX5 wsX5_price := k
  show GG K B C 0 [(0, .ref (gad B (0))), (1, .int (iI (w)))] []
  have hT := hO.t
  have hc := hO.cnt
  obtain ⟨hw1, hw2⟩ := hw
  refine gg_iload_n k dX5_price_0 rfl ?_
  refine gg_callsi (n := 1) (As := [.int (iI (w))]) (rest := []) k (kX5_isPrice (w) ⟨by omega, by omega⟩) ⟨_, _, _, gX5_price_X5_isPrice, rfl, rfl, rfl, by decide +kernel, by decide, by decide⟩ rfl rfl (Nat.le_of_ble_eq_true rfl) dX5_price_1 (fun z1 C1 r1 q1 => ?_)
  obtain ⟨q1, e1⟩ := q1
  rw [e1]
  clear e1
  obtain ⟨r1, s1⟩ := r1
  refine gg_if_eq k 15 dX5_price_4 (by decide) ⟨by omega, by omega⟩ (fun c4 => ?_) (fun c4 => ?_)
  · refine gg_ldc2 (z := -9223372036854775808) k dX5_price_15 (by decide +kernel) ?_
    exact hret _ _ _ _ dX5_price_18 (⟨by omega, by omega⟩) (⟨hR, by rw [if_neg (by omega)]⟩)
  · refine gg_aload_n k dX5_price_7 rfl ?_
    refine gg_iload_n k dX5_price_8 rfl ?_
    refine gg_calll (n := 1) (As := [.int (iI (w))]) (rest := []) k (kX5_priceOf hB hO hR (w) (by omega) (by omega)) ⟨_, _, _, gX5_price_X5_priceOf, rfl, rfl, rfl, by decide +kernel, by decide, by decide⟩ (cb0 hB) rfl rfl (Nat.le_of_ble_eq_true rfl) dX5_price_9 (fun z9 C9 r9 q9 => ?_)
    obtain ⟨hR, q9⟩ := q9
    obtain ⟨r9, s9⟩ := r9
    refine gg_goto (tgt := 18) k dX5_price_12 (by decide) ?_
    exact hret _ _ _ _ dX5_price_18 (⟨by omega, by omega⟩) (⟨hR, by rw [if_pos (by omega)]; exact q9⟩)
end
section
theorem cFl_put {C C' : gSt} {Lf : List fQ} (h : cFl C Lf) {a b c d : Int} (e : C' = wr (wr (wr (wr (wr C 62 ((Lf.length : Int) * 4) a) 62 ((Lf.length : Int) * 4 + 1) b) 62 ((Lf.length : Int) * 4 + 2) c) 62 ((Lf.length : Int) * 4 + 3) d) 61 0 ((Lf.length : Int) + 1)) : cFl C' (Lf ++ [(a, b, c, d)]) ∧ ∀ q : Nat, q ≠ 61 → q ≠ 62 → C' q = C q := by
  have h62 : ∀ j : Int, C' 62 j = if j = (Lf.length : Int) * 4 + 3 then d else if j = (Lf.length : Int) * 4 + 2 then c else if j = (Lf.length : Int) * 4 + 1 then b else if j = (Lf.length : Int) * 4 then a else C 62 j := fun j => by
    rw [e, wr_k (by omega), wr_w, wr_w, wr_w, wr_w]
  refine ⟨⟨?_, fun k x hx => ?_⟩, fun q h1 h2 => ?_⟩
  · rw [e, wr_s, List.length_append]; rfl
  · by_cases hk : k < Lf.length
    · rw [List.getElem?_append_left hk] at hx
      obtain ⟨q1, q2, q3, q4⟩ := h.2 k x hx
      rw [h62, h62, h62, h62]
      refine ⟨?_, ?_, ?_, ?_⟩
      · rw [if_neg (by omega), if_neg (by omega), if_neg (by omega), if_neg (by omega)]; exact q1
      · rw [if_neg (by omega), if_neg (by omega), if_neg (by omega), if_neg (by omega)]; exact q2
      · rw [if_neg (by omega), if_neg (by omega), if_neg (by omega), if_neg (by omega)]; exact q3
      · rw [if_neg (by omega), if_neg (by omega), if_neg (by omega), if_neg (by omega)]; exact q4
    · rw [List.getElem?_append_right (by omega)] at hx
      have hz : k - Lf.length < 1 := (List.getElem?_eq_some_iff.mp hx).1
      rw [show k - Lf.length = 0 by omega] at hx
      cases hx
      have hkl : (k : Int) = (Lf.length : Int) := by omega
      rw [h62, h62, h62, h62, hkl]
      refine ⟨?_, ?_, ?_, ?_⟩
      · rw [if_neg (by omega), if_neg (by omega), if_neg (by omega), if_pos (by omega)]
      · rw [if_neg (by omega), if_neg (by omega), if_pos (by omega)]
      · rw [if_neg (by omega), if_pos (by omega)]
      · rw [if_pos (by omega)]
  · rw [e, wr_k h1, wr_k h2, wr_k h2, wr_k h2, wr_k h2]
/-- all stores run, the machine followed -/
def cRdy (S : sS) (T : Int) (C : gSt) : Prop := cRel S T C ∧ (∀ i : Int, 0 ≤ i → i < sCnt S → cRun S i C T) ∧ cMach S C T
theorem cRun.kept {S : sS} {i n : Int} {C C' : gSt} (h : cRun S i C n) (h1 : C' (8 + 9 * i.toNat) = C (8 + 9 * i.toNat)) (h2 : C' (9 + 9 * i.toNat) = C (9 + 9 * i.toNat)) : cRun S i C' n := by
  unfold cRun
  rw [h1, h2]
  exact h
theorem cMach.kept {S : sS} {n : Int} {C C' : gSt} (h : cMach S C n) (h1 : C' 59 = C 59) (h2 : C' 60 = C 60) : cMach S C' n := by
  unfold cMach
  rw [h1, h2]
  exact h
theorem cRdy.kept {S : sS} {T : Int} (hO : sOk S T) {C C' : gSt} (h : cRdy S T C) (hk : ∀ q : Nat, q ≠ 61 → q ≠ 62 → C' q = C q) : cRdy S T C' := by
  have hc := hO.cnt
  refine ⟨h.1.of (fun q h1 _ _ => hk q (fun w => h1 (by unfold scr; omega)) (fun w => h1 (by unfold scr; omega))) (by rw [hk 60 (by omega) (by omega)]) (by rw [hk 65 (by omega) (by omega)]), fun i h0 h1 => (h.2.1 i h0 h1).kept (hk _ (by omega) (by omega)) (hk _ (by omega) (by omega)), h.2.2.kept (hk _ (by omega) (by omega)) (hk _ (by omega) (by omega))⟩
theorem fAll_get {S : sS} {T : Int} (h : sOk S T) {k : Int} (h0 : 0 ≤ k) (h1 : k < ((fAll S T.toNat).length : Int)) : (fAll S T.toNat)[k.toNat]? = some ((fAll S T.toNat).getD k.toNat (0, 0, 0, 0)) ∧ fRng ((fAll S T.toNat).getD k.toNat (0, 0, 0, 0)) := by
  have hl : k.toNat < (fAll S T.toNat).length := by omega
  have e : (fAll S T.toNat)[k.toNat]? = some ((fAll S T.toNat).getD k.toNat (0, 0, 0, 0)) := by
    rw [List.getD_eq_getElem?_getD, List.getElem?_eq_getElem hl]
    rfl
  exact ⟨e, fAll_r h T.toNat (by have := h.t; omega) _ (List.mem_of_getElem? e)⟩
end
section
theorem fX1_cell_15 : Cond.fieldLink RX1 15 "LotRules$FaultList" (TX1 1).2.1 (TX1 1).2.2.1 ∈ wsX1_cell := by decide +kernel
theorem fX1_put_9 : Cond.fieldLink RX1 9 "LotRules$FaultList" (TX1 0).2.1 (TX1 0).2.2.1 ∈ wsX1_put := by decide +kernel
theorem fX1_put_15 : Cond.fieldLink RX1 15 "LotRules$FaultList" (TX1 1).2.1 (TX1 1).2.2.1 ∈ wsX1_put := by decide +kernel
theorem fX5_fault_56 : Cond.fieldLink RX5 56 "LotRules" (TX5 6).2.1 (TX5 6).2.2.1 ∈ wsX5_fault := by decide +kernel
theorem fX5_fault_143 : Cond.fieldLink RX5 143 "LotRules$FaultList" (TX1 0).2.1 (TX1 0).2.2.1 ∈ wsX5_fault := by decide +kernel
theorem fX5_faults_56 : Cond.fieldLink RX5 56 "LotRules" (TX5 6).2.1 (TX5 6).2.2.1 ∈ wsX5_faults := by decide +kernel
theorem fX5_faults_143 : Cond.fieldLink RX5 143 "LotRules$FaultList" (TX1 0).2.1 (TX1 0).2.2.1 ∈ wsX5_faults := by decide +kernel
theorem fX5_findAboveMostOver_43 : Cond.fieldLink RX5 43 "LotRules" (TX5 4).2.1 (TX5 4).2.2.1 ∈ wsX5_findAboveMostOver := by decide +kernel
theorem fX5_findAboveMostOver_56 : Cond.fieldLink RX5 56 "LotRules" (TX5 6).2.1 (TX5 6).2.2.1 ∈ wsX5_findAboveMostOver := by decide +kernel
theorem fX5_findBelowLeast_26 : Cond.fieldLink RX5 26 "LotRules" (TX5 1).2.1 (TX5 1).2.2.1 ∈ wsX5_findBelowLeast := by decide +kernel
theorem fX5_findBelowLeast_33 : Cond.fieldLink RX5 33 "LotRules" (TX5 2).2.1 (TX5 2).2.2.1 ∈ wsX5_findBelowLeast := by decide +kernel
theorem fX5_findBelowLeast_56 : Cond.fieldLink RX5 56 "LotRules" (TX5 6).2.1 (TX5 6).2.2.1 ∈ wsX5_findBelowLeast := by decide +kernel
theorem fX5_findBelowLeast_71 : Cond.fieldLink RX5 71 "LotRules$Item" (TX2 0).2.1 (TX2 0).2.2.1 ∈ wsX5_findBelowLeast := by decide +kernel
theorem fX5_findBelowLeast_94 : Cond.fieldLink RX5 94 "LotRules$Item" (TX2 2).2.1 (TX2 2).2.2.1 ∈ wsX5_findBelowLeast := by decide +kernel
theorem fX5_findFaults_20 : Cond.fieldLink RX5 20 "LotRules" (TX5 0).2.1 (TX5 0).2.2.1 ∈ wsX5_findFaults := by decide +kernel
theorem fX5_findFaults_26 : Cond.fieldLink RX5 26 "LotRules" (TX5 1).2.1 (TX5 1).2.2.1 ∈ wsX5_findFaults := by decide +kernel
theorem fX5_findFaults_33 : Cond.fieldLink RX5 33 "LotRules" (TX5 2).2.1 (TX5 2).2.2.1 ∈ wsX5_findFaults := by decide +kernel
theorem fX5_findFaults_49 : Cond.fieldLink RX5 49 "LotRules" (TX5 5).2.1 (TX5 5).2.2.1 ∈ wsX5_findFaults := by decide +kernel
theorem fX5_findFaults_56 : Cond.fieldLink RX5 56 "LotRules" (TX5 6).2.1 (TX5 6).2.2.1 ∈ wsX5_findFaults := by decide +kernel
theorem fX5_findFaults_143 : Cond.fieldLink RX5 143 "LotRules$FaultList" (TX1 0).2.1 (TX1 0).2.2.1 ∈ wsX5_findFaults := by decide +kernel
theorem fX5_findOwing_26 : Cond.fieldLink RX5 26 "LotRules" (TX5 1).2.1 (TX5 1).2.2.1 ∈ wsX5_findOwing := by decide +kernel
theorem fX5_findOwing_33 : Cond.fieldLink RX5 33 "LotRules" (TX5 2).2.1 (TX5 2).2.2.1 ∈ wsX5_findOwing := by decide +kernel
theorem fX5_findOwing_56 : Cond.fieldLink RX5 56 "LotRules" (TX5 6).2.1 (TX5 6).2.2.1 ∈ wsX5_findOwing := by decide +kernel
theorem fX5_findOwing_108 : Cond.fieldLink RX5 108 "LotRules$Item" (TX2 4).2.1 (TX2 4).2.2.1 ∈ wsX5_findOwing := by decide +kernel
theorem inX1_cell_X1 : ∀ w ∈ u_ws RX1 TX1 2, w ∈ wsX1_cell := by decide +kernel
theorem inX1_put_X1 : ∀ w ∈ u_ws RX1 TX1 2, w ∈ wsX1_put := by decide +kernel
theorem inX5_fault_X1 : ∀ w ∈ u_ws RX1 TX1 2, w ∈ wsX5_fault := by decide +kernel
theorem inX5_fault_X5 : ∀ w ∈ u_ws RX5 TX5 8, w ∈ wsX5_fault := by decide +kernel
theorem inX5_faults_X1 : ∀ w ∈ u_ws RX1 TX1 2, w ∈ wsX5_faults := by decide +kernel
theorem inX5_faults_X5 : ∀ w ∈ u_ws RX5 TX5 8, w ∈ wsX5_faults := by decide +kernel
theorem inX5_findAboveMostOver_X5 : ∀ w ∈ u_ws RX5 TX5 8, w ∈ wsX5_findAboveMostOver := by decide +kernel
theorem inX5_findBelowLeast_X2 : ∀ w ∈ u_ws RX2 TX2 5, w ∈ wsX5_findBelowLeast := by decide +kernel
theorem inX5_findBelowLeast_X5 : ∀ w ∈ u_ws RX5 TX5 8, w ∈ wsX5_findBelowLeast := by decide +kernel
theorem inX5_findFaults_X1 : ∀ w ∈ u_ws RX1 TX1 2, w ∈ wsX5_findFaults := by decide +kernel
theorem inX5_findFaults_X5 : ∀ w ∈ u_ws RX5 TX5 8, w ∈ wsX5_findFaults := by decide +kernel
theorem inX5_findOwing_X2 : ∀ w ∈ u_ws RX2 TX2 5, w ∈ wsX5_findOwing := by decide +kernel
theorem inX5_findOwing_X5 : ∀ w ∈ u_ws RX5 TX5 8, w ∈ wsX5_findOwing := by decide +kernel
end
section
abbrev rX1_put : Room := { frames := 0, cells := 0, slots := 0, locals := 0 }
set_option maxRecDepth 100000 in
set_option maxHeartbeats 4000000 in
theorem kX1_put {l : Launch} {B : gB} {T : Int} {C : gSt} (hB : clsB B T) (hT : 1 ≤ T ∧ T ≤ 12) (Lf : List fQ) (hf : cFl C Lf) (hl : (Lf.length : Int) < 13 * T) (a b c d : Int) : gMv l B yX1_put wsX1_put rX1_put [.ref (gad B (61)), .int (iI (a)), .int (iI (b)), .int (iI (c)), .int (iI (d))] C (fun C' => cFl C' (Lf ++ [(a, b, c, d)]) ∧ ∀ q : Nat, q ≠ 61 → q ≠ 62 → C' q = C q) := by
  refine gMv_of (cc := cX1_put) (nL := 6) (by decide) rfl (Nat.le_of_ble_eq_true rfl) (fun K k hret => ?_)
  have k : gOk K B l rX1_put 6 cX1_put RX1 wsX1_put := k
  show GG K B C 0 [(0, .ref (gad B (61))), (1, .int (iI (a))), (2, .int (iI (b))), (3, .int (iI (c))), (4, .int (iI (d)))] []
  refine gg_aload_n k dX1_put_0 rfl ?_
  refine gg_get k (cbFL hB) inX1_put_X1 0 (by decide) fX1_put_9 rfl rfl dX1_put_1 ?_
  refine gg_ti (hf.1) ?_
  refine gg_iconst k dX1_put_4 ?_
  refine gg_imul k dX1_put_5 ?_
  refine gg_istore k [(5, .int (iI (((Lf.length : Int)) * 4))), (0, .ref (gad B (61))), (1, .int (iI (a))), (2, .int (iI (b))), (3, .int (iI (c))), (4, .int (iI (d)))] dX1_put_6 (by decide) rfl ?_
  refine gg_aload_n k dX1_put_8 rfl ?_
  refine gg_get k (cbFL hB) inX1_put_X1 1 (by decide) fX1_put_15 rfl rfl dX1_put_9 ?_
  refine gg_iload k dX1_put_12 rfl ?_
  refine gg_iload_n k dX1_put_14 rfl ?_
  refine gg_iast k (cbCells hB) (by omega) (by omega) dX1_put_15 ?_
  refine gg_nm (fun C15 e15 => ?_)
  refine gg_aload_n k dX1_put_16 rfl ?_
  refine gg_get k (cbFL hB) inX1_put_X1 1 (by decide) fX1_put_15 rfl rfl dX1_put_17 ?_
  refine gg_iload k dX1_put_20 rfl ?_
  refine gg_iconst k dX1_put_22 ?_
  refine gg_iadd k dX1_put_23 ?_
  refine gg_iload_n k dX1_put_24 rfl ?_
  refine gg_iast k (cbCells hB) (by omega) (by omega) dX1_put_25 ?_
  refine gg_nm (fun C25 e25 => ?_)
  refine gg_aload_n k dX1_put_26 rfl ?_
  refine gg_get k (cbFL hB) inX1_put_X1 1 (by decide) fX1_put_15 rfl rfl dX1_put_27 ?_
  refine gg_iload k dX1_put_30 rfl ?_
  refine gg_iconst k dX1_put_32 ?_
  refine gg_iadd k dX1_put_33 ?_
  refine gg_iload_n k dX1_put_34 rfl ?_
  refine gg_iast k (cbCells hB) (by omega) (by omega) dX1_put_35 ?_
  refine gg_nm (fun C35 e35 => ?_)
  refine gg_aload_n k dX1_put_36 rfl ?_
  refine gg_get k (cbFL hB) inX1_put_X1 1 (by decide) fX1_put_15 rfl rfl dX1_put_37 ?_
  refine gg_iload k dX1_put_40 rfl ?_
  refine gg_iconst k dX1_put_42 ?_
  refine gg_iadd k dX1_put_43 ?_
  refine gg_iload k dX1_put_44 rfl ?_
  refine gg_iast k (cbCells hB) (by omega) (by omega) dX1_put_46 ?_
  refine gg_nm (fun C46 e46 => ?_)
  refine gg_aload_n k dX1_put_47 rfl ?_
  refine gg_dup k dX1_put_48 rfl ?_
  refine gg_get k (cbFL hB) inX1_put_X1 0 (by decide) fX1_put_9 rfl rfl dX1_put_49 ?_
  refine gg_ti (show C46 61 0 = (Lf.length : Int) by rw [e46, wr_k (by omega), e35, wr_k (by omega), e25, wr_k (by omega), e15, wr_k (by omega)]; exact hf.1) ?_
  refine gg_iconst k dX1_put_52 ?_
  refine gg_iadd k dX1_put_53 ?_
  refine gg_put (e := 0) k (cbFL hB) inX1_put_X1 tyX1 tyX1_ok nmX1 0 (by decide) fX1_put_9 rfl rfl rfl (Nat.le_of_ble_eq_true rfl) rfl dX1_put_54 ?_
  refine gg_nm (fun C54 e54 => ?_)
  exact hret _ _ _ dX1_put_57 (cFl_put hf (by rw [e54, e46, e35, e25, e15]))

abbrev rX1_cell : Room := { frames := 0, cells := 0, slots := 0, locals := 0 }
set_option maxRecDepth 100000 in
set_option maxHeartbeats 4000000 in
theorem kX1_cell {l : Launch} {B : gB} {T : Int} {C : gSt} (hB : clsB B T) (hT : 1 ≤ T ∧ T ≤ 12) (r w : Int) (hr0 : 0 ≤ r) (hr1 : r < 13 * T) (hw0 : 0 ≤ w) (hw1 : w < 4) (hC : rI (C 62 (4 * r + w))) : gMi l B yX1_cell wsX1_cell rX1_cell [.ref (gad B (61)), .int (iI (r)), .int (iI (w))] C (fun z C' => z = C 62 (4 * r + w) ∧ C' = C) := by
  refine gMi_of (ty := .int) rfl (cc := cX1_cell) (nL := 3) (by decide) rfl (Nat.le_of_ble_eq_true rfl) (fun K k hret => ?_)
  have k : gOk K B l rX1_cell 3 cX1_cell RX1 wsX1_cell := k
  show GG K B C 0 [(0, .ref (gad B (61))), (1, .int (iI (r))), (2, .int (iI (w)))] []
  refine gg_aload_n k dX1_cell_0 rfl ?_
  refine gg_get k (cbFL hB) inX1_cell_X1 1 (by decide) fX1_cell_15 rfl rfl dX1_cell_1 ?_
  refine gg_iload_n k dX1_cell_4 rfl ?_
  refine gg_iconst k dX1_cell_5 ?_
  refine gg_imul k dX1_cell_6 ?_
  refine gg_iload_n k dX1_cell_7 rfl ?_
  refine gg_iadd k dX1_cell_8 ?_
  refine gg_iald k (cbCells hB) (by omega) (by omega) dX1_cell_9 ?_
  refine gg_ti (show C 62 (r * 4 + w) = C 62 (4 * r + w) by rw [Int.mul_comm]) ?_
  exact hret _ _ _ _ dX1_cell_10 (hC) (⟨rfl, rfl⟩)

abbrev rX5_findOwing : Room := { frames := 2, cells := 0, slots := 0, locals := 45 }
set_option maxRecDepth 100000 in
set_option maxHeartbeats 4000000 in
theorem kX5_findOwing {l : Launch} {B : gB} {T : Int} {S : sS} {C : gSt} (hB : clsB B T) (hO : sOk S T) (hy : cRdy S T C) (Lf : List fQ) (hf : cFl C Lf) (p : Int) (hp0 : 1 ≤ p) (hp1 : p ≤ T) (hl : (Lf.length : Int) + 13 ≤ 13 * T) : gMv l B yX5_findOwing wsX5_findOwing rX5_findOwing [.ref (gad B (0)), .int (iI (p))] C (fun C' => cRdy S T C' ∧ cFl C' (Lf ++ fOw S p (sCnt S).toNat)) := by
  refine gMv_of (cc := cX5_findOwing) (nL := 4) (by decide) rfl (Nat.le_of_ble_eq_true rfl) (fun K k hret => ?_)
  have k : gOk K B l rX5_findOwing 4 cX5_findOwing RX5 wsX5_findOwing := k
  show GG K B C 0 [(0, .ref (gad B (0))), (1, .int (iI (p)))] []
  have hT := hO.t
  have hc := hO.cnt
  have hR := hy.1
  refine gg_iconst k dX5_findOwing_0 ?_
  refine gg_istore_n k [(2, .int (iI (0))), (0, .ref (gad B (0))), (1, .int (iI (p)))] dX5_findOwing_1 (by decide) rfl ?_
  have L2 : ∀ (n2 : Nat) (i : Int) (C1 : gSt), 0 ≤ i → i ≤ sCnt S → cRdy S T C1 → cFl C1 (Lf ++ fOw S p i.toNat) → sCnt S - i < (n2 : Int) → GG K B C1 2 [(0, .ref (gad B (0))), (1, .int (iI (p))), (2, .int (iI (i)))] [] := by
    intro n2
    induction n2 with
    | zero =>
      intro i C1 hi0 hi1 hy hf hn2
      exact absurd hn2 (by omega)
    | succ n2 ih2 =>
      intro i C1 hi0 hi1 hy hf hn2
      have hR := hy.1
      have hln := fOw_l (S := S) (p := p) i.toNat
      refine gg_iload_n k dX5_findOwing_2 rfl ?_
      refine gg_aload_n k dX5_findOwing_3 rfl ?_
      refine gg_get k (cb0 hB) inX5_findOwing_X5 2 (by decide) fX5_findOwing_33 rfl rfl dX5_findOwing_4 ?_
      refine gg_ti hR.cnt ?_
      refine gg_icmp_ge k 45 dX5_findOwing_7 (by decide) ⟨by omega, by omega⟩ ⟨by omega, by omega⟩ (fun c7 => ?_) (fun c7 => ?_)
      · exact hret _ _ _ dX5_findOwing_45 (⟨hy, by rw [← show i = sCnt S by omega]; exact hf⟩)
      · refine gg_aload_n k dX5_findOwing_10 rfl ?_
        refine gg_get k (cb0 hB) inX5_findOwing_X5 1 (by decide) fX5_findOwing_26 rfl rfl dX5_findOwing_11 ?_
        refine gg_iload_n k dX5_findOwing_14 rfl ?_
        refine gg_aald k (cb1 hB) (by omega) (by omega) dX5_findOwing_15 ?_
        refine gg_get k (cbItem hB (by omega) (by omega)) inX5_findOwing_X2 4 (by decide) fX5_findOwing_108 rfl rfl dX5_findOwing_16 ?_
        refine gg_iload_n k dX5_findOwing_19 rfl ?_
        refine gg_calli (n := 1) (As := [.int (iI (p))]) (rest := []) k (kX4_owedAt hB hT (i := i) (by omega) (by omega) p (by omega) (by omega) (by rw [(hy.2.1 i (by omega) (by omega)).1 p (by omega) (by omega)]; have := sStk_b hO i p.toNat (by omega); omega)) ⟨_, _, _, gX5_findOwing_X4_owedAt, rfl, rfl, rfl, by decide +kernel, by decide, by decide⟩ (cbStore hB (by omega) (by omega)) rfl rfl (Nat.le_of_ble_eq_true rfl) dX5_findOwing_20 (fun z20 C20 r20 q20 => ?_)
        obtain ⟨q20, e20⟩ := q20
        rw [e20]
        clear e20
        obtain ⟨r20, s20⟩ := r20
        have hq20 : z20 = (sRun S i p.toNat).2 := by rw [q20, (hy.2.1 i (by omega) (by omega)).1 p (by omega) (by omega)]; exact sOwed hO i p.toNat
        refine gg_istore_n k [(3, .int (iI (z20))), (0, .ref (gad B (0))), (1, .int (iI (p))), (2, .int (iI (i)))] dX5_findOwing_23 (by decide) rfl ?_
        refine gg_iload_n k dX5_findOwing_24 rfl ?_
        refine gg_if_le k 39 dX5_findOwing_25 (by decide) ⟨by omega, by omega⟩ (fun c25 => ?_) (fun c25 => ?_)
        · refine gg_iinc k 3 [(2, .int (iI (i + 1))), (3, .int (iI (z20))), (0, .ref (gad B (0))), (1, .int (iI (p)))] dX5_findOwing_39 rfl (by decide) rfl ?_
          refine gg_goto (tgt := 2) k dX5_findOwing_42 (by decide) ?_
          refine gg_sub [2, 3, 0] rfl ?_
          exact ih2 (i + 1) (C1) (by omega) (by omega) (hy) (by rw [fOw_s hi0, if_neg (by omega), List.append_nil]; exact hf) (by omega)
        · refine gg_aload_n k dX5_findOwing_28 rfl ?_
          refine gg_get k (cb0 hB) inX5_findOwing_X5 6 (by decide) fX5_findOwing_56 rfl rfl dX5_findOwing_29 ?_
          refine gg_iconst k dX5_findOwing_32 ?_
          refine gg_iload_n k dX5_findOwing_33 rfl ?_
          refine gg_iload_n k dX5_findOwing_34 rfl ?_
          refine gg_iload_n k dX5_findOwing_35 rfl ?_
          refine gg_callv (n := 4) (As := [.int (iI (1)), .int (iI (p)), .int (iI (i)), .int (iI (z20))]) (rest := []) k (kX1_put hB hT _ hf (by rw [List.length_append]; push_cast; omega) (1) (p) (i) (z20)) ⟨_, _, _, gX5_findOwing_X1_put, rfl, rfl, rfl, by decide +kernel, by decide, by decide⟩ (cbFL hB) rfl rfl (Nat.le_of_ble_eq_true rfl) dX5_findOwing_36 (fun C36 q36 => ?_)
          obtain ⟨hf36, hk36⟩ := q36
          have hy36 := hy.kept hO hk36
          refine gg_iinc k 3 [(2, .int (iI (i + 1))), (3, .int (iI (z20))), (0, .ref (gad B (0))), (1, .int (iI (p)))] dX5_findOwing_39 rfl (by decide) rfl ?_
          refine gg_goto (tgt := 2) k dX5_findOwing_42 (by decide) ?_
          refine gg_sub [2, 3, 0] rfl ?_
          exact ih2 (i + 1) (C36) (by omega) (by omega) (hy36) (by rw [fOw_s hi0, if_pos (by omega), ← List.append_assoc, ← hq20]; exact hf36) (by omega)
  refine gg_sub [1, 2, 0] rfl ?_
  exact L2 ((sCnt S - 0).toNat + 1) (0) (C) (by omega) (by omega) (hy) (by rw [show fOw S p (0 : Int).toNat = [] from rfl, List.append_nil]; exact hf) (by omega)

abbrev rX5_findBelowLeast : Room := { frames := 1, cells := 0, slots := 0, locals := 25 }
set_option maxRecDepth 100000 in
set_option maxHeartbeats 4000000 in
theorem kX5_findBelowLeast {l : Launch} {B : gB} {T : Int} {S : sS} {C : gSt} (hB : clsB B T) (hO : sOk S T) (hy : cRdy S T C) (Lf : List fQ) (hf : cFl C Lf) (p : Int) (hp0 : 1 ≤ p) (hp1 : p ≤ T) (hl : (Lf.length : Int) + 7 ≤ 13 * T) : gMv l B yX5_findBelowLeast wsX5_findBelowLeast rX5_findBelowLeast [.ref (gad B (0)), .int (iI (p))] C (fun C' => cRdy S T C' ∧ cFl C' (Lf ++ fLe S p (sCnt S).toNat)) := by
  refine gMv_of (cc := cX5_findBelowLeast) (nL := 5) (by decide) rfl (Nat.le_of_ble_eq_true rfl) (fun K k hret => ?_)
  have k : gOk K B l rX5_findBelowLeast 5 cX5_findBelowLeast RX5 wsX5_findBelowLeast := k
  show GG K B C 0 [(0, .ref (gad B (0))), (1, .int (iI (p)))] []
  have hT := hO.t
  have hc := hO.cnt
  have hR := hy.1
  refine gg_iconst k dX5_findBelowLeast_0 ?_
  refine gg_istore_n k [(2, .int (iI (0))), (0, .ref (gad B (0))), (1, .int (iI (p)))] dX5_findBelowLeast_1 (by decide) rfl ?_
  have L2 : ∀ (n2 : Nat) (i : Int) (C1 : gSt), 0 ≤ i → i ≤ sCnt S → cRdy S T C1 → cFl C1 (Lf ++ fLe S p i.toNat) → sCnt S - i < (n2 : Int) → GG K B C1 2 [(0, .ref (gad B (0))), (1, .int (iI (p))), (2, .int (iI (i)))] [] := by
    intro n2
    induction n2 with
    | zero =>
      intro i C1 hi0 hi1 hy hf hn2
      exact absurd hn2 (by omega)
    | succ n2 ih2 =>
      intro i C1 hi0 hi1 hy hf hn2
      have hR := hy.1
      have hln := fLe_l (S := S) (p := p) i.toNat
      refine gg_iload_n k dX5_findBelowLeast_2 rfl ?_
      refine gg_aload_n k dX5_findBelowLeast_3 rfl ?_
      refine gg_get k (cb0 hB) inX5_findBelowLeast_X5 2 (by decide) fX5_findBelowLeast_33 rfl rfl dX5_findBelowLeast_4 ?_
      refine gg_ti hR.cnt ?_
      refine gg_icmp_ge k 65 dX5_findBelowLeast_7 (by decide) ⟨by omega, by omega⟩ ⟨by omega, by omega⟩ (fun c7 => ?_) (fun c7 => ?_)
      · exact hret _ _ _ dX5_findBelowLeast_65 (⟨hy, by rw [← show i = sCnt S by omega]; exact hf⟩)
      · refine gg_aload_n k dX5_findBelowLeast_10 rfl ?_
        refine gg_get k (cb0 hB) inX5_findBelowLeast_X5 1 (by decide) fX5_findBelowLeast_26 rfl rfl dX5_findBelowLeast_11 ?_
        refine gg_iload_n k dX5_findBelowLeast_14 rfl ?_
        refine gg_aald k (cb1 hB) (by omega) (by omega) dX5_findBelowLeast_15 ?_
        refine gg_get k (cbItem hB (by omega) (by omega)) inX5_findBelowLeast_X2 2 (by decide) fX5_findBelowLeast_94 rfl rfl dX5_findBelowLeast_16 ?_
        refine gg_iload_n k dX5_findBelowLeast_19 rfl ?_
        refine gg_iald k (cbLot hB (by omega) (by omega)) (by omega) (by omega) dX5_findBelowLeast_20 ?_
        refine gg_ti (hR.lot _ (by omega) (by omega)) ?_
        have b20 := hO.lot (i) (p)
        refine gg_istore_n k [(3, .int (iI (sLot S (i) (p)))), (0, .ref (gad B (0))), (1, .int (iI (p))), (2, .int (iI (i)))] dX5_findBelowLeast_21 (by decide) rfl ?_
        refine gg_aload_n k dX5_findBelowLeast_22 rfl ?_
        refine gg_get k (cb0 hB) inX5_findBelowLeast_X5 1 (by decide) fX5_findBelowLeast_26 rfl rfl dX5_findBelowLeast_23 ?_
        refine gg_iload_n k dX5_findBelowLeast_26 rfl ?_
        refine gg_aald k (cb1 hB) (by omega) (by omega) dX5_findBelowLeast_27 ?_
        refine gg_get k (cbItem hB (by omega) (by omega)) inX5_findBelowLeast_X2 0 (by decide) fX5_findBelowLeast_71 rfl rfl dX5_findBelowLeast_28 ?_
        refine gg_iconst k dX5_findBelowLeast_31 ?_
        refine gg_iald k (cbNum hB (by omega) (by omega)) (by omega) (by omega) dX5_findBelowLeast_32 ?_
        refine gg_ti (hR.num _ (by omega) (by omega)) ?_
        have b32 := hO.n2 (i)
        refine gg_istore k [(4, .int (iI (sNum S (i) (2)))), (3, .int (iI (sLot S (i) (p)))), (0, .ref (gad B (0))), (1, .int (iI (p))), (2, .int (iI (i)))] dX5_findBelowLeast_33 (by decide) rfl ?_
        refine gg_iload_n k dX5_findBelowLeast_35 rfl ?_
        refine gg_if_le k 59 dX5_findBelowLeast_36 (by decide) ⟨by omega, by omega⟩ (fun c36 => ?_) (fun c36 => ?_)
        · refine gg_iinc k 4 [(2, .int (iI (i + 1))), (4, .int (iI (sNum S (i) (2)))), (3, .int (iI (sLot S (i) (p)))), (0, .ref (gad B (0))), (1, .int (iI (p)))] dX5_findBelowLeast_59 rfl (by decide) rfl ?_
          refine gg_goto (tgt := 2) k dX5_findBelowLeast_62 (by decide) ?_
          refine gg_sub [3, 4, 0] rfl ?_
          exact ih2 (i + 1) (C1) (by omega) (by omega) (hy) (by rw [fLe_s hi0, if_neg (by omega), List.append_nil]; exact hf) (by omega)
        · refine gg_iload_n k dX5_findBelowLeast_39 rfl ?_
          refine gg_iload k dX5_findBelowLeast_40 rfl ?_
          refine gg_icmp_ge k 59 dX5_findBelowLeast_42 (by decide) ⟨by omega, by omega⟩ ⟨by omega, by omega⟩ (fun c42 => ?_) (fun c42 => ?_)
          · refine gg_iinc k 4 [(2, .int (iI (i + 1))), (4, .int (iI (sNum S (i) (2)))), (3, .int (iI (sLot S (i) (p)))), (0, .ref (gad B (0))), (1, .int (iI (p)))] dX5_findBelowLeast_59 rfl (by decide) rfl ?_
            refine gg_goto (tgt := 2) k dX5_findBelowLeast_62 (by decide) ?_
            refine gg_sub [3, 4, 0] rfl ?_
            exact ih2 (i + 1) (C1) (by omega) (by omega) (hy) (by rw [fLe_s hi0, if_neg (by omega), List.append_nil]; exact hf) (by omega)
          · refine gg_aload_n k dX5_findBelowLeast_45 rfl ?_
            refine gg_get k (cb0 hB) inX5_findBelowLeast_X5 6 (by decide) fX5_findBelowLeast_56 rfl rfl dX5_findBelowLeast_46 ?_
            refine gg_iconst k dX5_findBelowLeast_49 ?_
            refine gg_iload_n k dX5_findBelowLeast_50 rfl ?_
            refine gg_iload_n k dX5_findBelowLeast_51 rfl ?_
            refine gg_iload k dX5_findBelowLeast_52 rfl ?_
            refine gg_iload_n k dX5_findBelowLeast_54 rfl ?_
            refine gg_isub k dX5_findBelowLeast_55 ?_
            refine gg_callv (n := 4) (As := [.int (iI (2)), .int (iI (p)), .int (iI (i)), .int (iI ((sNum S (i) (2)) - (sLot S (i) (p))))]) (rest := []) k (kX1_put hB hT _ hf (by rw [List.length_append]; push_cast; omega) (2) (p) (i) ((sNum S (i) (2)) - (sLot S (i) (p)))) ⟨_, _, _, gX5_findBelowLeast_X1_put, rfl, rfl, rfl, by decide +kernel, by decide, by decide⟩ (cbFL hB) rfl rfl (Nat.le_of_ble_eq_true rfl) dX5_findBelowLeast_56 (fun C56 q56 => ?_)
            obtain ⟨hf56, hk56⟩ := q56
            have hy56 := hy.kept hO hk56
            refine gg_iinc k 4 [(2, .int (iI (i + 1))), (4, .int (iI (sNum S (i) (2)))), (3, .int (iI (sLot S (i) (p)))), (0, .ref (gad B (0))), (1, .int (iI (p)))] dX5_findBelowLeast_59 rfl (by decide) rfl ?_
            refine gg_goto (tgt := 2) k dX5_findBelowLeast_62 (by decide) ?_
            refine gg_sub [3, 4, 0] rfl ?_
            exact ih2 (i + 1) (C56) (by omega) (by omega) (hy56) (by rw [fLe_s hi0, if_pos (by omega), ← List.append_assoc]; exact hf56) (by omega)
  refine gg_sub [1, 2, 0] rfl ?_
  exact L2 ((sCnt S - 0).toNat + 1) (0) (C) (by omega) (by omega) (hy) (by rw [show fLe S p (0 : Int).toNat = [] from rfl, List.append_nil]; exact hf) (by omega)

abbrev rX5_findAboveMostOver : Room := { frames := 3, cells := 0, slots := 0, locals := 67 }
set_option maxRecDepth 100000 in
set_option maxHeartbeats 4000000 in
theorem kX5_findAboveMostOver {l : Launch} {B : gB} {T : Int} {S : sS} {C : gSt} (hB : clsB B T) (hO : sOk S T) (hy : cRdy S T C) (Lf : List fQ) (hf : cFl C Lf) (p : Int) (hp0 : 1 ≤ p) (hp1 : p ≤ T) (hl : (Lf.length : Int) + 1 ≤ 13 * T) : gMv l B yX5_findAboveMostOver wsX5_findAboveMostOver rX5_findAboveMostOver [.ref (gad B (0)), .int (iI (p))] C (fun C' => cRdy S T C' ∧ cFl C' (Lf ++ fOv S p)) := by
  refine gMv_of (cc := cX5_findAboveMostOver) (nL := 4) (by decide) rfl (Nat.le_of_ble_eq_true rfl) (fun K k hret => ?_)
  have k : gOk K B l rX5_findAboveMostOver 4 cX5_findAboveMostOver RX5 wsX5_findAboveMostOver := k
  show GG K B C 0 [(0, .ref (gad B (0))), (1, .int (iI (p)))] []
  have hT := hO.t
  have hc := hO.cnt
  have hR := hy.1
  refine gg_aload_n k dX5_findAboveMostOver_0 rfl ?_
  refine gg_iload_n k dX5_findAboveMostOver_1 rfl ?_
  refine gg_calll (n := 1) (As := [.int (iI (p))]) (rest := []) k (kX5_overOf hB hO hR hy.2.2 p (by omega) (by omega)) ⟨_, _, _, gX5_findAboveMostOver_X5_overOf, rfl, rfl, rfl, by decide +kernel, by decide, by decide⟩ (cb0 hB) rfl rfl (Nat.le_of_ble_eq_true rfl) dX5_findAboveMostOver_2 (fun z2 C2 r2 q2 => ?_)
  obtain ⟨q2, e2⟩ := q2
  rw [e2]
  clear e2
  obtain ⟨r2, s2⟩ := r2
  have ob2 := sOver_b hO p
  refine gg_aload_n k dX5_findAboveMostOver_5 rfl ?_
  refine gg_get k (cb0 hB) inX5_findAboveMostOver_X5 4 (by decide) fX5_findAboveMostOver_43 rfl rfl dX5_findAboveMostOver_6 ?_
  refine gg_iconst k dX5_findAboveMostOver_9 ?_
  refine gg_iald k (cbOvr hB) (by omega) (by omega) dX5_findAboveMostOver_10 ?_
  refine gg_ti (hR.ovr _) ?_
  have b10 := hO.ovr (1)
  refine gg_i2l k dX5_findAboveMostOver_11 ⟨by omega, by omega⟩ ?_
  refine gg_lsub k dX5_findAboveMostOver_12 ?_
  refine gg_lstore_n k [(2, .long (iL (z2 - (sOvr S (1))))), (0, .ref (gad B (0))), (1, .int (iI (p)))] dX5_findAboveMostOver_13 (by decide) rfl ?_
  refine gg_lload_n k dX5_findAboveMostOver_14 rfl ?_
  refine gg_lconst0 k dX5_findAboveMostOver_15 ?_
  refine gg_lt_le k 33 dX5_findAboveMostOver_16 dX5_findAboveMostOver_17 (by decide) ⟨by omega, by omega⟩ ⟨by omega, by omega⟩ (fun c16 => ?_) (fun c16 => ?_)
  · exact hret _ _ _ dX5_findAboveMostOver_33 (⟨hy, by unfold fOv; rw [if_neg (by omega), List.append_nil]; exact hf⟩)
  · refine gg_aload_n k dX5_findAboveMostOver_20 rfl ?_
    refine gg_get k (cb0 hB) inX5_findAboveMostOver_X5 6 (by decide) fX5_findAboveMostOver_56 rfl rfl dX5_findAboveMostOver_21 ?_
    refine gg_iconst k dX5_findAboveMostOver_24 ?_
    refine gg_iload_n k dX5_findAboveMostOver_25 rfl ?_
    refine gg_bipush k dX5_findAboveMostOver_26 (by decide +kernel) ?_
    refine gg_lload_n k dX5_findAboveMostOver_28 rfl ?_
    refine gg_l2i k dX5_findAboveMostOver_29 ?_
    refine gg_callv (n := 4) (As := [.int (iI (3)), .int (iI (p)), .int (iI (-3)), .int (iI (z2 - (sOvr S (1))))]) (rest := []) k (kX1_put hB hT _ hf (by omega) (3) (p) (-3) (z2 - (sOvr S (1)))) ⟨_, _, _, gX5_findAboveMostOver_X1_put, rfl, rfl, rfl, by decide +kernel, by decide, by decide⟩ (cbFL hB) rfl rfl (Nat.le_of_ble_eq_true rfl) dX5_findAboveMostOver_30 (fun C30 q30 => ?_)
    obtain ⟨hf30, hk30⟩ := q30
    have hy30 := hy.kept hO hk30
    exact hret _ _ _ dX5_findAboveMostOver_33 (⟨hy30, by unfold fOv; rw [if_pos (by omega), ← q2]; exact hf30⟩)

abbrev rX5_findFaults : Room := { frames := 4, cells := 0, slots := 0, locals := 96 }
set_option maxRecDepth 100000 in
set_option maxHeartbeats 4000000 in
theorem kX5_findFaults {l : Launch} {B : gB} {T : Int} {S : sS} {C : gSt} (hB : clsB B T) (hO : sOk S T) (hR : cRel S T C)  : gMv l B yX5_findFaults wsX5_findFaults rX5_findFaults [.ref (gad B (0))] C (fun C' => cRel S T C' ∧ cFl C' (fAll S T.toNat)) := by
  refine gMv_of (cc := cX5_findFaults) (nL := 2) (by decide) rfl (Nat.le_of_ble_eq_true rfl) (fun K k hret => ?_)
  have k : gOk K B l rX5_findFaults 2 cX5_findFaults RX5 wsX5_findFaults := k
  show GG K B C 0 [(0, .ref (gad B (0)))] []
  have hT := hO.t
  have hc := hO.cnt
  
  refine gg_iconst k dX5_findFaults_0 ?_
  refine gg_istore_n k [(1, .int (iI (0))), (0, .ref (gad B (0)))] dX5_findFaults_1 (by decide) rfl ?_
  have L2 : ∀ (n2 : Nat) (i : Int) (C1 : gSt), 0 ≤ i → i ≤ sCnt S → cRel S T C1 → (∀ x : Int, 0 ≤ x → x < i → cRun S x C1 T) → sCnt S - i < (n2 : Int) → GG K B C1 2 [(0, .ref (gad B (0))), (1, .int (iI (i)))] [] := by
    intro n2
    induction n2 with
    | zero =>
      intro i C1 hi0 hi1 hR hru hn2
      exact absurd hn2 (by omega)
    | succ n2 ih2 =>
      intro i C1 hi0 hi1 hR hru hn2
      refine gg_iload_n k dX5_findFaults_2 rfl ?_
      refine gg_aload_n k dX5_findFaults_3 rfl ?_
      refine gg_get k (cb0 hB) inX5_findFaults_X5 2 (by decide) fX5_findFaults_33 rfl rfl dX5_findFaults_4 ?_
      refine gg_ti hR.cnt ?_
      refine gg_icmp_ge k 21 dX5_findFaults_7 (by decide) ⟨by omega, by omega⟩ ⟨by omega, by omega⟩ (fun c7 => ?_) (fun c7 => ?_)
      · refine gg_aload_n k dX5_findFaults_21 rfl ?_
        refine gg_get k (cb0 hB) inX5_findFaults_X5 5 (by decide) fX5_findFaults_49 rfl rfl dX5_findFaults_22 ?_
        refine gg_aload_n k dX5_findFaults_25 rfl ?_
        refine gg_get k (cb0 hB) inX5_findFaults_X5 1 (by decide) fX5_findFaults_26 rfl rfl dX5_findFaults_26 ?_
        refine gg_aload_n k dX5_findFaults_29 rfl ?_
        refine gg_get k (cb0 hB) inX5_findFaults_X5 2 (by decide) fX5_findFaults_33 rfl rfl dX5_findFaults_30 ?_
        refine gg_ti hR.cnt ?_
        refine gg_callv (n := 2) (As := [.ref (gad B (1)), .int (iI (sCnt S))]) (rest := []) k (kX3_follow hB hO hR) ⟨_, _, _, gX5_findFaults_X3_follow, rfl, rfl, rfl, by decide +kernel, by decide, by decide⟩ (cbMach hB) rfl rfl (Nat.le_of_ble_eq_true rfl) dX5_findFaults_33 (fun C33 q33 => ?_)
        obtain ⟨hR, hm33, hk33⟩ := q33
        refine gg_aload_n k dX5_findFaults_36 rfl ?_
        refine gg_get k (cb0 hB) inX5_findFaults_X5 6 (by decide) fX5_findFaults_56 rfl rfl dX5_findFaults_37 ?_
        refine gg_iconst k dX5_findFaults_40 ?_
        refine gg_put (e := 0) k (cbFL hB) inX5_findFaults_X1 tyX1 tyX1_ok nmX1 0 (by decide) fX5_findFaults_143 rfl rfl rfl (Nat.le_of_ble_eq_true rfl) rfl dX5_findFaults_41 ?_
        refine gg_nm (fun C41 e41 => ?_)
        have hy33 : cRdy S T C33 := ⟨hR, fun x h0 h1 => (hru x h0 (by omega)).kept (hk33 _ (by omega) (by omega)) (hk33 _ (by omega) (by omega)), hm33⟩
        have hy41 : cRdy S T C41 := hy33.kept hO (fun q h1 h2 => by rw [e41, wr_k h1])
        refine gg_iconst k dX5_findFaults_44 ?_
        refine gg_istore_n k [(1, .int (iI (1))), (0, .ref (gad B (0)))] dX5_findFaults_45 (by decide) rfl ?_
        have L46 : ∀ (n46 : Nat) (p : Int) (C2 : gSt), 1 ≤ p → p ≤ T + 1 → cRdy S T C2 → cFl C2 (fAll S (p - 1).toNat) → T + 1 - p < (n46 : Int) → GG K B C2 46 [(0, .ref (gad B (0))), (1, .int (iI (p)))] [] := by
          intro n46
          induction n46 with
          | zero =>
            intro p C2 hp0 hp1 hy hf hn46
            exact absurd hn46 (by omega)
          | succ n46 ih46 =>
            intro p C2 hp0 hp1 hy hf hn46
            have hR := hy.1
            have hln := fAll_l hO (p - 1).toNat
            refine gg_iload_n k dX5_findFaults_46 rfl ?_
            refine gg_aload_n k dX5_findFaults_47 rfl ?_
            refine gg_get k (cb0 hB) inX5_findFaults_X5 0 (by decide) fX5_findFaults_20 rfl rfl dX5_findFaults_48 ?_
            refine gg_icmp_gt k 75 dX5_findFaults_51 (by decide) ⟨by omega, by omega⟩ ⟨by omega, by omega⟩ (fun c51 => ?_) (fun c51 => ?_)
            · exact hret _ _ _ dX5_findFaults_75 (⟨hR, by rw [← show p - 1 = T by omega]; exact hf⟩)
            · refine gg_aload_n k dX5_findFaults_54 rfl ?_
              refine gg_iload_n k dX5_findFaults_55 rfl ?_
              refine gg_callv (n := 1) (As := [.int (iI (p))]) (rest := []) k (kX5_findOwing hB hO hy _ hf p (by omega) (by omega) (by omega)) ⟨_, _, _, gX5_findFaults_X5_findOwing, rfl, rfl, rfl, by decide +kernel, by decide, by decide⟩ (cb0 hB) rfl rfl (Nat.le_of_ble_eq_true rfl) dX5_findFaults_56 (fun C56 q56 => ?_)
              obtain ⟨hy56, hf56⟩ := q56
              refine gg_aload_n k dX5_findFaults_59 rfl ?_
              refine gg_iload_n k dX5_findFaults_60 rfl ?_
              refine gg_callv (n := 1) (As := [.int (iI (p))]) (rest := []) k (kX5_findBelowLeast hB hO hy56 _ hf56 p (by omega) (by omega) (by have l1 := fOw_l (S := S) (p := p) (sCnt S).toNat; have l2 := fLe_l (S := S) (p := p) (sCnt S).toNat; simp only [List.length_append]; push_cast; omega)) ⟨_, _, _, gX5_findFaults_X5_findBelowLeast, rfl, rfl, rfl, by decide +kernel, by decide, by decide⟩ (cb0 hB) rfl rfl (Nat.le_of_ble_eq_true rfl) dX5_findFaults_61 (fun C61 q61 => ?_)
              obtain ⟨hy61, hf61⟩ := q61
              refine gg_aload_n k dX5_findFaults_64 rfl ?_
              refine gg_iload_n k dX5_findFaults_65 rfl ?_
              refine gg_callv (n := 1) (As := [.int (iI (p))]) (rest := []) k (kX5_findAboveMostOver hB hO hy61 _ hf61 p (by omega) (by omega) (by have l1 := fOw_l (S := S) (p := p) (sCnt S).toNat; have l2 := fLe_l (S := S) (p := p) (sCnt S).toNat; simp only [List.length_append]; push_cast; omega)) ⟨_, _, _, gX5_findFaults_X5_findAboveMostOver, rfl, rfl, rfl, by decide +kernel, by decide, by decide⟩ (cb0 hB) rfl rfl (Nat.le_of_ble_eq_true rfl) dX5_findFaults_66 (fun C66 q66 => ?_)
              obtain ⟨hy66, hf66⟩ := q66
              refine gg_iinc k 1 [(1, .int (iI (p + 1))), (0, .ref (gad B (0)))] dX5_findFaults_69 rfl (by decide) rfl ?_
              refine gg_goto (tgt := 46) k dX5_findFaults_72 (by decide) ?_
              refine gg_sub [1, 0] rfl ?_
              exact ih46 (p + 1) (C66) (by omega) (by omega) (hy66) (by rw [show p + 1 - 1 = p by omega, fAll_s (by omega)]; unfold fPer; rw [← List.append_assoc, ← List.append_assoc]; exact hf66) (by omega)
        refine gg_sub [1, 0] rfl ?_
        exact L46 ((T + 1 - 1).toNat + 1) (1) (C41) (by omega) (by omega) (hy41) (⟨by rw [e41, wr_s]; rfl, fun k x hx => by cases hx⟩) (by omega)
      · refine gg_aload_n k dX5_findFaults_10 rfl ?_
        refine gg_iload_n k dX5_findFaults_11 rfl ?_
        refine gg_callv (n := 1) (As := [.int (iI (i))]) (rest := []) k (kX5_runItem hB hO hR (i := i) (by omega) (by omega)) ⟨_, _, _, gX5_findFaults_X5_runItem, rfl, rfl, rfl, by decide +kernel, by decide, by decide⟩ (cb0 hB) rfl rfl (Nat.le_of_ble_eq_true rfl) dX5_findFaults_12 (fun C12 q12 => ?_)
        obtain ⟨hR, hr12, hk12⟩ := q12
        refine gg_iinc k 1 [(1, .int (iI (i + 1))), (0, .ref (gad B (0)))] dX5_findFaults_15 rfl (by decide) rfl ?_
        refine gg_goto (tgt := 2) k dX5_findFaults_18 (by decide) ?_
        refine gg_sub [1, 0] rfl ?_
        exact ih2 (i + 1) (C12) (by omega) (by omega) (hR) (fun x h0 h1 => by by_cases hx : x = i; (· rw [hx]; exact hr12); (· exact (hru x h0 (by omega)).kept (hk12 _ (by omega) (by omega) (by omega)) (hk12 _ (by omega) (by omega) (by omega)))) (by omega)
  refine gg_sub [1, 0] rfl ?_
  exact L2 ((sCnt S - 0).toNat + 1) (0) (C) (by omega) (by omega) (hR) (fun x h0 h1 => by omega) (by omega)

abbrev rX5_faults : Room := { frames := 5, cells := 0, slots := 0, locals := 117 }
set_option maxRecDepth 100000 in
set_option maxHeartbeats 4000000 in
theorem kX5_faults {l : Launch} {B : gB} {T : Int} {S : sS} {C : gSt} (hB : clsB B T) (hO : sOk S T) (hR : cRel S T C)  : gMi l B yX5_faults wsX5_faults rX5_faults [.ref (gad B (0))] C (fun z C' => cRel S T C' ∧ z = ((fAll S T.toNat).length : Int)) := by
  refine gMi_of (ty := .int) rfl (cc := cX5_faults) (nL := 1) (by decide) rfl (Nat.le_of_ble_eq_true rfl) (fun K k hret => ?_)
  have k : gOk K B l rX5_faults 1 cX5_faults RX5 wsX5_faults := k
  show GG K B C 0 [(0, .ref (gad B (0)))] []
  have hT := hO.t
  have hc := hO.cnt
  
  refine gg_aload_n k dX5_faults_0 rfl ?_
  refine gg_callv (n := 0) (As := []) (rest := []) k (kX5_findFaults hB hO hR) ⟨_, _, _, gX5_faults_X5_findFaults, rfl, rfl, rfl, by decide +kernel, by decide, by decide⟩ (cb0 hB) rfl rfl (Nat.le_of_ble_eq_true rfl) dX5_faults_1 (fun C1 q1 => ?_)
  obtain ⟨hR, hf⟩ := q1
  have hln := fAll_l hO T.toNat
  refine gg_aload_n k dX5_faults_4 rfl ?_
  refine gg_get k (cb0 hB) inX5_faults_X5 6 (by decide) fX5_faults_56 rfl rfl dX5_faults_5 ?_
  refine gg_get k (cbFL hB) inX5_faults_X1 0 (by decide) fX5_faults_143 rfl rfl dX5_faults_8 ?_
  refine gg_ti (hf.1) ?_
  exact hret _ _ _ _ dX5_faults_11 (⟨by omega, by omega⟩) (⟨hR, rfl⟩)

abbrev rX5_fault : Room := { frames := 5, cells := 0, slots := 0, locals := 117 }
set_option maxRecDepth 100000 in
set_option maxHeartbeats 4000000 in
theorem kX5_fault {l : Launch} {B : gB} {T : Int} {S : sS} {C : gSt} (hB : clsB B T) (hO : sOk S T) (hR : cRel S T C) (k0 w : Int) (hk : rI k0) (hw : rI w) : gMi l B yX5_fault wsX5_fault rX5_fault [.ref (gad B (0)), .int (iI (k0)), .int (iI (w))] C (fun z C' => cRel S T C' ∧ z = sFault S T k0 w) := by
  refine gMi_of (ty := .int) rfl (cc := cX5_fault) (nL := 3) (by decide) rfl (Nat.le_of_ble_eq_true rfl) (fun K k hret => ?_)
  have k : gOk K B l rX5_fault 3 cX5_fault RX5 wsX5_fault := k
  show GG K B C 0 [(0, .ref (gad B (0))), (1, .int (iI (k0))), (2, .int (iI (w)))] []
  have hT := hO.t
  have hc := hO.cnt
  obtain ⟨hk1, hk2⟩ := hk
  obtain ⟨hw1, hw2⟩ := hw
  refine gg_aload_n k dX5_fault_0 rfl ?_
  refine gg_callv (n := 0) (As := []) (rest := []) k (kX5_findFaults hB hO hR) ⟨_, _, _, gX5_fault_X5_findFaults, rfl, rfl, rfl, by decide +kernel, by decide, by decide⟩ (cb0 hB) rfl rfl (Nat.le_of_ble_eq_true rfl) dX5_fault_1 (fun C1 q1 => ?_)
  obtain ⟨hR, hf⟩ := q1
  have hln := fAll_l hO T.toNat
  refine gg_iload_n k dX5_fault_4 rfl ?_
  refine gg_if_lt k 19 dX5_fault_5 (by decide) ⟨by omega, by omega⟩ (fun c5 => ?_) (fun c5 => ?_)
  · refine gg_iconst k dX5_fault_19 ?_
    exact hret _ _ _ _ dX5_fault_20 (⟨by omega, by omega⟩) (⟨hR, by unfold sFault; rw [if_neg (by omega)]⟩)
  · refine gg_iload_n k dX5_fault_8 rfl ?_
    refine gg_aload_n k dX5_fault_9 rfl ?_
    refine gg_get k (cb0 hB) inX5_fault_X5 6 (by decide) fX5_fault_56 rfl rfl dX5_fault_10 ?_
    refine gg_get k (cbFL hB) inX5_fault_X1 0 (by decide) fX5_fault_143 rfl rfl dX5_fault_13 ?_
    refine gg_ti (hf.1) ?_
    refine gg_icmp_lt k 21 dX5_fault_16 (by decide) ⟨by omega, by omega⟩ ⟨by omega, by omega⟩ (fun c16 => ?_) (fun c16 => ?_)
    · refine gg_iload_n k dX5_fault_21 rfl ?_
      refine gg_if_lt k 30 dX5_fault_22 (by decide) ⟨by omega, by omega⟩ (fun c22 => ?_) (fun c22 => ?_)
      · refine gg_bipush k dX5_fault_30 (by decide +kernel) ?_
        exact hret _ _ _ _ dX5_fault_32 (⟨by omega, by omega⟩) (⟨hR, by unfold sFault; rw [if_pos (by omega), if_neg (by omega)]⟩)
      · refine gg_iload_n k dX5_fault_25 rfl ?_
        refine gg_iconst k dX5_fault_26 ?_
        refine gg_icmp_lt k 33 dX5_fault_27 (by decide) ⟨by omega, by omega⟩ ⟨by omega, by omega⟩ (fun c27 => ?_) (fun c27 => ?_)
        · obtain ⟨g1, g2⟩ := fAll_get hO (k := k0) (by omega) (by omega)
          obtain ⟨f1, f2, f3, f4⟩ := hf.2 k0.toNat _ g1
          rw [Int.toNat_of_nonneg (by omega)] at f1 f2 f3 f4
          have hce : C1 62 (4 * k0 + w) = fComp ((fAll S T.toNat).getD k0.toNat (0, 0, 0, 0)) w := by
            unfold fComp
            rcases (show w = 0 ∨ w = 1 ∨ w = 2 ∨ w = 3 by omega) with h | h | h | h
            · rw [h, Int.add_zero, if_pos rfl]; exact f1
            · rw [h, if_neg (by omega), if_pos rfl]; exact f2
            · rw [h, if_neg (by omega), if_neg (by omega), if_pos rfl]; exact f3
            · rw [h, if_neg (by omega), if_neg (by omega), if_neg (by omega)]; exact f4
          have hcr : rI (C1 62 (4 * k0 + w)) := by
            rw [hce]
            unfold fComp
            split
            · exact g2.1
            · split
              · exact g2.2.1
              · split
                · exact g2.2.2.1
                · exact g2.2.2.2
          refine gg_aload_n k dX5_fault_33 rfl ?_
          refine gg_get k (cb0 hB) inX5_fault_X5 6 (by decide) fX5_fault_56 rfl rfl dX5_fault_34 ?_
          refine gg_iload_n k dX5_fault_37 rfl ?_
          refine gg_iload_n k dX5_fault_38 rfl ?_
          refine gg_calli (n := 2) (As := [.int (iI (k0)), .int (iI (w))]) (rest := []) k (kX1_cell hB hT k0 w (by omega) (by omega) (by omega) (by omega) hcr) ⟨_, _, _, gX5_fault_X1_cell, rfl, rfl, rfl, by decide +kernel, by decide, by decide⟩ (cbFL hB) rfl rfl (Nat.le_of_ble_eq_true rfl) dX5_fault_39 (fun z39 C39 r39 q39 => ?_)
          obtain ⟨q39, e39⟩ := q39
          rw [e39]
          clear e39
          obtain ⟨r39, s39⟩ := r39
          exact hret _ _ _ _ dX5_fault_42 (⟨by omega, by omega⟩) (⟨hR, by unfold sFault; rw [if_pos (by omega), if_pos (by omega)]; exact q39.trans hce⟩)
        · refine gg_bipush k dX5_fault_30 (by decide +kernel) ?_
          exact hret _ _ _ _ dX5_fault_32 (⟨by omega, by omega⟩) (⟨hR, by unfold sFault; rw [if_pos (by omega), if_neg (by omega)]⟩)
    · refine gg_iconst k dX5_fault_19 ?_
      exact hret _ _ _ _ dX5_fault_20 (⟨by omega, by omega⟩) (⟨hR, by unfold sFault; rw [if_neg (by omega)]⟩)
end
section
/-! ===== parts of parts ===== -/
def rcA (S : sS) (R : Int → Bool) : Nat → (Int → Bool)
  | 0 => R
  | a + 1 => fun b => rcA S R a b || (rcA S R a (a : Int) && decide (0 < sTim S a b))
def rcR (S : sS) (x : Int) : Nat → (Int → Bool)
  | 0 => fun b => decide (b = x)
  | r + 1 => rcA S (rcR S x r) (sCnt S).toNat
def sRing (S : sS) (x g : Int) : Bool := rcR S x (sCnt S).toNat g
theorem rcA_s {S : sS} {R : Int → Bool} {a : Int} (h : 0 ≤ a) (b : Int) : rcA S R (a + 1).toNat b = (rcA S R a.toNat b || (rcA S R a.toNat a && decide (0 < sTim S a b))) := by
  rw [show (a + 1).toNat = a.toNat + 1 by omega]
  show (rcA S R a.toNat b || (rcA S R a.toNat ((a.toNat : Nat) : Int) && decide (0 < sTim S ((a.toNat : Nat) : Int) b))) = _
  rw [Int.toNat_of_nonneg h]
theorem rcR_s {S : sS} {x r : Int} (h : 0 ≤ r) : rcR S x (r + 1).toNat = rcA S (rcR S x r.toNat) (sCnt S).toNat := by
  rw [show (r + 1).toNat = r.toNat + 1 by omega]
  rfl
def rPart (S : sS) (i o n : Int) : Int := if (0 ≤ i ∧ i < sCnt S) ∧ 0 ≤ o ∧ o < sCnt S then (if 0 ≤ n ∧ n ≤ 9 then (if 0 < n ∧ sRing S o i = true then -3 else 0) else -2) else -1
theorem rPart_1 {S : sS} {i o n : Int} (h : ¬ ((0 ≤ i ∧ i < sCnt S) ∧ 0 ≤ o ∧ o < sCnt S)) : rPart S i o n = -1 := if_neg h
theorem rPart_2 {S : sS} {i o n : Int} (h : (0 ≤ i ∧ i < sCnt S) ∧ 0 ≤ o ∧ o < sCnt S) (h2 : ¬ (0 ≤ n ∧ n ≤ 9)) : rPart S i o n = -2 := by unfold rPart; rw [if_pos h, if_neg h2]
theorem rPart_3 {S : sS} {i o n : Int} (h : (0 ≤ i ∧ i < sCnt S) ∧ 0 ≤ o ∧ o < sCnt S) (h2 : 0 ≤ n ∧ n ≤ 9) (h3 : 0 < n ∧ sRing S o i = true) : rPart S i o n = -3 := by unfold rPart; rw [if_pos h, if_pos h2, if_pos h3]
theorem rPart_0 {S : sS} {i o n : Int} (h : (0 ≤ i ∧ i < sCnt S) ∧ 0 ≤ o ∧ o < sCnt S) (h2 : 0 ≤ n ∧ n ≤ 9) (h3 : ¬ (0 < n ∧ sRing S o i = true)) : rPart S i o n = 0 := by unfold rPart; rw [if_pos h, if_pos h2, if_neg h3]
end
section
theorem fX2_wholes_21 : Cond.fieldLink RX2 21 "LotRules$Item" (TX2 3).2.1 (TX2 3).2.2.1 ∈ wsX2_wholes := by decide +kernel
theorem fX5_capacity_36 : Cond.fieldLink RX5 36 "LotRules" (TX5 3).2.1 (TX5 3).2.2.1 ∈ wsX5_capacity := by decide +kernel
theorem fX5_goesInto_26 : Cond.fieldLink RX5 26 "LotRules" (TX5 1).2.1 (TX5 1).2.2.1 ∈ wsX5_goesInto := by decide +kernel
theorem fX5_goesInto_33 : Cond.fieldLink RX5 33 "LotRules" (TX5 2).2.1 (TX5 2).2.2.1 ∈ wsX5_goesInto := by decide +kernel
theorem fX5_part_26 : Cond.fieldLink RX5 26 "LotRules" (TX5 1).2.1 (TX5 1).2.2.1 ∈ wsX5_part := by decide +kernel
theorem fX5_part_91 : Cond.fieldLink RX5 91 "LotRules$Item" (TX2 3).2.1 (TX2 3).2.2.1 ∈ wsX5_part := by decide +kernel
theorem inX2_wholes_X2 : ∀ w ∈ u_ws RX2 TX2 5, w ∈ wsX2_wholes := by decide +kernel
theorem inX5_capacity_X5 : ∀ w ∈ u_ws RX5 TX5 8, w ∈ wsX5_capacity := by decide +kernel
theorem inX5_goesInto_X5 : ∀ w ∈ u_ws RX5 TX5 8, w ∈ wsX5_goesInto := by decide +kernel
theorem inX5_part_X2 : ∀ w ∈ u_ws RX2 TX2 5, w ∈ wsX5_part := by decide +kernel
theorem inX5_part_X5 : ∀ w ∈ u_ws RX5 TX5 8, w ∈ wsX5_part := by decide +kernel
end
section
abbrev rX5_capacity : Room := { frames := 1, cells := 0, slots := 0, locals := 24 }
set_option maxRecDepth 100000 in
set_option maxHeartbeats 4000000 in
theorem kX5_capacity {l : Launch} {B : gB} {T : Int} {S : sS} {C : gSt} (hB : clsB B T) (hO : sOk S T) (hR : cRel S T C) (p v : Int) (hp : rI p) (hv : rI v) : gMi l B yX5_capacity wsX5_capacity rX5_capacity [.ref (gad B (0)), .int (iI (p)), .int (iI (v))] C (fun z C' => cRel (gUpd (rCap T p) S (uUp S 4 0 p v 10000)) T C' ∧ z = gAns (rCap T p) (aUp S 4 0 p v 10000)) := by
  refine gMi_of (ty := .int) rfl (cc := cX5_capacity) (nL := 3) (by decide) rfl (Nat.le_of_ble_eq_true rfl) (fun K k hret => ?_)
  have k : gOk K B l rX5_capacity 3 cX5_capacity RX5 wsX5_capacity := k
  show GG K B C 0 [(0, .ref (gad B (0))), (1, .int (iI (p))), (2, .int (iI (v)))] []
  have hT := hO.t
  have hc := hO.cnt
  obtain ⟨hp1, hp2⟩ := hp
  obtain ⟨hv1, hv2⟩ := hv
  refine gg_aload_n k dX5_capacity_0 rfl ?_
  refine gg_iload_n k dX5_capacity_1 rfl ?_
  refine gg_calli (n := 1) (As := [.int (iI (p))]) (rest := []) k (kX5_isPeriod hB hO hR (p) ⟨by omega, by omega⟩) ⟨_, _, _, gX5_capacity_X5_isPeriod, rfl, rfl, rfl, by decide +kernel, by decide, by decide⟩ (cb0 hB) rfl rfl (Nat.le_of_ble_eq_true rfl) dX5_capacity_2 (fun z2 C2 r2 q2 => ?_)
  obtain ⟨q2, e2⟩ := q2
  rw [e2]
  clear e2
  obtain ⟨r2, s2⟩ := r2
  refine gg_if_ne k 10 dX5_capacity_5 (by decide) ⟨by omega, by omega⟩ (fun c5 => ?_) (fun c5 => ?_)
  · refine gg_aload_n k dX5_capacity_10 rfl ?_
    refine gg_get k (cb0 hB) inX5_capacity_X5 3 (by decide) fX5_capacity_36 rfl rfl dX5_capacity_11 ?_
    refine gg_iload_n k dX5_capacity_14 rfl ?_
    refine gg_iload_n k dX5_capacity_15 rfl ?_
    refine gg_sipush k dX5_capacity_16 (by decide +kernel) ?_
    refine gg_callsi (n := 4) (As := [.ref (gad B (56)), .int (iI (p)), .int (iI (v)), .int (iI (10000))]) (rest := []) k (kX5_replace 56 _ (cbCap hB) p v 10000 (by omega) (by omega) ⟨by omega, by omega⟩ ⟨by omega, by omega⟩ (by rw [hR.cap (by omega) (by omega)]; have := hO.cap p; exact ⟨by omega, by omega⟩)) ⟨_, _, _, gX5_capacity_X5_replace, rfl, rfl, rfl, by decide +kernel, by decide, by decide⟩ rfl rfl (Nat.le_of_ble_eq_true rfl) dX5_capacity_19 (fun z19 C19 r19 q19 => ?_)
    obtain ⟨r19, s19⟩ := r19
    exact hret _ _ _ _ dX5_capacity_22 (⟨by omega, by omega⟩) (by
      rw [gUpd_0 (rCap_0 (by omega)), gAns_0 (rCap_0 (by omega))]
      rcases q19 with ⟨w1, w2, w3⟩ | ⟨w1, w2, w3⟩
      · rw [uUp_2 w1, aUp_2 w1, w3]; exact ⟨hR, w2⟩
      · rw [uUp_0 w1, aUp_0 w1, w3, w2]; exact ⟨hR.upCap, hR.cap (by omega) (by omega)⟩)
  · refine gg_iconst k dX5_capacity_8 ?_
    exact hret _ _ _ _ dX5_capacity_9 (⟨by omega, by omega⟩) (⟨by rw [gUpd_n (by rw [rCap_1 (by omega)]; omega)]; exact hR, by rw [gAns_n (by rw [rCap_1 (by omega)]; omega), rCap_1 (by omega)]⟩)

abbrev rX2_wholes : Room := { frames := 0, cells := 0, slots := 0, locals := 0 }
set_option maxRecDepth 100000 in
set_option maxHeartbeats 4000000 in
theorem kX2_wholes {l : Launch} {B : gB} {T : Int} {S : sS} {C : gSt} (hB : clsB B T) (hO : sOk S T) (hR : cRel S T C) {i : Int} (hi0 : 0 ≤ i) (hi6 : i < 6) : gMi l B yX2_wholes wsX2_wholes rX2_wholes [.ref (gad B (2 + 9 * (i).toNat))] C (fun z C' => ((0 ≤ z ∧ z < 64) ∧ ∀ y : Int, 0 ≤ y → y < 6 → sb z y = decide (0 < sTim S i y)) ∧ C' = C) := by
  refine gMi_of (ty := .int) rfl (cc := cX2_wholes) (nL := 3) (by decide) rfl (Nat.le_of_ble_eq_true rfl) (fun K k hret => ?_)
  have k : gOk K B l rX2_wholes 3 cX2_wholes RX2 wsX2_wholes := k
  show GG K B C 0 [(0, .ref (gad B (2 + 9 * (i).toNat)))] []
  have hT := hO.t
  have hc := hO.cnt
  
  refine gg_iconst k dX2_wholes_0 ?_
  refine gg_istore_n k [(1, .int (iI (0))), (0, .ref (gad B (2 + 9 * (i).toNat)))] dX2_wholes_1 (by decide) rfl ?_
  refine gg_iconst k dX2_wholes_2 ?_
  refine gg_istore_n k [(2, .int (iI (0))), (1, .int (iI (0))), (0, .ref (gad B (2 + 9 * (i).toNat)))] dX2_wholes_3 (by decide) rfl ?_
  have L4 : ∀ (n4 : Nat) (j : Int) (m : Int), 0 ≤ j → j ≤ 6 → 0 ≤ m ∧ m < 64 → (∀ y : Int, 0 ≤ y → y < 6 → sb m y = (decide (y < j) && decide (0 < sTim S i y))) → 6 - j < (n4 : Int) → GG K B C 4 [(0, .ref (gad B (2 + 9 * (i).toNat))), (1, .int (iI (m))), (2, .int (iI (j)))] [] := by
    intro n4
    induction n4 with
    | zero =>
      intro j m hj0 hj1 hm hb hn4
      exact absurd hn4 (by omega)
    | succ n4 ih4 =>
      intro j m hj0 hj1 hm hb hn4
      refine gg_iload_n k dX2_wholes_4 rfl ?_
      refine gg_bipush k dX2_wholes_5 (by decide +kernel) ?_
      refine gg_icmp_ge k 31 dX2_wholes_7 (by decide) ⟨by omega, by omega⟩ ⟨by omega, by omega⟩ (fun c7 => ?_) (fun c7 => ?_)
      · refine gg_iload_n k dX2_wholes_31 rfl ?_
        exact hret _ _ _ _ dX2_wholes_32 (⟨by omega, by omega⟩) (⟨⟨hm, fun y h0 h1 => by rw [hb y h0 h1, decide_eq_true (show y < j by omega)]; rfl⟩, rfl⟩)
      · refine gg_aload_n k dX2_wholes_10 rfl ?_
        refine gg_get k (cbItem hB (by omega) (by omega)) inX2_wholes_X2 3 (by decide) fX2_wholes_21 rfl rfl dX2_wholes_11 ?_
        refine gg_iload_n k dX2_wholes_14 rfl ?_
        refine gg_iald k (cbTim hB (by omega) (by omega)) (by omega) (by omega) dX2_wholes_15 ?_
        refine gg_ti (hR.tim _ (by omega) (by omega)) ?_
        have bd15 := hO.tim (i) (j)
        refine gg_if_le k 25 dX2_wholes_16 (by decide) ⟨by omega, by omega⟩ (fun c16 => ?_) (fun c16 => ?_)
        · refine gg_iinc k 2 [(2, .int (iI (j + 1))), (0, .ref (gad B (2 + 9 * (i).toNat))), (1, .int (iI (m)))] dX2_wholes_25 rfl (by decide) rfl ?_
          refine gg_goto (tgt := 4) k dX2_wholes_28 (by decide) ?_
          refine gg_sub [1, 2, 0] rfl ?_
          exact ih4 (j + 1) (m) (by omega) (by omega) (hm) (fun y h0 h1 => by rw [hb y h0 h1]; by_cases hy : y = j; (· rw [hy, decide_eq_false (show ¬ 0 < sTim S i j by omega)]; simp); (· rw [show decide (y < j + 1) = decide (y < j) by rw [decide_eq_decide]; omega])) (by omega)
        · refine gg_iload_n k dX2_wholes_19 rfl ?_
          refine gg_iconst k dX2_wholes_20 ?_
          refine gg_iload_n k dX2_wholes_21 rfl ?_
          refine gg_ishl k (by omega) (by omega) dX2_wholes_22 ?_
          have bd22 := b2_b (i := j) (by omega) (by omega)
          refine gg_ior k (by omega) (by omega) dX2_wholes_23 ?_
          have bd23 := bOr_b (a := m) (b := b2 j) (by omega) (by omega)
          refine gg_istore_n k [(1, .int (iI (bOr m (b2 j)))), (0, .ref (gad B (2 + 9 * (i).toNat))), (2, .int (iI (j)))] dX2_wholes_24 (by decide) rfl ?_
          refine gg_iinc k 2 [(2, .int (iI (j + 1))), (1, .int (iI (bOr m (b2 j)))), (0, .ref (gad B (2 + 9 * (i).toNat)))] dX2_wholes_25 rfl (by decide) rfl ?_
          refine gg_goto (tgt := 4) k dX2_wholes_28 (by decide) ?_
          refine gg_sub [2, 1, 0] rfl ?_
          exact ih4 (j + 1) (bOr m (b2 j)) (by omega) (by omega) (bOr_b hm (b2_b (by omega) (by omega))) (fun y h0 h1 => by rw [sb_or, sb_b2 hj0 h0, hb y h0 h1]; by_cases hy : y = j; (· rw [hy, decide_eq_true (show 0 < sTim S i j by omega), decide_eq_true (show j < j + 1 by omega)]; simp); (· rw [decide_eq_false (Ne.symm hy), show decide (y < j + 1) = decide (y < j) by rw [decide_eq_decide]; omega]; simp)) (by omega)
  refine gg_sub [2, 1, 0] rfl ?_
  exact L4 (((6 : Int) - 0).toNat + 1) (0) (0) (by omega) (by omega) (by omega) (fun y h0 h1 => by rw [sb_0, decide_eq_false (by omega)]; rfl) (by omega)

abbrev rX5_goesInto : Room := { frames := 1, cells := 0, slots := 0, locals := 22 }
set_option maxRecDepth 100000 in
set_option maxHeartbeats 4000000 in
theorem kX5_goesInto {l : Launch} {B : gB} {T : Int} {S : sS} {C : gSt} (hB : clsB B T) (hO : sOk S T) (hR : cRel S T C) (x g : Int) (hx0 : 0 ≤ x) (hx1 : x < sCnt S) (hg0 : 0 ≤ g) (hg1 : g < sCnt S) : gMi l B yX5_goesInto wsX5_goesInto rX5_goesInto [.ref (gad B (0)), .int (iI (x)), .int (iI (g))] C (fun z C' => ((z = 1 ∧ sRing S x g = true) ∨ (z = 0 ∧ sRing S x g = false)) ∧ C' = C) := by
  refine gMz_of (cc := cX5_goesInto) (nL := 6) (by decide) rfl (Nat.le_of_ble_eq_true rfl) (fun z C' h => by omega) (fun K k hret => ?_)
  have k : gOk K B l rX5_goesInto 6 cX5_goesInto RX5 wsX5_goesInto := k
  show GG K B C 0 [(0, .ref (gad B (0))), (1, .int (iI (x))), (2, .int (iI (g)))] []
  have hT := hO.t
  have hc := hO.cnt
  
  refine gg_iconst k dX5_goesInto_0 ?_
  refine gg_iload_n k dX5_goesInto_1 rfl ?_
  refine gg_ishl k (by omega) (by omega) dX5_goesInto_2 ?_
  have bd2 := b2_b (i := x) (by omega) (by omega)
  refine gg_istore_n k [(3, .int (iI (b2 x))), (0, .ref (gad B (0))), (1, .int (iI (x))), (2, .int (iI (g)))] dX5_goesInto_3 (by decide) rfl ?_
  refine gg_iconst k dX5_goesInto_4 ?_
  refine gg_istore k [(4, .int (iI (0))), (3, .int (iI (b2 x))), (0, .ref (gad B (0))), (1, .int (iI (x))), (2, .int (iI (g)))] dX5_goesInto_5 (by decide) rfl ?_
  have L7 : ∀ (n7 : Nat) (r : Int) (m : Int), 0 ≤ r → r ≤ sCnt S → 0 ≤ m ∧ m < 64 → (∀ y : Int, 0 ≤ y → y < 6 → sb m y = rcR S x r.toNat y) → sCnt S - r < (n7 : Int) → GG K B C 7 [(0, .ref (gad B (0))), (1, .int (iI (x))), (2, .int (iI (g))), (3, .int (iI (m))), (4, .int (iI (r)))] [] := by
    intro n7
    induction n7 with
    | zero =>
      intro r m hr0 hr1 hm hb hn7
      exact absurd hn7 (by omega)
    | succ n7 ih7 =>
      intro r m hr0 hr1 hm hb hn7
      refine gg_iload k dX5_goesInto_7 rfl ?_
      refine gg_aload_n k dX5_goesInto_9 rfl ?_
      refine gg_get k (cb0 hB) inX5_goesInto_X5 2 (by decide) fX5_goesInto_33 rfl rfl dX5_goesInto_10 ?_
      refine gg_ti hR.cnt ?_
      refine gg_icmp_ge k 62 dX5_goesInto_13 (by decide) ⟨by omega, by omega⟩ ⟨by omega, by omega⟩ (fun c13 => ?_) (fun c13 => ?_)
      · refine gg_iload_n k dX5_goesInto_62 rfl ?_
        refine gg_iconst k dX5_goesInto_63 ?_
        refine gg_iload_n k dX5_goesInto_64 rfl ?_
        refine gg_ishl k (by omega) (by omega) dX5_goesInto_65 ?_
        have bd65 := b2_b (i := g) (by omega) (by omega)
        refine gg_iand k (by omega) (by omega) dX5_goesInto_66 ?_
        have bd66 := bAnd_b (a := m) (b := b2 g) (by omega) (by omega)
        refine gg_if_eq k 74 dX5_goesInto_67 (by decide) ⟨by omega, by omega⟩ (fun c67 => ?_) (fun c67 => ?_)
        · refine gg_iconst k dX5_goesInto_74 ?_
          exact hret _ _ _ _ dX5_goesInto_75 (⟨by omega, by omega⟩) (⟨Or.inr ⟨rfl, by unfold sRing; rw [← show r = sCnt S by omega, ← hb g hg0 (by omega)]; exact (bAnd_0 hm hg0 (by omega)).mp c67⟩, rfl⟩)
        · refine gg_iconst k dX5_goesInto_70 ?_
          refine gg_goto (tgt := 75) k dX5_goesInto_71 (by decide) ?_
          exact hret _ _ _ _ dX5_goesInto_75 (⟨by omega, by omega⟩) (⟨Or.inl ⟨rfl, by unfold sRing; rw [← show r = sCnt S by omega, ← hb g hg0 (by omega)]; cases hz : sb m g; (· exact absurd ((bAnd_0 hm hg0 (by omega)).mpr hz) c67); (· rfl)⟩, rfl⟩)
      · refine gg_iconst k dX5_goesInto_16 ?_
        refine gg_istore k [(5, .int (iI (0))), (0, .ref (gad B (0))), (1, .int (iI (x))), (2, .int (iI (g))), (3, .int (iI (m))), (4, .int (iI (r)))] dX5_goesInto_17 (by decide) rfl ?_
        have L19 : ∀ (n19 : Nat) (a : Int) (m2 : Int), 0 ≤ a → a ≤ sCnt S → 0 ≤ m2 ∧ m2 < 64 → (∀ y : Int, 0 ≤ y → y < 6 → sb m2 y = rcA S (rcR S x r.toNat) a.toNat y) → sCnt S - a < (n19 : Int) → GG K B C 19 [(0, .ref (gad B (0))), (1, .int (iI (x))), (2, .int (iI (g))), (3, .int (iI (m2))), (4, .int (iI (r))), (5, .int (iI (a)))] [] := by
          intro n19
          induction n19 with
          | zero =>
            intro a m2 ha0 ha1 hm2 hb2 hn19
            exact absurd hn19 (by omega)
          | succ n19 ih19 =>
            intro a m2 ha0 ha1 hm2 hb2 hn19
            refine gg_iload k dX5_goesInto_19 rfl ?_
            refine gg_aload_n k dX5_goesInto_21 rfl ?_
            refine gg_get k (cb0 hB) inX5_goesInto_X5 2 (by decide) fX5_goesInto_33 rfl rfl dX5_goesInto_22 ?_
            refine gg_ti hR.cnt ?_
            refine gg_icmp_ge k 56 dX5_goesInto_25 (by decide) ⟨by omega, by omega⟩ ⟨by omega, by omega⟩ (fun c25 => ?_) (fun c25 => ?_)
            · refine gg_iinc k 4 [(4, .int (iI (r + 1))), (0, .ref (gad B (0))), (1, .int (iI (x))), (2, .int (iI (g))), (3, .int (iI (m2))), (5, .int (iI (a)))] dX5_goesInto_56 rfl (by decide) rfl ?_
              refine gg_goto (tgt := 7) k dX5_goesInto_59 (by decide) ?_
              refine gg_sub [1, 2, 3, 4, 0] rfl ?_
              exact ih7 (r + 1) (m2) (by omega) (by omega) (hm2) (fun y h0 h1 => by rw [rcR_s hr0, ← show a = sCnt S by omega]; exact hb2 y h0 h1) (by omega)
            · refine gg_iload_n k dX5_goesInto_28 rfl ?_
              refine gg_iconst k dX5_goesInto_29 ?_
              refine gg_iload k dX5_goesInto_30 rfl ?_
              refine gg_ishl k (by omega) (by omega) dX5_goesInto_32 ?_
              have bd32 := b2_b (i := a) (by omega) (by omega)
              refine gg_iand k (by omega) (by omega) dX5_goesInto_33 ?_
              have bd33 := bAnd_b (a := m2) (b := b2 a) (by omega) (by omega)
              refine gg_if_eq k 50 dX5_goesInto_34 (by decide) ⟨by omega, by omega⟩ (fun c34 => ?_) (fun c34 => ?_)
              · refine gg_iinc k 5 [(5, .int (iI (a + 1))), (0, .ref (gad B (0))), (1, .int (iI (x))), (2, .int (iI (g))), (3, .int (iI (m2))), (4, .int (iI (r)))] dX5_goesInto_50 rfl (by decide) rfl ?_
                refine gg_goto (tgt := 19) k dX5_goesInto_53 (by decide) ?_
                refine gg_sub [1, 2, 3, 4, 5, 0] rfl ?_
                exact ih19 (a + 1) (m2) (by omega) (by omega) (hm2) (fun y h0 h1 => by rw [rcA_s ha0, ← hb2 y h0 h1, ← hb2 a ha0 (by omega), (bAnd_0 hm2 ha0 (by omega)).mp c34]; simp) (by omega)
              · refine gg_iload_n k dX5_goesInto_37 rfl ?_
                refine gg_aload_n k dX5_goesInto_38 rfl ?_
                refine gg_get k (cb0 hB) inX5_goesInto_X5 1 (by decide) fX5_goesInto_26 rfl rfl dX5_goesInto_39 ?_
                refine gg_iload k dX5_goesInto_42 rfl ?_
                refine gg_aald k (cb1 hB) (by omega) (by omega) dX5_goesInto_44 ?_
                refine gg_calli (n := 0) (As := []) (rest := [.int (iI (m2))]) k (kX2_wholes hB hO hR (i := a) (by omega) (by omega)) ⟨_, _, _, gX5_goesInto_X2_wholes, rfl, rfl, rfl, by decide +kernel, by decide, by decide⟩ (cbItem hB (by omega) (by omega)) rfl rfl (Nat.le_of_ble_eq_true rfl) dX5_goesInto_45 (fun z45 C45 r45 q45 => ?_)
                obtain ⟨q45, e45⟩ := q45
                rw [e45]
                clear e45
                obtain ⟨r45, s45⟩ := r45
                refine gg_ior k (by omega) (by omega) dX5_goesInto_48 ?_
                have bd48 := bOr_b (a := m2) (b := z45) (by omega) (by omega)
                refine gg_istore_n k [(3, .int (iI (bOr m2 z45))), (0, .ref (gad B (0))), (1, .int (iI (x))), (2, .int (iI (g))), (4, .int (iI (r))), (5, .int (iI (a)))] dX5_goesInto_49 (by decide) rfl ?_
                refine gg_iinc k 5 [(5, .int (iI (a + 1))), (3, .int (iI (bOr m2 z45))), (0, .ref (gad B (0))), (1, .int (iI (x))), (2, .int (iI (g))), (4, .int (iI (r)))] dX5_goesInto_50 rfl (by decide) rfl ?_
                refine gg_goto (tgt := 19) k dX5_goesInto_53 (by decide) ?_
                refine gg_sub [2, 3, 4, 1, 5, 0] rfl ?_
                exact ih19 (a + 1) (bOr m2 z45) (by omega) (by omega) (bOr_b hm2 q45.1) (fun y h0 h1 => by rw [rcA_s ha0, ← hb2 y h0 h1, ← hb2 a ha0 (by omega), show sb m2 a = true by cases hz : sb m2 a; (· exact absurd ((bAnd_0 hm2 ha0 (by omega)).mpr hz) c34); (· rfl), sb_or, q45.2 y h0 h1]; rfl) (by omega)
        refine gg_sub [1, 2, 3, 4, 5, 0] rfl ?_
        exact L19 ((sCnt S - 0).toNat + 1) (0) (m) (by omega) (by omega) (hm) (hb) (by omega)
  refine gg_sub [2, 3, 4, 1, 0] rfl ?_
  exact L7 ((sCnt S - 0).toNat + 1) (0) (b2 x) (by omega) (by omega) (b2_b (by omega) (by omega)) (fun y h0 h1 => by rw [sb_b2 (by omega) h0]; show _ = decide (y = x); rw [decide_eq_decide]; omega) (by omega)

abbrev rX5_part : Room := { frames := 2, cells := 0, slots := 0, locals := 47 }
set_option maxRecDepth 100000 in
set_option maxHeartbeats 4000000 in
theorem kX5_part {l : Launch} {B : gB} {T : Int} {S : sS} {C : gSt} (hB : clsB B T) (hO : sOk S T) (hR : cRel S T C) (i o n : Int) (hi : rI i) (ho : rI o) (hn : rI n) : gMi l B yX5_part wsX5_part rX5_part [.ref (gad B (0)), .int (iI (i)), .int (iI (o)), .int (iI (n))] C (fun z C' => cRel (gUpd (rPart S i o n) S (sUp S 3 i o n)) T C' ∧ z = gAns (rPart S i o n) (sTim S i o)) := by
  refine gMi_of (ty := .int) rfl (cc := cX5_part) (nL := 4) (by decide) rfl (Nat.le_of_ble_eq_true rfl) (fun K k hret => ?_)
  have k : gOk K B l rX5_part 4 cX5_part RX5 wsX5_part := k
  show GG K B C 0 [(0, .ref (gad B (0))), (1, .int (iI (i))), (2, .int (iI (o))), (3, .int (iI (n)))] []
  have hT := hO.t
  have hc := hO.cnt
  obtain ⟨hi1, hi2⟩ := hi
  obtain ⟨ho1, ho2⟩ := ho
  obtain ⟨hn1, hn2⟩ := hn
  refine gg_aload_n k dX5_part_0 rfl ?_
  refine gg_iload_n k dX5_part_1 rfl ?_
  refine gg_calli (n := 1) (As := [.int (iI (i))]) (rest := []) k (kX5_isItem hB hO hR (i) ⟨by omega, by omega⟩) ⟨_, _, _, gX5_part_X5_isItem, rfl, rfl, rfl, by decide +kernel, by decide, by decide⟩ (cb0 hB) rfl rfl (Nat.le_of_ble_eq_true rfl) dX5_part_2 (fun z2 C2 r2 q2 => ?_)
  obtain ⟨q2, e2⟩ := q2
  rw [e2]
  clear e2
  obtain ⟨r2, s2⟩ := r2
  refine gg_if_eq k 16 dX5_part_5 (by decide) ⟨by omega, by omega⟩ (fun c5 => ?_) (fun c5 => ?_)
  · refine gg_iconst k dX5_part_16 ?_
    exact hret _ _ _ _ dX5_part_17 (⟨by omega, by omega⟩) (⟨by rw [gUpd_n (by rw [rPart_1 (by omega)]; omega)]; exact hR, by rw [gAns_n (by rw [rPart_1 (by omega)]; omega), rPart_1 (by omega)]⟩)
  · refine gg_aload_n k dX5_part_8 rfl ?_
    refine gg_iload_n k dX5_part_9 rfl ?_
    refine gg_calli (n := 1) (As := [.int (iI (o))]) (rest := []) k (kX5_isItem hB hO hR (o) ⟨by omega, by omega⟩) ⟨_, _, _, gX5_part_X5_isItem, rfl, rfl, rfl, by decide +kernel, by decide, by decide⟩ (cb0 hB) rfl rfl (Nat.le_of_ble_eq_true rfl) dX5_part_10 (fun z10 C10 r10 q10 => ?_)
    obtain ⟨q10, e10⟩ := q10
    rw [e10]
    clear e10
    obtain ⟨r10, s10⟩ := r10
    refine gg_if_ne k 18 dX5_part_13 (by decide) ⟨by omega, by omega⟩ (fun c13 => ?_) (fun c13 => ?_)
    · refine gg_iload_n k dX5_part_18 rfl ?_
      refine gg_if_lt k 28 dX5_part_19 (by decide) ⟨by omega, by omega⟩ (fun c19 => ?_) (fun c19 => ?_)
      · refine gg_bipush k dX5_part_28 (by decide +kernel) ?_
        exact hret _ _ _ _ dX5_part_30 (⟨by omega, by omega⟩) (⟨by rw [gUpd_n (by rw [rPart_2 (by omega) (by omega)]; omega)]; exact hR, by rw [gAns_n (by rw [rPart_2 (by omega) (by omega)]; omega), rPart_2 (by omega) (by omega)]⟩)
      · refine gg_iload_n k dX5_part_22 rfl ?_
        refine gg_bipush k dX5_part_23 (by decide +kernel) ?_
        refine gg_icmp_le k 31 dX5_part_25 (by decide) ⟨by omega, by omega⟩ ⟨by omega, by omega⟩ (fun c25 => ?_) (fun c25 => ?_)
        · refine gg_iload_n k dX5_part_31 rfl ?_
          refine gg_if_le k 47 dX5_part_32 (by decide) ⟨by omega, by omega⟩ (fun c32 => ?_) (fun c32 => ?_)
          · refine gg_aload_n k dX5_part_47 rfl ?_
            refine gg_get k (cb0 hB) inX5_part_X5 1 (by decide) fX5_part_26 rfl rfl dX5_part_48 ?_
            refine gg_iload_n k dX5_part_51 rfl ?_
            refine gg_aald k (cb1 hB) (by omega) (by omega) dX5_part_52 ?_
            refine gg_get k (cbItem hB (by omega) (by omega)) inX5_part_X2 3 (by decide) fX5_part_91 rfl rfl dX5_part_53 ?_
            refine gg_iload_n k dX5_part_56 rfl ?_
            refine gg_iload_n k dX5_part_57 rfl ?_
            refine gg_bipush k dX5_part_58 (by decide +kernel) ?_
            refine gg_callsi (n := 4) (As := [.ref (gad B (6 + 9 * (i).toNat)), .int (iI (o)), .int (iI (n)), .int (iI (9))]) (rest := []) k (kX5_replace (6 + 9 * (i).toNat) _ (cbTim hB (by omega) (by omega)) o n 9 (by omega) (by omega) ⟨by omega, by omega⟩ ⟨by omega, by omega⟩ (by rw [hR.tim _ (by omega) (by omega)]; have := hO.tim i o; exact ⟨by omega, by omega⟩)) ⟨_, _, _, gX5_part_X5_replace, rfl, rfl, rfl, by decide +kernel, by decide, by decide⟩ rfl rfl (Nat.le_of_ble_eq_true rfl) dX5_part_60 (fun z60 C60 r60 q60 => ?_)
            obtain ⟨r60, s60⟩ := r60
            exact hret _ _ _ _ dX5_part_63 (⟨by omega, by omega⟩) (by
              have hg0 : rPart S i o n = 0 := rPart_0 (by omega) (by omega) (fun w => absurd w.1 (by omega))
              rw [gUpd_0 hg0, gAns_0 hg0]
              rcases q60 with ⟨w1, w2, w3⟩ | ⟨w1, w2, w3⟩
              · omega
              · rw [w3, w2]; exact ⟨hR.up (n := 3) (by omega) (by omega) (by omega), hR.tim _ (by omega) (by omega)⟩)
          · refine gg_aload_n k dX5_part_35 rfl ?_
            refine gg_iload_n k dX5_part_36 rfl ?_
            refine gg_iload_n k dX5_part_37 rfl ?_
            refine gg_calli (n := 2) (As := [.int (iI (o)), .int (iI (i))]) (rest := []) k (kX5_goesInto hB hO hR (o) (i) (by omega) (by omega) (by omega) (by omega)) ⟨_, _, _, gX5_part_X5_goesInto, rfl, rfl, rfl, by decide +kernel, by decide, by decide⟩ (cb0 hB) rfl rfl (Nat.le_of_ble_eq_true rfl) dX5_part_38 (fun z38 C38 r38 q38 => ?_)
            obtain ⟨q38, e38⟩ := q38
            rw [e38]
            clear e38
            obtain ⟨r38, s38⟩ := r38
            refine gg_if_eq k 47 dX5_part_41 (by decide) ⟨by omega, by omega⟩ (fun c41 => ?_) (fun c41 => ?_)
            · refine gg_aload_n k dX5_part_47 rfl ?_
              refine gg_get k (cb0 hB) inX5_part_X5 1 (by decide) fX5_part_26 rfl rfl dX5_part_48 ?_
              refine gg_iload_n k dX5_part_51 rfl ?_
              refine gg_aald k (cb1 hB) (by omega) (by omega) dX5_part_52 ?_
              refine gg_get k (cbItem hB (by omega) (by omega)) inX5_part_X2 3 (by decide) fX5_part_91 rfl rfl dX5_part_53 ?_
              refine gg_iload_n k dX5_part_56 rfl ?_
              refine gg_iload_n k dX5_part_57 rfl ?_
              refine gg_bipush k dX5_part_58 (by decide +kernel) ?_
              refine gg_callsi (n := 4) (As := [.ref (gad B (6 + 9 * (i).toNat)), .int (iI (o)), .int (iI (n)), .int (iI (9))]) (rest := []) k (kX5_replace (6 + 9 * (i).toNat) _ (cbTim hB (by omega) (by omega)) o n 9 (by omega) (by omega) ⟨by omega, by omega⟩ ⟨by omega, by omega⟩ (by rw [hR.tim _ (by omega) (by omega)]; have := hO.tim i o; exact ⟨by omega, by omega⟩)) ⟨_, _, _, gX5_part_X5_replace, rfl, rfl, rfl, by decide +kernel, by decide, by decide⟩ rfl rfl (Nat.le_of_ble_eq_true rfl) dX5_part_60 (fun z60 C60 r60 q60 => ?_)
              obtain ⟨r60, s60⟩ := r60
              exact hret _ _ _ _ dX5_part_63 (⟨by omega, by omega⟩) (by
                have hg0 : rPart S i o n = 0 := rPart_0 (by omega) (by omega) (fun w => by rcases q38 with u | u; (· omega); (· rw [u.2] at w; exact absurd w.2 (by decide)))
                rw [gUpd_0 hg0, gAns_0 hg0]
                rcases q60 with ⟨w1, w2, w3⟩ | ⟨w1, w2, w3⟩
                · omega
                · rw [w3, w2]; exact ⟨hR.up (n := 3) (by omega) (by omega) (by omega), hR.tim _ (by omega) (by omega)⟩)
            · refine gg_bipush k dX5_part_44 (by decide +kernel) ?_
              exact hret _ _ _ _ dX5_part_46 (⟨by omega, by omega⟩) (by
                have hg3 : 0 < n ∧ sRing S o i = true := ⟨by omega, by rcases q38 with w | w; (· exact w.2); (· omega)⟩
                exact ⟨by rw [gUpd_n (by rw [rPart_3 (by omega) (by omega) hg3]; omega)]; exact hR, by rw [gAns_n (by rw [rPart_3 (by omega) (by omega) hg3]; omega), rPart_3 (by omega) (by omega) hg3]⟩)
        · refine gg_bipush k dX5_part_28 (by decide +kernel) ?_
          exact hret _ _ _ _ dX5_part_30 (⟨by omega, by omega⟩) (⟨by rw [gUpd_n (by rw [rPart_2 (by omega) (by omega)]; omega)]; exact hR, by rw [gAns_n (by rw [rPart_2 (by omega) (by omega)]; omega), rPart_2 (by omega) (by omega)]⟩)
    · refine gg_iconst k dX5_part_16 ?_
      exact hret _ _ _ _ dX5_part_17 (⟨by omega, by omega⟩) (⟨by rw [gUpd_n (by rw [rPart_1 (by omega)]; omega)]; exact hR, by rw [gAns_n (by rw [rPart_1 (by omega)]; omega), rPart_1 (by omega)]⟩)
end
