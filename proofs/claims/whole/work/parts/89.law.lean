/-! ===== the law ===== -/
theorem lawLoop {K : gK} {D : va_G} {l : Launch} {cI cJ cZ cQ : ClassId} {T : Int} {ad : Nat → Nat} {cg : gCg} {ad' : Nat → Nat} {cg' : gCg} {o b L : Nat} {xs : Nat → Int32} (k : wOk K D vwD (wT cI cJ cZ cQ) l room_1 8 cL_law RL wsL_law) (hX : wX K (wS b L xs)) (hB : clsB (D, vwD, wT cI cJ cZ cQ, ad, cg, 68) T) (hB' : mdlB (D, vwD, wT cI cJ cZ cQ, ad', cg', 20) T) (hL : L ≤ 2049) (htr : l.stackTraces = false) (hE : wX K xE) (tN tO : Nat) (hzN : wX K (fun A U => zTab A "MOST_OF_NUMBER" 8 sBnd tN U)) (hzO : wX K (fun A U => zTab A "MOST_OF_OVER" 2 sBndO tO U))
    (hend : ∀ (c s : Nat) (ws : va_W) (lv : gLv), c ≤ 601024 → s ≤ 7293000 → GW K D vwD c s ws 877 lv []) :
    ∀ (n : Nat) (i : Int) (S : sS) (C M : gSt) (g : Nat → Int64), 1 ≤ i → i ≤ 2053 → sOk S T → cRel S T C → mRel S T M → ((L : Int) - i).toNat < n → GW K D vwD (100 + i.toNat) (3000 + 6 * i.toNat) (lW cJ ad cg ad' cg' o C M g) 33 (lV b ad ad' o i) [] := by
  intro n
  induction n with
  | zero => intro i S C M g _ _ _ _ _ h; exact absurd h (by omega)
  | succ n ih =>
    intro i S C M g h1 h2 hO hC hM hn
    refine gw_iload k dL_law_33 rfl ?_
    refine gw_aload_n k dL_law_35 rfl ?_
    refine gw_slen k hX dL_law_36 ?_
    refine gw_iconst k dL_law_37 ?_
    refine gw_isub k dL_law_38 ?_
    refine gw_icmp_gt k 877 dL_law_39 (by decide) ⟨by omega, by omega⟩ ⟨by omega, by omega⟩ (fun _ => hend _ _ _ _ (by omega) (by omega)) (fun hc => ?_)
    have h4 : i + 4 ≤ (L : Int) := by omega
    have nx : lNx K D cJ ad cg ad' cg' o b T i := by
      intro c s S' C' M' g' hc1 hs1 hO' hC' hM'
      refine gw_widen hc1 hs1 ?_
      refine gw_iinc k 0 (lV b ad ad' o (i + 4)) dL_law_871 rfl (by decide) rfl ?_
      refine gw_goto k 33 dL_law_874 (by decide) ?_
      exact ih (i + 4) S' C' M' g' (by omega) (by omega) hO' hC' hM' (by omega)
    refine gw_aload_n k dL_law_42 rfl ?_
    refine gw_iload k dL_law_43 rfl ?_
    refine gw_sld k hX (by omega) (by omega) (by omega) dL_law_45 ?_
    refine gw_bipush k dL_law_46 (by decide +kernel) ?_
    refine gw_and31 k dL_law_48 (fun c c0 c31 => ?_)
    by_cases hcc : c < 0 ∨ 19 < c
    · exact gw_tsO k 871 dL_law_49 (by decide) ⟨by omega, by omega⟩ hcc (nx _ _ _ _ _ _ (by omega) (by omega) hO hC hM)
    · rcases (show c = 0 ∨ c = 1 ∨ c = 2 ∨ c = 3 ∨ c = 4 ∨ c = 5 ∨ c = 6 ∨ c = 7 ∨ c = 8 ∨ c = 9 ∨ c = 10 ∨ c = 11 ∨ c = 12 ∨ c = 13 ∨ c = 14 ∨ c = 15 ∨ c = 16 ∨ c = 17 ∨ c = 18 ∨ c = 19 by omega) with hq | hq | hq | hq | hq | hq | hq | hq | hq | hq | hq | hq | hq | hq | hq | hq | hq | hq | hq | hq
      · exact gw_tsI (c := 0) k 144 dL_law_49 hq ⟨by omega, by omega⟩ (by decide) (by decide) rfl (by decide) (lc_item k hX hB hB' hO hC hM hL h1 h4 nx)
      · exact gw_tsI (c := 1) k 157 dL_law_49 hq ⟨by omega, by omega⟩ (by decide) (by decide) rfl (by decide) (lc_set k hX hB hB' hO hC hM hL h1 h4 nx tN hzN)
      · exact gw_tsI (c := 2) k 206 dL_law_49 hq ⟨by omega, by omega⟩ (by decide) (by decide) rfl (by decide) (lc_need k hX hB hB' hO hC hM hL h1 h4 nx)
      · exact gw_tsI (c := 3) k 255 dL_law_49 hq ⟨by omega, by omega⟩ (by decide) (by decide) rfl (by decide) (lc_part k hX hB hB' hO hC hM hL h1 h4 nx)
      · exact gw_tsI (c := 4) k 304 dL_law_49 hq ⟨by omega, by omega⟩ (by decide) (by decide) rfl (by decide) (lc_make k hX hB hB' hO hC hM hL h1 h4 nx)
      · exact gw_tsI (c := 5) k 353 dL_law_49 hq ⟨by omega, by omega⟩ (by decide) (by decide) rfl (by decide) (lc_capacity k hX hB hB' hO hC hM hL h1 h4 nx)
      · exact gw_tsI (c := 6) k 390 dL_law_49 hq ⟨by omega, by omega⟩ (by decide) (by decide) rfl (by decide) (lc_over k hX hB hB' hO hC hM hL h1 h4 nx tO hzO)
      · exact gw_tsI (c := 7) k 427 dL_law_49 hq ⟨by omega, by omega⟩ (by decide) (by decide) rfl (by decide) (lc_gross k hX hB hB' hO hC hM hL h1 h4 nx)
      · exact gw_tsI (c := 8) k 464 dL_law_49 hq ⟨by omega, by omega⟩ (by decide) (by decide) rfl (by decide) (lc_stock k hX hB hB' hO hC hM hL h1 h4 nx)
      · exact gw_tsI (c := 9) k 502 dL_law_49 hq ⟨by omega, by omega⟩ (by decide) (by decide) rfl (by decide) (lc_spoilt k hX hB hB' hO hC hM hL h1 h4 nx)
      · exact gw_tsI (c := 10) k 539 dL_law_49 hq ⟨by omega, by omega⟩ (by decide) (by decide) rfl (by decide) (lc_isSetUp k hX hB hB' hO hC hM hL h1 h4 nx)
      · exact gw_tsI (c := 11) k 576 dL_law_49 hq ⟨by omega, by omega⟩ (by decide) (by decide) rfl (by decide) (lc_stands k hX hB hB' hO hC hM hL h1 h4 nx)
      · exact gw_tsI (c := 12) k 601 dL_law_49 hq ⟨by omega, by omega⟩ (by decide) (by decide) rfl (by decide) (lc_time k hX hB hB' hO hC hM hL h1 h4 nx)
      · exact gw_tsI (c := 13) k 627 dL_law_49 hq ⟨by omega, by omega⟩ (by decide) (by decide) rfl (by decide) (lc_price k hX hB hB' hO hC hM hL h1 h4 nx)
      · exact gw_tsI (c := 14) k 653 dL_law_49 hq ⟨by omega, by omega⟩ (by decide) (by decide) rfl (by decide) (lc_faults k hX hB hB' hO hC hM hL h1 h4 nx)
      · exact gw_tsI (c := 15) k 666 dL_law_49 hq ⟨by omega, by omega⟩ (by decide) (by decide) rfl (by decide) (lc_fault k hX hB hB' hO hC hM hL h1 h4 nx)
      · exact gw_tsI (c := 16) k 703 dL_law_49 hq ⟨by omega, by omega⟩ (by decide) (by decide) rfl (by decide) (lc_best k hX hB hB' hO hC hM hL h1 h4 nx)
      · exact gw_tsI (c := 17) k 729 dL_law_49 hq ⟨by omega, by omega⟩ (by decide) (by decide) rfl (by decide) (lc_lot k hX hB hB' hO hC hM hL h1 h4 nx)
      · exact gw_tsI (c := 18) k 766 dL_law_49 hq ⟨by omega, by omega⟩ (by decide) (by decide) rfl (by decide) (lc_from k hX hB hB' hO hC hM hL h1 h4 nx)
      · exact gw_tsI (c := 19) k 804 dL_law_49 hq ⟨by omega, by omega⟩ (by decide) (by decide) rfl (by decide) (lc_share k hX hB hB' hO hC hM hL h1 h4 nx htr hE)
theorem whole_start {p : Program} {e : Env} {s : State} {m : MethodId} {below : List Frame} {meth : Method} {c : Code} (l : Launch) (htr : l.stackTraces = false) {b L : Nat} {xs : Nat → Int32} (hL : L ≤ 2049) (C0 : lw_At p s m meth c b L xs) : W p l e room_1 s m #[Value.ref b] below meth c s.heap [] 0 0 (lw_Z below #[Value.ref b] s) (entryFrame m ([Value.ref b] : List Value).toArray 8) := by
  obtain ⟨hx, hb, hr, hml, hown, hts, hXs, hbl, hlocks, hgv⟩ := C0
  obtain ⟨D, cI, cJ, cZ, cQ, hK⟩ := lw_K hts
  have hA : ∀ a : Nat, a < s.heap.size → ¬ (fun q => s.heap.size ≤ q) a := fun a h => Nat.not_le.mpr h
  obtain ⟨tN, tO, zN, zO⟩ := lw_stat hts hgv hA
  have zE := lw_xE hts hgv hA
  have zA : va_AO "LotRules$Item" s := va_AO.of (hts _ (by decide +kernel))
  have hl := lv_entry [Value.ref b] (n := 8) (Nat.le_of_ble_eq_true rfl)
  rw [lg_entry_eq]
  generalize hKe : ((p, l, e, room_1, s, m, #[Value.ref b], below, meth, c, (fun q => s.heap.size ≤ q), lw_Z below #[Value.ref b] s, 8) : gK) = K
  have k : wOk K D vwD (wT cI cJ cZ cQ) l room_1 8 cL_law RL wsL_law := by
    subst hKe
    exact ⟨rfl, rfl, rfl, hx, hb, hml, hown, fun w hw => hts w (wsL_law_in w hw), hK, fun q h => h⟩
  have hX : wX K (wS b L xs) := by subst hKe; exact ⟨hXs, hbl, hA b hbl⟩
  have hzN : wX K (fun A U => zTab A "MOST_OF_NUMBER" 8 sBnd tN U) := by subst hKe; exact zN
  have hzO : wX K (fun A U => zTab A "MOST_OF_OVER" 2 sBndO tO U) := by subst hKe; exact zO
  have hE : wX K xE := by subst hKe; exact zE
  have hAO : wX K (fun A U => va_AO "LotRules$Item" U ∧ zTab A "MOST_OF_OVER" 2 sBndO tO U) := by subst hKe; exact ⟨zA, zO⟩
  have hend : ∀ (c s : Nat) (ws : va_W) (lv : gLv), c ≤ 601024 → s ≤ 7293000 → GW K D vwD c s ws 877 lv [] := by
    intro c1 s1 ws lv hc hs
    refine gw_iconst k dL_law_877 ?_
    subst hKe
    intro H locs ls hP hD hS hl
    refine va_forget (fun q hq => hS.2.2 q hq) (W.widen hc hs ?_)
    rw [show iI 1 = 1 by decide +kernel]
    exact lw_ret hx hb hr hlocks dL_law_878
  obtain ⟨T, hT⟩ : ∃ T : Int, max 1 (min 12 (xC L xs)) = T := ⟨_, rfl⟩
  have hT12 : 1 ≤ T ∧ T ≤ 12 := by omega
  have key : GW K D vwD 0 0 [] 0 [(0, .ref b)] [] := by
    refine gw_new k (Cn := RX5) (T := TX5) (Nf := 8) (ci := 5) inlX5 tyX5 tyX5_ok (by decide +kernel) (by decide +kernel) (by decide +kernel) rfl (fs := [.int (iI 0), .null, .int (iI 0), .null, .null, .null, .null, .null]) (fun j hj => by rcases (show j = 0 ∨ j = 1 ∨ j = 2 ∨ j = 3 ∨ j = 4 ∨ j = 5 ∨ j = 6 ∨ j = 7 by omega) with rfl | rfl | rfl | rfl | rfl | rfl | rfl | rfl <;> first | rfl | (show Value.int 0 = Value.int (iI 0); rw [iI_0])) (Nat.le_of_ble_eq_true rfl) (Nat.le_of_ble_eq_true rfl) dL_law_0 (fun q => ?_)
    refine gw_dup k dL_law_3 rfl ?_
    refine gw_aload_n k dL_law_4 rfl ?_
    refine gw_iconst k dL_law_5 ?_
    refine gw_callC (rest := [.ref q, .ref q]) k (by omega) hX gL_law_L_cell rfl ⟨by decide, by decide⟩ rfl (Nat.le_of_ble_eq_true rfl) (Nat.le_of_ble_eq_true rfl) (Nat.le_of_ble_eq_true rfl) dL_law_6 ?_
    refine gw_callI (n := 1) (As := [.int (iI (xC L xs))]) (rest := [.ref q]) (pre := []) k (nX5_init (xC_r L xs) hT tO q) gL_law_X5_init rfl rfl rfl (by decide +kernel) (by decide +kernel) (by decide +kernel) rfl (by decide +kernel) ⟨by decide, by decide⟩ (wX_mono (fun A U h H V hV hW hk _ hF => ⟨va_AO.moved hW.alike h.1, h.2.go hW (by rw [hV]; exact hk) hF⟩) hAO) (fun _ _ _ _ _ h => ⟨h.1, h.2.call⟩) rfl rfl (Nat.le_of_ble_eq_true rfl) (Nat.le_of_ble_eq_true rfl) (Nat.le_of_ble_eq_true rfl) rfl dL_law_9 (fun w1 hw1 => ?_)
    obtain ⟨ad, cg, hB, hq, rfl⟩ := hw1
    subst hq
    refine gw_ws (ws' := gw ad cg 68 (cC0 T)) (List.nil_append _) ?_
    refine gw_astore_n k [(1, .ref (ad 0)), (0, .ref b)] dL_law_12 (by decide) rfl ?_
    refine gw_new k (Cn := RX6) (T := TX6) (Nf := 25) (ci := 6) inlX6 tyX6 tyX6_ok (by decide +kernel) (by decide +kernel) (by decide +kernel) rfl (fs := [.int (iI 0), .int (iI 0), .int (iI 0), .null, .null, .null, .null, .null, .int (iI 0), .int (iI 0), .null, .null, .null, .null, .null, .null, .null, .int (iI 0), .null, .null, .null, .null, .null, .null, .null]) (fun j hj => by rcases (show j = 0 ∨ j = 1 ∨ j = 2 ∨ j = 3 ∨ j = 4 ∨ j = 5 ∨ j = 6 ∨ j = 7 ∨ j = 8 ∨ j = 9 ∨ j = 10 ∨ j = 11 ∨ j = 12 ∨ j = 13 ∨ j = 14 ∨ j = 15 ∨ j = 16 ∨ j = 17 ∨ j = 18 ∨ j = 19 ∨ j = 20 ∨ j = 21 ∨ j = 22 ∨ j = 23 ∨ j = 24 by omega) with rfl | rfl | rfl | rfl | rfl | rfl | rfl | rfl | rfl | rfl | rfl | rfl | rfl | rfl | rfl | rfl | rfl | rfl | rfl | rfl | rfl | rfl | rfl | rfl | rfl <;> first | rfl | (show Value.int 0 = Value.int (iI 0); rw [iI_0])) (Nat.le_of_ble_eq_true rfl) (Nat.le_of_ble_eq_true rfl) dL_law_13 (fun q => ?_)
    refine gw_dup k dL_law_16 rfl ?_
    refine gw_aload_n k dL_law_17 rfl ?_
    refine gw_iconst k dL_law_18 ?_
    refine gw_callC (rest := [.ref q, .ref q]) k (by omega) hX gL_law_L_cell rfl ⟨by decide, by decide⟩ rfl (Nat.le_of_ble_eq_true rfl) (Nat.le_of_ble_eq_true rfl) (Nat.le_of_ble_eq_true rfl) dL_law_19 ?_
    refine gw_callI (n := 1) (As := [.int (iI (xC L xs))]) (rest := [.ref q]) (pre := gw ad cg 68 (cC0 T)) k (nX6_init (xC_r L xs) hT q) gL_law_X6_init rfl rfl rfl (by decide +kernel) (by decide +kernel) (by decide +kernel) rfl (by decide +kernel) ⟨by decide, by decide⟩ noX_k (fun _ _ _ _ _ h => h) rfl rfl (Nat.le_of_ble_eq_true rfl) (Nat.le_of_ble_eq_true rfl) (Nat.le_of_ble_eq_true rfl) rfl dL_law_22 (fun w1 hw1 => ?_)
    obtain ⟨ad', cg', hB', hq, rfl⟩ := hw1
    subst hq
    refine gw_astore_n k [(2, .ref (ad' 0)), (1, .ref (ad 0)), (0, .ref b)] dL_law_25 (by decide) rfl ?_
    refine gw_iconst k dL_law_26 ?_
    refine gw_newL k 1 rfl (by decide +kernel) (N := 1) (n' := 1) (by omega) (by omega) (by omega) (by omega) (Nat.le_of_ble_eq_true rfl) (Nat.le_of_ble_eq_true rfl) dL_law_27 (fun o => ?_)
    refine gw_astore_n k [(3, .ref o), (2, .ref (ad' 0)), (1, .ref (ad 0)), (0, .ref b)] dL_law_29 (by decide) rfl ?_
    refine gw_iconst k dL_law_30 ?_
    refine gw_istore k (lV b ad ad' o 1) dL_law_31 (by decide) rfl ?_
    refine gw_swap ?_
    refine gw_widen (c2 := 100 + (1 : Int).toNat) (s2 := 3000 + 6 * (1 : Int).toNat) (Nat.le_of_ble_eq_true rfl) (Nat.le_of_ble_eq_true rfl) ?_
    exact lawLoop k hX hB hB' hL htr hE tN tO hzN hzO hend (((L : Int) - 1).toNat + 1) 1 s0S (cC0 T) mC0 (fun _ => iL 0) (by omega) (by omega) (s0S_ok hT12) (cC0_rel hT12) (mC0_rel hT12) (by omega)
  subst hKe
  exact key s.heap [] _ (fun k q h => by simp at h) ⟨fun i j a b h => by simp at h, fun k q h => by simp at h⟩ va_S.rf hl
