/-! ===== the law's cases ===== -/
abbrev lW (cJ : ClassId) (ad : Nat → Nat) (cg : gCg) (ad' : Nat → Nat) (cg' : gCg) (o : Nat) (C M : gSt) (g : Nat → Int64) : va_W := gw ad' cg' 20 M ++ gw ad cg 68 C ++ [(o, .inl (cJ, 1, .inr (.inl g)))]
abbrev lV (b : Nat) (ad ad' : Nat → Nat) (o : Nat) (i : Int) : gLv := [(4, .int (iI i)), (3, .ref o), (2, .ref (ad' 0)), (1, .ref (ad 0)), (0, .ref b)]
theorem lwA {a b c : va_W} : a ++ b ++ c = [] ++ a ++ (b ++ c) := by rw [List.nil_append, List.append_assoc]
theorem lwB {a b c : va_W} : a ++ b ++ c = a ++ (b ++ c) ++ [] := by rw [List.append_nil, List.append_assoc]
def lNx (K : gK) (D : va_G) (cJ : ClassId) (ad : Nat → Nat) (cg : gCg) (ad' : Nat → Nat) (cg' : gCg) (o b : Nat) (T i : Int) : Prop := ∀ (c s : Nat) (S' : sS) (C' M' : gSt) (g' : Nat → Int64), c ≤ 100 + (i + 4).toNat → s ≤ 3000 + 6 * (i + 4).toNat → sOk S' T → cRel S' T C' → mRel S' T M' → GW K D vwD c s (lW cJ ad cg ad' cg' o C' M' g') 871 (lV b ad ad' o i) []

set_option maxRecDepth 100000 in
set_option maxHeartbeats 4000000 in
theorem lc_item {K : gK} {D : va_G} {l : Launch} {cI cJ cZ cQ : ClassId} {T : Int} {S : sS} {C M : gSt} {g : Nat → Int64} {ad : Nat → Nat} {cg : gCg} {ad' : Nat → Nat} {cg' : gCg} {o b L : Nat} {xs : Nat → Int32} {i : Int} (k : wOk K D vwD (wT cI cJ cZ cQ) l room_1 8 cL_law RL wsL_law) (hX : wX K (wS b L xs)) (hB : clsB (D, vwD, wT cI cJ cZ cQ, ad, cg, 68) T) (hB' : mdlB (D, vwD, wT cI cJ cZ cQ, ad', cg', 20) T) (hO : sOk S T) (hC : cRel S T C) (hM : mRel S T M) (hL : L ≤ 2049) (h1 : 1 ≤ i) (h2 : i + 4 ≤ (L : Int)) (nx : lNx K D cJ ad cg ad' cg' o b T i) : GW K D vwD (100 + i.toNat) (3000 + 6 * i.toNat) (lW cJ ad cg ad' cg' o C M g) 144 (lV b ad ad' o i) [] := by
  refine gw_aload_n k dL_law_144 rfl ?_
  refine gw_calli (n := 0) (As := []) (rest := []) k (gw ad' cg' 20 M) [(o, .inl (cJ, 1, .inr (.inl g)))] (kX5_item hB hO hC  ) ⟨_, _, _, gL_law_X5_item, rfl, rfl, rfl, by decide +kernel, by decide, by decide⟩ (cb0 hB) rfl rfl rfl (Nat.le_of_ble_eq_true rfl) (by show 100 + i.toNat ≤ 601024; omega) (by show 3000 + 6 * i.toNat ≤ 7293000; omega) dL_law_145 (fun z1 C1 hz1 hp1 => ?_)
  refine gw_aload_n k dL_law_148 rfl ?_
  refine gw_calli (n := 0) (As := []) (rest := [.int (iI z1)]) k [] (gw ad cg 68 C1 ++ [(o, .inl (cJ, 1, .inr (.inl g)))]) (kX6_item hB' hO hM  ) ⟨_, _, _, gL_law_X6_item, rfl, rfl, rfl, by decide +kernel, by decide, by decide⟩ (mb0 hB') lwA rfl rfl (Nat.le_of_ble_eq_true rfl) (by show 100 + i.toNat ≤ 601024; omega) (by show 3000 + 6 * i.toNat ≤ 7293000; omega) dL_law_149 (fun z2 M1 hz2 hp2 => ?_)
  refine gw_ws lwA.symm ?_
  have hk : z1 = z2 ∧ ∃ S1, sOk S1 T ∧ cRel S1 T C1 ∧ mRel S1 T M1 := by
    rcases hp1 with ⟨a1, a2, a3⟩ | ⟨a1, a2, a3⟩ <;> rcases hp2 with ⟨b1, b2, b3⟩ | ⟨b1, b2, b3⟩
    · exact ⟨a2.trans b2.symm, S, hO, a3, b3⟩
    · omega
    · omega
    · exact ⟨a2.trans b2.symm, _, hO.sup6 a1, a3, b3⟩
  obtain ⟨hk, S1, hO1, hC1, hM1⟩ := hk
  exact gw_icmp_eq k 871 dL_law_152 (by decide) hz1 hz2 (fun _ => nx _ _ _ _ _ _ (by omega) (by omega) hO1 hC1 hM1) (fun hne => absurd hk hne)

set_option maxRecDepth 100000 in
set_option maxHeartbeats 4000000 in
theorem lc_set {K : gK} {D : va_G} {l : Launch} {cI cJ cZ cQ : ClassId} {T : Int} {S : sS} {C M : gSt} {g : Nat → Int64} {ad : Nat → Nat} {cg : gCg} {ad' : Nat → Nat} {cg' : gCg} {o b L : Nat} {xs : Nat → Int32} {i : Int} (k : wOk K D vwD (wT cI cJ cZ cQ) l room_1 8 cL_law RL wsL_law) (hX : wX K (wS b L xs)) (hB : clsB (D, vwD, wT cI cJ cZ cQ, ad, cg, 68) T) (hB' : mdlB (D, vwD, wT cI cJ cZ cQ, ad', cg', 20) T) (hO : sOk S T) (hC : cRel S T C) (hM : mRel S T M) (hL : L ≤ 2049) (h1 : 1 ≤ i) (h2 : i + 4 ≤ (L : Int)) (nx : lNx K D cJ ad cg ad' cg' o b T i) (tN : Nat) (hzN : wX K (fun A U => zTab A "MOST_OF_NUMBER" 8 sBnd tN U)) : GW K D vwD (100 + i.toNat) (3000 + 6 * i.toNat) (lW cJ ad cg ad' cg' o C M g) 157 (lV b ad ad' o i) [] := by
  refine gw_aload_n k dL_law_157 rfl ?_
  refine gw_aload_n k dL_law_158 rfl ?_
  refine gw_iload k dL_law_159 rfl ?_
  refine gw_iconst k dL_law_161 ?_
  refine gw_iadd k dL_law_162 ?_
  refine gw_sld k hX (by omega) (by omega) (by omega) dL_law_163 ?_
  refine gw_aload_n k dL_law_164 rfl ?_
  refine gw_iload k dL_law_165 rfl ?_
  refine gw_iconst k dL_law_167 ?_
  refine gw_iadd k dL_law_168 ?_
  refine gw_sld k hX (by omega) (by omega) (by omega) dL_law_169 ?_
  refine gw_aload_n k dL_law_170 rfl ?_
  refine gw_iload k dL_law_171 rfl ?_
  refine gw_iconst k dL_law_173 ?_
  refine gw_iadd k dL_law_174 ?_
  refine gw_sld k hX (by omega) (by omega) (by omega) dL_law_175 ?_
  refine gw_callx (n := 3) (As := [.int (iI (xz xs (i + 1))), .int (iI (xz xs (i + 2))), .int (iI (xz xs (i + 3)))]) (rest := []) k (gw ad' cg' 20 M) [(o, .inl (cJ, 1, .inr (.inl g)))] (kX5_set hB hO hC tN (xz xs (i + 1)) (xz xs (i + 2)) (xz xs (i + 3)) (xz_r _ _) (xz_r _ _) (xz_r _ _)) ⟨_, _, _, gL_law_X5_set, rfl, rfl, rfl, by decide +kernel, by decide, by decide⟩ (cb0 hB) hzN rfl rfl rfl (Nat.le_of_ble_eq_true rfl) (by show 100 + i.toNat ≤ 601024; omega) (by show 3000 + 6 * i.toNat ≤ 7293000; omega) dL_law_176 (fun z1 C1 hz1 hp1 => ?_)
  refine gw_aload_n k dL_law_179 rfl ?_
  refine gw_aload_n k dL_law_180 rfl ?_
  refine gw_iload k dL_law_181 rfl ?_
  refine gw_iconst k dL_law_183 ?_
  refine gw_iadd k dL_law_184 ?_
  refine gw_sld k hX (by omega) (by omega) (by omega) dL_law_185 ?_
  refine gw_aload_n k dL_law_186 rfl ?_
  refine gw_iload k dL_law_187 rfl ?_
  refine gw_iconst k dL_law_189 ?_
  refine gw_iadd k dL_law_190 ?_
  refine gw_sld k hX (by omega) (by omega) (by omega) dL_law_191 ?_
  refine gw_aload_n k dL_law_192 rfl ?_
  refine gw_iload k dL_law_193 rfl ?_
  refine gw_iconst k dL_law_195 ?_
  refine gw_iadd k dL_law_196 ?_
  refine gw_sld k hX (by omega) (by omega) (by omega) dL_law_197 ?_
  refine gw_calli (n := 3) (As := [.int (iI (xz xs (i + 1))), .int (iI (xz xs (i + 2))), .int (iI (xz xs (i + 3)))]) (rest := [.int (iI z1)]) k [] (gw ad cg 68 C1 ++ [(o, .inl (cJ, 1, .inr (.inl g)))]) (kX6_set hB' hO hM (xz xs (i + 1)) (xz xs (i + 2)) (xz xs (i + 3)) (xz_r _ _) (xz_r _ _) (xz_r _ _)) ⟨_, _, _, gL_law_X6_set, rfl, rfl, rfl, by decide +kernel, by decide, by decide⟩ (mb0 hB') lwA rfl rfl (Nat.le_of_ble_eq_true rfl) (by show 100 + i.toNat ≤ 601024; omega) (by show 3000 + 6 * i.toNat ≤ 7293000; omega) dL_law_198 (fun z2 M1 hz2 hp2 => ?_)
  refine gw_ws lwA.symm ?_
  exact gw_icmp_eq k 871 dL_law_201 (by decide) hz1 hz2 (fun _ => nx _ _ _ _ _ _ (by omega) (by omega) (hO.setU (xz xs (i + 1)) (xz xs (i + 2)) (xz xs (i + 3))) hp1.1 hp2.1) (fun hne => absurd (hp1.2.trans hp2.2.symm) hne)

set_option maxRecDepth 100000 in
set_option maxHeartbeats 4000000 in
theorem lc_need {K : gK} {D : va_G} {l : Launch} {cI cJ cZ cQ : ClassId} {T : Int} {S : sS} {C M : gSt} {g : Nat → Int64} {ad : Nat → Nat} {cg : gCg} {ad' : Nat → Nat} {cg' : gCg} {o b L : Nat} {xs : Nat → Int32} {i : Int} (k : wOk K D vwD (wT cI cJ cZ cQ) l room_1 8 cL_law RL wsL_law) (hX : wX K (wS b L xs)) (hB : clsB (D, vwD, wT cI cJ cZ cQ, ad, cg, 68) T) (hB' : mdlB (D, vwD, wT cI cJ cZ cQ, ad', cg', 20) T) (hO : sOk S T) (hC : cRel S T C) (hM : mRel S T M) (hL : L ≤ 2049) (h1 : 1 ≤ i) (h2 : i + 4 ≤ (L : Int)) (nx : lNx K D cJ ad cg ad' cg' o b T i) : GW K D vwD (100 + i.toNat) (3000 + 6 * i.toNat) (lW cJ ad cg ad' cg' o C M g) 206 (lV b ad ad' o i) [] := by
  refine gw_aload_n k dL_law_206 rfl ?_
  refine gw_aload_n k dL_law_207 rfl ?_
  refine gw_iload k dL_law_208 rfl ?_
  refine gw_iconst k dL_law_210 ?_
  refine gw_iadd k dL_law_211 ?_
  refine gw_sld k hX (by omega) (by omega) (by omega) dL_law_212 ?_
  refine gw_aload_n k dL_law_213 rfl ?_
  refine gw_iload k dL_law_214 rfl ?_
  refine gw_iconst k dL_law_216 ?_
  refine gw_iadd k dL_law_217 ?_
  refine gw_sld k hX (by omega) (by omega) (by omega) dL_law_218 ?_
  refine gw_aload_n k dL_law_219 rfl ?_
  refine gw_iload k dL_law_220 rfl ?_
  refine gw_iconst k dL_law_222 ?_
  refine gw_iadd k dL_law_223 ?_
  refine gw_sld k hX (by omega) (by omega) (by omega) dL_law_224 ?_
  refine gw_calli (n := 3) (As := [.int (iI (xz xs (i + 1))), .int (iI (xz xs (i + 2))), .int (iI (xz xs (i + 3)))]) (rest := []) k (gw ad' cg' 20 M) [(o, .inl (cJ, 1, .inr (.inl g)))] (kX5_need hB hO hC (xz xs (i + 1)) (xz xs (i + 2)) (xz xs (i + 3)) (xz_r _ _) (xz_r _ _) (xz_r _ _)) ⟨_, _, _, gL_law_X5_need, rfl, rfl, rfl, by decide +kernel, by decide, by decide⟩ (cb0 hB) rfl rfl rfl (Nat.le_of_ble_eq_true rfl) (by show 100 + i.toNat ≤ 601024; omega) (by show 3000 + 6 * i.toNat ≤ 7293000; omega) dL_law_225 (fun z1 C1 hz1 hp1 => ?_)
  refine gw_aload_n k dL_law_228 rfl ?_
  refine gw_aload_n k dL_law_229 rfl ?_
  refine gw_iload k dL_law_230 rfl ?_
  refine gw_iconst k dL_law_232 ?_
  refine gw_iadd k dL_law_233 ?_
  refine gw_sld k hX (by omega) (by omega) (by omega) dL_law_234 ?_
  refine gw_aload_n k dL_law_235 rfl ?_
  refine gw_iload k dL_law_236 rfl ?_
  refine gw_iconst k dL_law_238 ?_
  refine gw_iadd k dL_law_239 ?_
  refine gw_sld k hX (by omega) (by omega) (by omega) dL_law_240 ?_
  refine gw_aload_n k dL_law_241 rfl ?_
  refine gw_iload k dL_law_242 rfl ?_
  refine gw_iconst k dL_law_244 ?_
  refine gw_iadd k dL_law_245 ?_
  refine gw_sld k hX (by omega) (by omega) (by omega) dL_law_246 ?_
  refine gw_calli (n := 3) (As := [.int (iI (xz xs (i + 1))), .int (iI (xz xs (i + 2))), .int (iI (xz xs (i + 3)))]) (rest := [.int (iI z1)]) k [] (gw ad cg 68 C1 ++ [(o, .inl (cJ, 1, .inr (.inl g)))]) (kX6_need hB' hO hM (xz xs (i + 1)) (xz xs (i + 2)) (xz xs (i + 3)) (xz_r _ _) (xz_r _ _) (xz_r _ _)) ⟨_, _, _, gL_law_X6_need, rfl, rfl, rfl, by decide +kernel, by decide, by decide⟩ (mb0 hB') lwA rfl rfl (Nat.le_of_ble_eq_true rfl) (by show 100 + i.toNat ≤ 601024; omega) (by show 3000 + 6 * i.toNat ≤ 7293000; omega) dL_law_247 (fun z2 M1 hz2 hp2 => ?_)
  refine gw_ws lwA.symm ?_
  exact gw_icmp_eq k 871 dL_law_250 (by decide) hz1 hz2 (fun _ => nx _ _ _ _ _ _ (by omega) (by omega) (hO.needU (xz xs (i + 1)) (xz xs (i + 2)) (xz xs (i + 3))) hp1.1 hp2.1) (fun hne => absurd (hp1.2.trans hp2.2.symm) hne)

set_option maxRecDepth 100000 in
set_option maxHeartbeats 4000000 in
theorem lc_part {K : gK} {D : va_G} {l : Launch} {cI cJ cZ cQ : ClassId} {T : Int} {S : sS} {C M : gSt} {g : Nat → Int64} {ad : Nat → Nat} {cg : gCg} {ad' : Nat → Nat} {cg' : gCg} {o b L : Nat} {xs : Nat → Int32} {i : Int} (k : wOk K D vwD (wT cI cJ cZ cQ) l room_1 8 cL_law RL wsL_law) (hX : wX K (wS b L xs)) (hB : clsB (D, vwD, wT cI cJ cZ cQ, ad, cg, 68) T) (hB' : mdlB (D, vwD, wT cI cJ cZ cQ, ad', cg', 20) T) (hO : sOk S T) (hC : cRel S T C) (hM : mRel S T M) (hL : L ≤ 2049) (h1 : 1 ≤ i) (h2 : i + 4 ≤ (L : Int)) (nx : lNx K D cJ ad cg ad' cg' o b T i) : GW K D vwD (100 + i.toNat) (3000 + 6 * i.toNat) (lW cJ ad cg ad' cg' o C M g) 255 (lV b ad ad' o i) [] := by
  refine gw_aload_n k dL_law_255 rfl ?_
  refine gw_aload_n k dL_law_256 rfl ?_
  refine gw_iload k dL_law_257 rfl ?_
  refine gw_iconst k dL_law_259 ?_
  refine gw_iadd k dL_law_260 ?_
  refine gw_sld k hX (by omega) (by omega) (by omega) dL_law_261 ?_
  refine gw_aload_n k dL_law_262 rfl ?_
  refine gw_iload k dL_law_263 rfl ?_
  refine gw_iconst k dL_law_265 ?_
  refine gw_iadd k dL_law_266 ?_
  refine gw_sld k hX (by omega) (by omega) (by omega) dL_law_267 ?_
  refine gw_aload_n k dL_law_268 rfl ?_
  refine gw_iload k dL_law_269 rfl ?_
  refine gw_iconst k dL_law_271 ?_
  refine gw_iadd k dL_law_272 ?_
  refine gw_sld k hX (by omega) (by omega) (by omega) dL_law_273 ?_
  refine gw_calli (n := 3) (As := [.int (iI (xz xs (i + 1))), .int (iI (xz xs (i + 2))), .int (iI (xz xs (i + 3)))]) (rest := []) k (gw ad' cg' 20 M) [(o, .inl (cJ, 1, .inr (.inl g)))] (kX5_part hB hO hC (xz xs (i + 1)) (xz xs (i + 2)) (xz xs (i + 3)) (xz_r _ _) (xz_r _ _) (xz_r _ _)) ⟨_, _, _, gL_law_X5_part, rfl, rfl, rfl, by decide +kernel, by decide, by decide⟩ (cb0 hB) rfl rfl rfl (Nat.le_of_ble_eq_true rfl) (by show 100 + i.toNat ≤ 601024; omega) (by show 3000 + 6 * i.toNat ≤ 7293000; omega) dL_law_274 (fun z1 C1 hz1 hp1 => ?_)
  refine gw_aload_n k dL_law_277 rfl ?_
  refine gw_aload_n k dL_law_278 rfl ?_
  refine gw_iload k dL_law_279 rfl ?_
  refine gw_iconst k dL_law_281 ?_
  refine gw_iadd k dL_law_282 ?_
  refine gw_sld k hX (by omega) (by omega) (by omega) dL_law_283 ?_
  refine gw_aload_n k dL_law_284 rfl ?_
  refine gw_iload k dL_law_285 rfl ?_
  refine gw_iconst k dL_law_287 ?_
  refine gw_iadd k dL_law_288 ?_
  refine gw_sld k hX (by omega) (by omega) (by omega) dL_law_289 ?_
  refine gw_aload_n k dL_law_290 rfl ?_
  refine gw_iload k dL_law_291 rfl ?_
  refine gw_iconst k dL_law_293 ?_
  refine gw_iadd k dL_law_294 ?_
  refine gw_sld k hX (by omega) (by omega) (by omega) dL_law_295 ?_
  refine gw_calli (n := 3) (As := [.int (iI (xz xs (i + 1))), .int (iI (xz xs (i + 2))), .int (iI (xz xs (i + 3)))]) (rest := [.int (iI z1)]) k [] (gw ad cg 68 C1 ++ [(o, .inl (cJ, 1, .inr (.inl g)))]) (kX6_part hB' hO hM (xz xs (i + 1)) (xz xs (i + 2)) (xz xs (i + 3)) (xz_r _ _) (xz_r _ _) (xz_r _ _)) ⟨_, _, _, gL_law_X6_part, rfl, rfl, rfl, by decide +kernel, by decide, by decide⟩ (mb0 hB') lwA rfl rfl (Nat.le_of_ble_eq_true rfl) (by show 100 + i.toNat ≤ 601024; omega) (by show 3000 + 6 * i.toNat ≤ 7293000; omega) dL_law_296 (fun z2 M1 hz2 hp2 => ?_)
  refine gw_ws lwA.symm ?_
  exact gw_icmp_eq k 871 dL_law_299 (by decide) hz1 hz2 (fun _ => nx _ _ _ _ _ _ (by omega) (by omega) (hO.partU (xz xs (i + 1)) (xz xs (i + 2)) (xz xs (i + 3))) hp1.1 hp2.1) (fun hne => absurd (hp1.2.trans hp2.2.symm) hne)

set_option maxRecDepth 100000 in
set_option maxHeartbeats 4000000 in
theorem lc_make {K : gK} {D : va_G} {l : Launch} {cI cJ cZ cQ : ClassId} {T : Int} {S : sS} {C M : gSt} {g : Nat → Int64} {ad : Nat → Nat} {cg : gCg} {ad' : Nat → Nat} {cg' : gCg} {o b L : Nat} {xs : Nat → Int32} {i : Int} (k : wOk K D vwD (wT cI cJ cZ cQ) l room_1 8 cL_law RL wsL_law) (hX : wX K (wS b L xs)) (hB : clsB (D, vwD, wT cI cJ cZ cQ, ad, cg, 68) T) (hB' : mdlB (D, vwD, wT cI cJ cZ cQ, ad', cg', 20) T) (hO : sOk S T) (hC : cRel S T C) (hM : mRel S T M) (hL : L ≤ 2049) (h1 : 1 ≤ i) (h2 : i + 4 ≤ (L : Int)) (nx : lNx K D cJ ad cg ad' cg' o b T i) : GW K D vwD (100 + i.toNat) (3000 + 6 * i.toNat) (lW cJ ad cg ad' cg' o C M g) 304 (lV b ad ad' o i) [] := by
  refine gw_aload_n k dL_law_304 rfl ?_
  refine gw_aload_n k dL_law_305 rfl ?_
  refine gw_iload k dL_law_306 rfl ?_
  refine gw_iconst k dL_law_308 ?_
  refine gw_iadd k dL_law_309 ?_
  refine gw_sld k hX (by omega) (by omega) (by omega) dL_law_310 ?_
  refine gw_aload_n k dL_law_311 rfl ?_
  refine gw_iload k dL_law_312 rfl ?_
  refine gw_iconst k dL_law_314 ?_
  refine gw_iadd k dL_law_315 ?_
  refine gw_sld k hX (by omega) (by omega) (by omega) dL_law_316 ?_
  refine gw_aload_n k dL_law_317 rfl ?_
  refine gw_iload k dL_law_318 rfl ?_
  refine gw_iconst k dL_law_320 ?_
  refine gw_iadd k dL_law_321 ?_
  refine gw_sld k hX (by omega) (by omega) (by omega) dL_law_322 ?_
  refine gw_calli (n := 3) (As := [.int (iI (xz xs (i + 1))), .int (iI (xz xs (i + 2))), .int (iI (xz xs (i + 3)))]) (rest := []) k (gw ad' cg' 20 M) [(o, .inl (cJ, 1, .inr (.inl g)))] (kX5_make hB hO hC (xz xs (i + 1)) (xz xs (i + 2)) (xz xs (i + 3)) (xz_r _ _) (xz_r _ _) (xz_r _ _)) ⟨_, _, _, gL_law_X5_make, rfl, rfl, rfl, by decide +kernel, by decide, by decide⟩ (cb0 hB) rfl rfl rfl (Nat.le_of_ble_eq_true rfl) (by show 100 + i.toNat ≤ 601024; omega) (by show 3000 + 6 * i.toNat ≤ 7293000; omega) dL_law_323 (fun z1 C1 hz1 hp1 => ?_)
  refine gw_aload_n k dL_law_326 rfl ?_
  refine gw_aload_n k dL_law_327 rfl ?_
  refine gw_iload k dL_law_328 rfl ?_
  refine gw_iconst k dL_law_330 ?_
  refine gw_iadd k dL_law_331 ?_
  refine gw_sld k hX (by omega) (by omega) (by omega) dL_law_332 ?_
  refine gw_aload_n k dL_law_333 rfl ?_
  refine gw_iload k dL_law_334 rfl ?_
  refine gw_iconst k dL_law_336 ?_
  refine gw_iadd k dL_law_337 ?_
  refine gw_sld k hX (by omega) (by omega) (by omega) dL_law_338 ?_
  refine gw_aload_n k dL_law_339 rfl ?_
  refine gw_iload k dL_law_340 rfl ?_
  refine gw_iconst k dL_law_342 ?_
  refine gw_iadd k dL_law_343 ?_
  refine gw_sld k hX (by omega) (by omega) (by omega) dL_law_344 ?_
  refine gw_calli (n := 3) (As := [.int (iI (xz xs (i + 1))), .int (iI (xz xs (i + 2))), .int (iI (xz xs (i + 3)))]) (rest := [.int (iI z1)]) k [] (gw ad cg 68 C1 ++ [(o, .inl (cJ, 1, .inr (.inl g)))]) (kX6_make hB' hO hM (xz xs (i + 1)) (xz xs (i + 2)) (xz xs (i + 3)) (xz_r _ _) (xz_r _ _) (xz_r _ _)) ⟨_, _, _, gL_law_X6_make, rfl, rfl, rfl, by decide +kernel, by decide, by decide⟩ (mb0 hB') lwA rfl rfl (Nat.le_of_ble_eq_true rfl) (by show 100 + i.toNat ≤ 601024; omega) (by show 3000 + 6 * i.toNat ≤ 7293000; omega) dL_law_345 (fun z2 M1 hz2 hp2 => ?_)
  refine gw_ws lwA.symm ?_
  exact gw_icmp_eq k 871 dL_law_348 (by decide) hz1 hz2 (fun _ => nx _ _ _ _ _ _ (by omega) (by omega) (hO.makeU (xz xs (i + 1)) (xz xs (i + 2)) (xz xs (i + 3))) hp1.1 hp2.1) (fun hne => absurd (hp1.2.trans hp2.2.symm) hne)

set_option maxRecDepth 100000 in
set_option maxHeartbeats 4000000 in
theorem lc_capacity {K : gK} {D : va_G} {l : Launch} {cI cJ cZ cQ : ClassId} {T : Int} {S : sS} {C M : gSt} {g : Nat → Int64} {ad : Nat → Nat} {cg : gCg} {ad' : Nat → Nat} {cg' : gCg} {o b L : Nat} {xs : Nat → Int32} {i : Int} (k : wOk K D vwD (wT cI cJ cZ cQ) l room_1 8 cL_law RL wsL_law) (hX : wX K (wS b L xs)) (hB : clsB (D, vwD, wT cI cJ cZ cQ, ad, cg, 68) T) (hB' : mdlB (D, vwD, wT cI cJ cZ cQ, ad', cg', 20) T) (hO : sOk S T) (hC : cRel S T C) (hM : mRel S T M) (hL : L ≤ 2049) (h1 : 1 ≤ i) (h2 : i + 4 ≤ (L : Int)) (nx : lNx K D cJ ad cg ad' cg' o b T i) : GW K D vwD (100 + i.toNat) (3000 + 6 * i.toNat) (lW cJ ad cg ad' cg' o C M g) 353 (lV b ad ad' o i) [] := by
  refine gw_aload_n k dL_law_353 rfl ?_
  refine gw_aload_n k dL_law_354 rfl ?_
  refine gw_iload k dL_law_355 rfl ?_
  refine gw_iconst k dL_law_357 ?_
  refine gw_iadd k dL_law_358 ?_
  refine gw_sld k hX (by omega) (by omega) (by omega) dL_law_359 ?_
  refine gw_aload_n k dL_law_360 rfl ?_
  refine gw_iload k dL_law_361 rfl ?_
  refine gw_iconst k dL_law_363 ?_
  refine gw_iadd k dL_law_364 ?_
  refine gw_sld k hX (by omega) (by omega) (by omega) dL_law_365 ?_
  refine gw_calli (n := 2) (As := [.int (iI (xz xs (i + 1))), .int (iI (xz xs (i + 2)))]) (rest := []) k (gw ad' cg' 20 M) [(o, .inl (cJ, 1, .inr (.inl g)))] (kX5_capacity hB hO hC (xz xs (i + 1)) (xz xs (i + 2)) (xz_r _ _) (xz_r _ _)) ⟨_, _, _, gL_law_X5_capacity, rfl, rfl, rfl, by decide +kernel, by decide, by decide⟩ (cb0 hB) rfl rfl rfl (Nat.le_of_ble_eq_true rfl) (by show 100 + i.toNat ≤ 601024; omega) (by show 3000 + 6 * i.toNat ≤ 7293000; omega) dL_law_366 (fun z1 C1 hz1 hp1 => ?_)
  refine gw_aload_n k dL_law_369 rfl ?_
  refine gw_aload_n k dL_law_370 rfl ?_
  refine gw_iload k dL_law_371 rfl ?_
  refine gw_iconst k dL_law_373 ?_
  refine gw_iadd k dL_law_374 ?_
  refine gw_sld k hX (by omega) (by omega) (by omega) dL_law_375 ?_
  refine gw_aload_n k dL_law_376 rfl ?_
  refine gw_iload k dL_law_377 rfl ?_
  refine gw_iconst k dL_law_379 ?_
  refine gw_iadd k dL_law_380 ?_
  refine gw_sld k hX (by omega) (by omega) (by omega) dL_law_381 ?_
  refine gw_calli (n := 2) (As := [.int (iI (xz xs (i + 1))), .int (iI (xz xs (i + 2)))]) (rest := [.int (iI z1)]) k [] (gw ad cg 68 C1 ++ [(o, .inl (cJ, 1, .inr (.inl g)))]) (kX6_capacity hB' hO hM (xz xs (i + 1)) (xz xs (i + 2)) (xz_r _ _) (xz_r _ _)) ⟨_, _, _, gL_law_X6_capacity, rfl, rfl, rfl, by decide +kernel, by decide, by decide⟩ (mb0 hB') lwA rfl rfl (Nat.le_of_ble_eq_true rfl) (by show 100 + i.toNat ≤ 601024; omega) (by show 3000 + 6 * i.toNat ≤ 7293000; omega) dL_law_382 (fun z2 M1 hz2 hp2 => ?_)
  refine gw_ws lwA.symm ?_
  exact gw_icmp_eq k 871 dL_law_385 (by decide) hz1 hz2 (fun _ => nx _ _ _ _ _ _ (by omega) (by omega) (hO.capU (xz xs (i + 1)) (xz xs (i + 2))) hp1.1 hp2.1) (fun hne => absurd (hp1.2.trans hp2.2.symm) hne)

set_option maxRecDepth 100000 in
set_option maxHeartbeats 4000000 in
theorem lc_over {K : gK} {D : va_G} {l : Launch} {cI cJ cZ cQ : ClassId} {T : Int} {S : sS} {C M : gSt} {g : Nat → Int64} {ad : Nat → Nat} {cg : gCg} {ad' : Nat → Nat} {cg' : gCg} {o b L : Nat} {xs : Nat → Int32} {i : Int} (k : wOk K D vwD (wT cI cJ cZ cQ) l room_1 8 cL_law RL wsL_law) (hX : wX K (wS b L xs)) (hB : clsB (D, vwD, wT cI cJ cZ cQ, ad, cg, 68) T) (hB' : mdlB (D, vwD, wT cI cJ cZ cQ, ad', cg', 20) T) (hO : sOk S T) (hC : cRel S T C) (hM : mRel S T M) (hL : L ≤ 2049) (h1 : 1 ≤ i) (h2 : i + 4 ≤ (L : Int)) (nx : lNx K D cJ ad cg ad' cg' o b T i) (tO : Nat) (hzO : wX K (fun A U => zTab A "MOST_OF_OVER" 2 sBndO tO U)) : GW K D vwD (100 + i.toNat) (3000 + 6 * i.toNat) (lW cJ ad cg ad' cg' o C M g) 390 (lV b ad ad' o i) [] := by
  refine gw_aload_n k dL_law_390 rfl ?_
  refine gw_aload_n k dL_law_391 rfl ?_
  refine gw_iload k dL_law_392 rfl ?_
  refine gw_iconst k dL_law_394 ?_
  refine gw_iadd k dL_law_395 ?_
  refine gw_sld k hX (by omega) (by omega) (by omega) dL_law_396 ?_
  refine gw_aload_n k dL_law_397 rfl ?_
  refine gw_iload k dL_law_398 rfl ?_
  refine gw_iconst k dL_law_400 ?_
  refine gw_iadd k dL_law_401 ?_
  refine gw_sld k hX (by omega) (by omega) (by omega) dL_law_402 ?_
  refine gw_callx (n := 2) (As := [.int (iI (xz xs (i + 1))), .int (iI (xz xs (i + 2)))]) (rest := []) k (gw ad' cg' 20 M) [(o, .inl (cJ, 1, .inr (.inl g)))] (kX5_over hB hO hC tO (xz xs (i + 1)) (xz xs (i + 2)) (xz_r _ _) (xz_r _ _)) ⟨_, _, _, gL_law_X5_over, rfl, rfl, rfl, by decide +kernel, by decide, by decide⟩ (cb0 hB) hzO rfl rfl rfl (Nat.le_of_ble_eq_true rfl) (by show 100 + i.toNat ≤ 601024; omega) (by show 3000 + 6 * i.toNat ≤ 7293000; omega) dL_law_403 (fun z1 C1 hz1 hp1 => ?_)
  refine gw_aload_n k dL_law_406 rfl ?_
  refine gw_aload_n k dL_law_407 rfl ?_
  refine gw_iload k dL_law_408 rfl ?_
  refine gw_iconst k dL_law_410 ?_
  refine gw_iadd k dL_law_411 ?_
  refine gw_sld k hX (by omega) (by omega) (by omega) dL_law_412 ?_
  refine gw_aload_n k dL_law_413 rfl ?_
  refine gw_iload k dL_law_414 rfl ?_
  refine gw_iconst k dL_law_416 ?_
  refine gw_iadd k dL_law_417 ?_
  refine gw_sld k hX (by omega) (by omega) (by omega) dL_law_418 ?_
  refine gw_calli (n := 2) (As := [.int (iI (xz xs (i + 1))), .int (iI (xz xs (i + 2)))]) (rest := [.int (iI z1)]) k [] (gw ad cg 68 C1 ++ [(o, .inl (cJ, 1, .inr (.inl g)))]) (kX6_over hB' hO hM (xz xs (i + 1)) (xz xs (i + 2)) (xz_r _ _) (xz_r _ _)) ⟨_, _, _, gL_law_X6_over, rfl, rfl, rfl, by decide +kernel, by decide, by decide⟩ (mb0 hB') lwA rfl rfl (Nat.le_of_ble_eq_true rfl) (by show 100 + i.toNat ≤ 601024; omega) (by show 3000 + 6 * i.toNat ≤ 7293000; omega) dL_law_419 (fun z2 M1 hz2 hp2 => ?_)
  refine gw_ws lwA.symm ?_
  exact gw_icmp_eq k 871 dL_law_422 (by decide) hz1 hz2 (fun _ => nx _ _ _ _ _ _ (by omega) (by omega) (hO.ovrU (xz xs (i + 1)) (xz xs (i + 2))) hp1.1 hp2.1) (fun hne => absurd (hp1.2.trans hp2.2.symm) hne)

set_option maxRecDepth 100000 in
set_option maxHeartbeats 4000000 in
theorem lc_gross {K : gK} {D : va_G} {l : Launch} {cI cJ cZ cQ : ClassId} {T : Int} {S : sS} {C M : gSt} {g : Nat → Int64} {ad : Nat → Nat} {cg : gCg} {ad' : Nat → Nat} {cg' : gCg} {o b L : Nat} {xs : Nat → Int32} {i : Int} (k : wOk K D vwD (wT cI cJ cZ cQ) l room_1 8 cL_law RL wsL_law) (hX : wX K (wS b L xs)) (hB : clsB (D, vwD, wT cI cJ cZ cQ, ad, cg, 68) T) (hB' : mdlB (D, vwD, wT cI cJ cZ cQ, ad', cg', 20) T) (hO : sOk S T) (hC : cRel S T C) (hM : mRel S T M) (hL : L ≤ 2049) (h1 : 1 ≤ i) (h2 : i + 4 ≤ (L : Int)) (nx : lNx K D cJ ad cg ad' cg' o b T i) : GW K D vwD (100 + i.toNat) (3000 + 6 * i.toNat) (lW cJ ad cg ad' cg' o C M g) 427 (lV b ad ad' o i) [] := by
  refine gw_aload_n k dL_law_427 rfl ?_
  refine gw_aload_n k dL_law_428 rfl ?_
  refine gw_iload k dL_law_429 rfl ?_
  refine gw_iconst k dL_law_431 ?_
  refine gw_iadd k dL_law_432 ?_
  refine gw_sld k hX (by omega) (by omega) (by omega) dL_law_433 ?_
  refine gw_aload_n k dL_law_434 rfl ?_
  refine gw_iload k dL_law_435 rfl ?_
  refine gw_iconst k dL_law_437 ?_
  refine gw_iadd k dL_law_438 ?_
  refine gw_sld k hX (by omega) (by omega) (by omega) dL_law_439 ?_
  refine gw_calli (n := 2) (As := [.int (iI (xz xs (i + 1))), .int (iI (xz xs (i + 2)))]) (rest := []) k (gw ad' cg' 20 M) [(o, .inl (cJ, 1, .inr (.inl g)))] (kX5_gross hB hO hC (xz xs (i + 1)) (xz xs (i + 2)) (xz_r _ _) (xz_r _ _)) ⟨_, _, _, gL_law_X5_gross, rfl, rfl, rfl, by decide +kernel, by decide, by decide⟩ (cb0 hB) rfl rfl rfl (Nat.le_of_ble_eq_true rfl) (by show 100 + i.toNat ≤ 601024; omega) (by show 3000 + 6 * i.toNat ≤ 7293000; omega) dL_law_440 (fun z1 C1 hz1 hp1 => ?_)
  refine gw_aload_n k dL_law_443 rfl ?_
  refine gw_aload_n k dL_law_444 rfl ?_
  refine gw_iload k dL_law_445 rfl ?_
  refine gw_iconst k dL_law_447 ?_
  refine gw_iadd k dL_law_448 ?_
  refine gw_sld k hX (by omega) (by omega) (by omega) dL_law_449 ?_
  refine gw_aload_n k dL_law_450 rfl ?_
  refine gw_iload k dL_law_451 rfl ?_
  refine gw_iconst k dL_law_453 ?_
  refine gw_iadd k dL_law_454 ?_
  refine gw_sld k hX (by omega) (by omega) (by omega) dL_law_455 ?_
  refine gw_calli (n := 2) (As := [.int (iI (xz xs (i + 1))), .int (iI (xz xs (i + 2)))]) (rest := [.int (iI z1)]) k [] (gw ad cg 68 C1 ++ [(o, .inl (cJ, 1, .inr (.inl g)))]) (kX6_gross hB' hO hM (xz xs (i + 1)) (xz xs (i + 2)) (xz_r _ _) (xz_r _ _)) ⟨_, _, _, gL_law_X6_gross, rfl, rfl, rfl, by decide +kernel, by decide, by decide⟩ (mb0 hB') lwA rfl rfl (Nat.le_of_ble_eq_true rfl) (by show 100 + i.toNat ≤ 601024; omega) (by show 3000 + 6 * i.toNat ≤ 7293000; omega) dL_law_456 (fun z2 M1 hz2 hp2 => ?_)
  refine gw_ws lwA.symm ?_
  exact gw_icmp_eq k 871 dL_law_459 (by decide) hz1 hz2 (fun _ => nx _ _ _ _ _ _ (by omega) (by omega) hO hp1.1 hp2.1) (fun hne => absurd (hp1.2.trans hp2.2.symm) hne)

set_option maxRecDepth 100000 in
set_option maxHeartbeats 4000000 in
theorem lc_stock {K : gK} {D : va_G} {l : Launch} {cI cJ cZ cQ : ClassId} {T : Int} {S : sS} {C M : gSt} {g : Nat → Int64} {ad : Nat → Nat} {cg : gCg} {ad' : Nat → Nat} {cg' : gCg} {o b L : Nat} {xs : Nat → Int32} {i : Int} (k : wOk K D vwD (wT cI cJ cZ cQ) l room_1 8 cL_law RL wsL_law) (hX : wX K (wS b L xs)) (hB : clsB (D, vwD, wT cI cJ cZ cQ, ad, cg, 68) T) (hB' : mdlB (D, vwD, wT cI cJ cZ cQ, ad', cg', 20) T) (hO : sOk S T) (hC : cRel S T C) (hM : mRel S T M) (hL : L ≤ 2049) (h1 : 1 ≤ i) (h2 : i + 4 ≤ (L : Int)) (nx : lNx K D cJ ad cg ad' cg' o b T i) : GW K D vwD (100 + i.toNat) (3000 + 6 * i.toNat) (lW cJ ad cg ad' cg' o C M g) 464 (lV b ad ad' o i) [] := by
  refine gw_aload_n k dL_law_464 rfl ?_
  refine gw_aload_n k dL_law_465 rfl ?_
  refine gw_iload k dL_law_466 rfl ?_
  refine gw_iconst k dL_law_468 ?_
  refine gw_iadd k dL_law_469 ?_
  refine gw_sld k hX (by omega) (by omega) (by omega) dL_law_470 ?_
  refine gw_aload_n k dL_law_471 rfl ?_
  refine gw_iload k dL_law_472 rfl ?_
  refine gw_iconst k dL_law_474 ?_
  refine gw_iadd k dL_law_475 ?_
  refine gw_sld k hX (by omega) (by omega) (by omega) dL_law_476 ?_
  refine gw_calll (n := 2) (As := [.int (iI (xz xs (i + 1))), .int (iI (xz xs (i + 2)))]) (rest := []) k (gw ad' cg' 20 M) [(o, .inl (cJ, 1, .inr (.inl g)))] (kX5_stock hB hO hC (xz xs (i + 1)) (xz xs (i + 2)) (xz_r _ _) (xz_r _ _)) ⟨_, _, _, gL_law_X5_stock, rfl, rfl, rfl, by decide +kernel, by decide, by decide⟩ (cb0 hB) rfl rfl rfl (Nat.le_of_ble_eq_true rfl) (by show 100 + i.toNat ≤ 601024; omega) (by show 3000 + 6 * i.toNat ≤ 7293000; omega) dL_law_477 (fun z1 C1 hz1 hp1 => ?_)
  refine gw_aload_n k dL_law_480 rfl ?_
  refine gw_aload_n k dL_law_481 rfl ?_
  refine gw_iload k dL_law_482 rfl ?_
  refine gw_iconst k dL_law_484 ?_
  refine gw_iadd k dL_law_485 ?_
  refine gw_sld k hX (by omega) (by omega) (by omega) dL_law_486 ?_
  refine gw_aload_n k dL_law_487 rfl ?_
  refine gw_iload k dL_law_488 rfl ?_
  refine gw_iconst k dL_law_490 ?_
  refine gw_iadd k dL_law_491 ?_
  refine gw_sld k hX (by omega) (by omega) (by omega) dL_law_492 ?_
  refine gw_calll (n := 2) (As := [.int (iI (xz xs (i + 1))), .int (iI (xz xs (i + 2)))]) (rest := [.long (iL z1)]) k [] (gw ad cg 68 C1 ++ [(o, .inl (cJ, 1, .inr (.inl g)))]) (kX6_stock hB' hO hM (xz xs (i + 1)) (xz xs (i + 2)) (xz_r _ _) (xz_r _ _)) ⟨_, _, _, gL_law_X6_stock, rfl, rfl, rfl, by decide +kernel, by decide, by decide⟩ (mb0 hB') lwA rfl rfl (Nat.le_of_ble_eq_true rfl) (by show 100 + i.toNat ≤ 601024; omega) (by show 3000 + 6 * i.toNat ≤ 7293000; omega) dL_law_493 (fun z2 M1 hz2 hp2 => ?_)
  refine gw_ws lwA.symm ?_
  exact gw_lcmp_eq k 871 dL_law_496 dL_law_497 (by decide) hz1 hz2 (fun _ => nx _ _ _ _ _ _ (by omega) (by omega) hO hp1.1 hp2.1) (fun hne => absurd (hp1.2.trans hp2.2.symm) hne)

set_option maxRecDepth 100000 in
set_option maxHeartbeats 4000000 in
theorem lc_spoilt {K : gK} {D : va_G} {l : Launch} {cI cJ cZ cQ : ClassId} {T : Int} {S : sS} {C M : gSt} {g : Nat → Int64} {ad : Nat → Nat} {cg : gCg} {ad' : Nat → Nat} {cg' : gCg} {o b L : Nat} {xs : Nat → Int32} {i : Int} (k : wOk K D vwD (wT cI cJ cZ cQ) l room_1 8 cL_law RL wsL_law) (hX : wX K (wS b L xs)) (hB : clsB (D, vwD, wT cI cJ cZ cQ, ad, cg, 68) T) (hB' : mdlB (D, vwD, wT cI cJ cZ cQ, ad', cg', 20) T) (hO : sOk S T) (hC : cRel S T C) (hM : mRel S T M) (hL : L ≤ 2049) (h1 : 1 ≤ i) (h2 : i + 4 ≤ (L : Int)) (nx : lNx K D cJ ad cg ad' cg' o b T i) : GW K D vwD (100 + i.toNat) (3000 + 6 * i.toNat) (lW cJ ad cg ad' cg' o C M g) 502 (lV b ad ad' o i) [] := by
  refine gw_aload_n k dL_law_502 rfl ?_
  refine gw_aload_n k dL_law_503 rfl ?_
  refine gw_iload k dL_law_504 rfl ?_
  refine gw_iconst k dL_law_506 ?_
  refine gw_iadd k dL_law_507 ?_
  refine gw_sld k hX (by omega) (by omega) (by omega) dL_law_508 ?_
  refine gw_aload_n k dL_law_509 rfl ?_
  refine gw_iload k dL_law_510 rfl ?_
  refine gw_iconst k dL_law_512 ?_
  refine gw_iadd k dL_law_513 ?_
  refine gw_sld k hX (by omega) (by omega) (by omega) dL_law_514 ?_
  refine gw_calli (n := 2) (As := [.int (iI (xz xs (i + 1))), .int (iI (xz xs (i + 2)))]) (rest := []) k (gw ad' cg' 20 M) [(o, .inl (cJ, 1, .inr (.inl g)))] (kX5_spoilt hB hO hC (xz xs (i + 1)) (xz xs (i + 2)) (xz_r _ _) (xz_r _ _)) ⟨_, _, _, gL_law_X5_spoilt, rfl, rfl, rfl, by decide +kernel, by decide, by decide⟩ (cb0 hB) rfl rfl rfl (Nat.le_of_ble_eq_true rfl) (by show 100 + i.toNat ≤ 601024; omega) (by show 3000 + 6 * i.toNat ≤ 7293000; omega) dL_law_515 (fun z1 C1 hz1 hp1 => ?_)
  refine gw_aload_n k dL_law_518 rfl ?_
  refine gw_aload_n k dL_law_519 rfl ?_
  refine gw_iload k dL_law_520 rfl ?_
  refine gw_iconst k dL_law_522 ?_
  refine gw_iadd k dL_law_523 ?_
  refine gw_sld k hX (by omega) (by omega) (by omega) dL_law_524 ?_
  refine gw_aload_n k dL_law_525 rfl ?_
  refine gw_iload k dL_law_526 rfl ?_
  refine gw_iconst k dL_law_528 ?_
  refine gw_iadd k dL_law_529 ?_
  refine gw_sld k hX (by omega) (by omega) (by omega) dL_law_530 ?_
  refine gw_calli (n := 2) (As := [.int (iI (xz xs (i + 1))), .int (iI (xz xs (i + 2)))]) (rest := [.int (iI z1)]) k [] (gw ad cg 68 C1 ++ [(o, .inl (cJ, 1, .inr (.inl g)))]) (kX6_spoilt hB' hO hM (xz xs (i + 1)) (xz xs (i + 2)) (xz_r _ _) (xz_r _ _)) ⟨_, _, _, gL_law_X6_spoilt, rfl, rfl, rfl, by decide +kernel, by decide, by decide⟩ (mb0 hB') lwA rfl rfl (Nat.le_of_ble_eq_true rfl) (by show 100 + i.toNat ≤ 601024; omega) (by show 3000 + 6 * i.toNat ≤ 7293000; omega) dL_law_531 (fun z2 M1 hz2 hp2 => ?_)
  refine gw_ws lwA.symm ?_
  exact gw_icmp_eq k 871 dL_law_534 (by decide) hz1 hz2 (fun _ => nx _ _ _ _ _ _ (by omega) (by omega) hO hp1.1 hp2.1) (fun hne => absurd (hp1.2.trans hp2.2.symm) hne)

set_option maxRecDepth 100000 in
set_option maxHeartbeats 4000000 in
theorem lc_isSetUp {K : gK} {D : va_G} {l : Launch} {cI cJ cZ cQ : ClassId} {T : Int} {S : sS} {C M : gSt} {g : Nat → Int64} {ad : Nat → Nat} {cg : gCg} {ad' : Nat → Nat} {cg' : gCg} {o b L : Nat} {xs : Nat → Int32} {i : Int} (k : wOk K D vwD (wT cI cJ cZ cQ) l room_1 8 cL_law RL wsL_law) (hX : wX K (wS b L xs)) (hB : clsB (D, vwD, wT cI cJ cZ cQ, ad, cg, 68) T) (hB' : mdlB (D, vwD, wT cI cJ cZ cQ, ad', cg', 20) T) (hO : sOk S T) (hC : cRel S T C) (hM : mRel S T M) (hL : L ≤ 2049) (h1 : 1 ≤ i) (h2 : i + 4 ≤ (L : Int)) (nx : lNx K D cJ ad cg ad' cg' o b T i) : GW K D vwD (100 + i.toNat) (3000 + 6 * i.toNat) (lW cJ ad cg ad' cg' o C M g) 539 (lV b ad ad' o i) [] := by
  refine gw_aload_n k dL_law_539 rfl ?_
  refine gw_aload_n k dL_law_540 rfl ?_
  refine gw_iload k dL_law_541 rfl ?_
  refine gw_iconst k dL_law_543 ?_
  refine gw_iadd k dL_law_544 ?_
  refine gw_sld k hX (by omega) (by omega) (by omega) dL_law_545 ?_
  refine gw_aload_n k dL_law_546 rfl ?_
  refine gw_iload k dL_law_547 rfl ?_
  refine gw_iconst k dL_law_549 ?_
  refine gw_iadd k dL_law_550 ?_
  refine gw_sld k hX (by omega) (by omega) (by omega) dL_law_551 ?_
  refine gw_calli (n := 2) (As := [.int (iI (xz xs (i + 1))), .int (iI (xz xs (i + 2)))]) (rest := []) k (gw ad' cg' 20 M) [(o, .inl (cJ, 1, .inr (.inl g)))] (kX5_isSetUp hB hO hC (xz xs (i + 1)) (xz xs (i + 2)) (xz_r _ _) (xz_r _ _)) ⟨_, _, _, gL_law_X5_isSetUp, rfl, rfl, rfl, by decide +kernel, by decide, by decide⟩ (cb0 hB) rfl rfl rfl (Nat.le_of_ble_eq_true rfl) (by show 100 + i.toNat ≤ 601024; omega) (by show 3000 + 6 * i.toNat ≤ 7293000; omega) dL_law_552 (fun z1 C1 hz1 hp1 => ?_)
  refine gw_aload_n k dL_law_555 rfl ?_
  refine gw_aload_n k dL_law_556 rfl ?_
  refine gw_iload k dL_law_557 rfl ?_
  refine gw_iconst k dL_law_559 ?_
  refine gw_iadd k dL_law_560 ?_
  refine gw_sld k hX (by omega) (by omega) (by omega) dL_law_561 ?_
  refine gw_aload_n k dL_law_562 rfl ?_
  refine gw_iload k dL_law_563 rfl ?_
  refine gw_iconst k dL_law_565 ?_
  refine gw_iadd k dL_law_566 ?_
  refine gw_sld k hX (by omega) (by omega) (by omega) dL_law_567 ?_
  refine gw_calli (n := 2) (As := [.int (iI (xz xs (i + 1))), .int (iI (xz xs (i + 2)))]) (rest := [.int (iI z1)]) k [] (gw ad cg 68 C1 ++ [(o, .inl (cJ, 1, .inr (.inl g)))]) (kX6_isSetUp hB' hO hM (xz xs (i + 1)) (xz xs (i + 2)) (xz_r _ _) (xz_r _ _)) ⟨_, _, _, gL_law_X6_isSetUp, rfl, rfl, rfl, by decide +kernel, by decide, by decide⟩ (mb0 hB') lwA rfl rfl (Nat.le_of_ble_eq_true rfl) (by show 100 + i.toNat ≤ 601024; omega) (by show 3000 + 6 * i.toNat ≤ 7293000; omega) dL_law_568 (fun z2 M1 hz2 hp2 => ?_)
  refine gw_ws lwA.symm ?_
  exact gw_icmp_eq k 871 dL_law_571 (by decide) hz1 hz2 (fun _ => nx _ _ _ _ _ _ (by omega) (by omega) hO hp1.1 hp2.1) (fun hne => absurd (hp1.2.trans hp2.2.symm) hne)

set_option maxRecDepth 100000 in
set_option maxHeartbeats 4000000 in
theorem lc_stands {K : gK} {D : va_G} {l : Launch} {cI cJ cZ cQ : ClassId} {T : Int} {S : sS} {C M : gSt} {g : Nat → Int64} {ad : Nat → Nat} {cg : gCg} {ad' : Nat → Nat} {cg' : gCg} {o b L : Nat} {xs : Nat → Int32} {i : Int} (k : wOk K D vwD (wT cI cJ cZ cQ) l room_1 8 cL_law RL wsL_law) (hX : wX K (wS b L xs)) (hB : clsB (D, vwD, wT cI cJ cZ cQ, ad, cg, 68) T) (hB' : mdlB (D, vwD, wT cI cJ cZ cQ, ad', cg', 20) T) (hO : sOk S T) (hC : cRel S T C) (hM : mRel S T M) (hL : L ≤ 2049) (h1 : 1 ≤ i) (h2 : i + 4 ≤ (L : Int)) (nx : lNx K D cJ ad cg ad' cg' o b T i) : GW K D vwD (100 + i.toNat) (3000 + 6 * i.toNat) (lW cJ ad cg ad' cg' o C M g) 576 (lV b ad ad' o i) [] := by
  refine gw_aload_n k dL_law_576 rfl ?_
  refine gw_aload_n k dL_law_577 rfl ?_
  refine gw_iload k dL_law_578 rfl ?_
  refine gw_iconst k dL_law_580 ?_
  refine gw_iadd k dL_law_581 ?_
  refine gw_sld k hX (by omega) (by omega) (by omega) dL_law_582 ?_
  refine gw_calli (n := 1) (As := [.int (iI (xz xs (i + 1)))]) (rest := []) k (gw ad' cg' 20 M) [(o, .inl (cJ, 1, .inr (.inl g)))] (kX5_stands hB hO hC (xz xs (i + 1)) (xz_r _ _)) ⟨_, _, _, gL_law_X5_stands, rfl, rfl, rfl, by decide +kernel, by decide, by decide⟩ (cb0 hB) rfl rfl rfl (Nat.le_of_ble_eq_true rfl) (by show 100 + i.toNat ≤ 601024; omega) (by show 3000 + 6 * i.toNat ≤ 7293000; omega) dL_law_583 (fun z1 C1 hz1 hp1 => ?_)
  refine gw_aload_n k dL_law_586 rfl ?_
  refine gw_aload_n k dL_law_587 rfl ?_
  refine gw_iload k dL_law_588 rfl ?_
  refine gw_iconst k dL_law_590 ?_
  refine gw_iadd k dL_law_591 ?_
  refine gw_sld k hX (by omega) (by omega) (by omega) dL_law_592 ?_
  refine gw_calli (n := 1) (As := [.int (iI (xz xs (i + 1)))]) (rest := [.int (iI z1)]) k [] (gw ad cg 68 C1 ++ [(o, .inl (cJ, 1, .inr (.inl g)))]) (kX6_stands hB' hO hM (xz xs (i + 1)) (xz_r _ _)) ⟨_, _, _, gL_law_X6_stands, rfl, rfl, rfl, by decide +kernel, by decide, by decide⟩ (mb0 hB') lwA rfl rfl (Nat.le_of_ble_eq_true rfl) (by show 100 + i.toNat ≤ 601024; omega) (by show 3000 + 6 * i.toNat ≤ 7293000; omega) dL_law_593 (fun z2 M1 hz2 hp2 => ?_)
  refine gw_ws lwA.symm ?_
  exact gw_icmp_eq k 871 dL_law_596 (by decide) hz1 hz2 (fun _ => nx _ _ _ _ _ _ (by omega) (by omega) hO hp1.1 hp2.1) (fun hne => absurd (hp1.2.trans hp2.2.symm) hne)

set_option maxRecDepth 100000 in
set_option maxHeartbeats 4000000 in
theorem lc_time {K : gK} {D : va_G} {l : Launch} {cI cJ cZ cQ : ClassId} {T : Int} {S : sS} {C M : gSt} {g : Nat → Int64} {ad : Nat → Nat} {cg : gCg} {ad' : Nat → Nat} {cg' : gCg} {o b L : Nat} {xs : Nat → Int32} {i : Int} (k : wOk K D vwD (wT cI cJ cZ cQ) l room_1 8 cL_law RL wsL_law) (hX : wX K (wS b L xs)) (hB : clsB (D, vwD, wT cI cJ cZ cQ, ad, cg, 68) T) (hB' : mdlB (D, vwD, wT cI cJ cZ cQ, ad', cg', 20) T) (hO : sOk S T) (hC : cRel S T C) (hM : mRel S T M) (hL : L ≤ 2049) (h1 : 1 ≤ i) (h2 : i + 4 ≤ (L : Int)) (nx : lNx K D cJ ad cg ad' cg' o b T i) : GW K D vwD (100 + i.toNat) (3000 + 6 * i.toNat) (lW cJ ad cg ad' cg' o C M g) 601 (lV b ad ad' o i) [] := by
  refine gw_aload_n k dL_law_601 rfl ?_
  refine gw_aload_n k dL_law_602 rfl ?_
  refine gw_iload k dL_law_603 rfl ?_
  refine gw_iconst k dL_law_605 ?_
  refine gw_iadd k dL_law_606 ?_
  refine gw_sld k hX (by omega) (by omega) (by omega) dL_law_607 ?_
  refine gw_calll (n := 1) (As := [.int (iI (xz xs (i + 1)))]) (rest := []) k (gw ad' cg' 20 M) [(o, .inl (cJ, 1, .inr (.inl g)))] (kX5_time hB hO hC (xz xs (i + 1)) (xz_r _ _)) ⟨_, _, _, gL_law_X5_time, rfl, rfl, rfl, by decide +kernel, by decide, by decide⟩ (cb0 hB) rfl rfl rfl (Nat.le_of_ble_eq_true rfl) (by show 100 + i.toNat ≤ 601024; omega) (by show 3000 + 6 * i.toNat ≤ 7293000; omega) dL_law_608 (fun z1 C1 hz1 hp1 => ?_)
  refine gw_aload_n k dL_law_611 rfl ?_
  refine gw_aload_n k dL_law_612 rfl ?_
  refine gw_iload k dL_law_613 rfl ?_
  refine gw_iconst k dL_law_615 ?_
  refine gw_iadd k dL_law_616 ?_
  refine gw_sld k hX (by omega) (by omega) (by omega) dL_law_617 ?_
  refine gw_calll (n := 1) (As := [.int (iI (xz xs (i + 1)))]) (rest := [.long (iL z1)]) k [] (gw ad cg 68 C1 ++ [(o, .inl (cJ, 1, .inr (.inl g)))]) (kX6_time hB' hO hM (xz xs (i + 1)) (xz_r _ _)) ⟨_, _, _, gL_law_X6_time, rfl, rfl, rfl, by decide +kernel, by decide, by decide⟩ (mb0 hB') lwA rfl rfl (Nat.le_of_ble_eq_true rfl) (by show 100 + i.toNat ≤ 601024; omega) (by show 3000 + 6 * i.toNat ≤ 7293000; omega) dL_law_618 (fun z2 M1 hz2 hp2 => ?_)
  refine gw_ws lwA.symm ?_
  exact gw_lcmp_eq k 871 dL_law_621 dL_law_622 (by decide) hz1 hz2 (fun _ => nx _ _ _ _ _ _ (by omega) (by omega) hO hp1.1 hp2.1) (fun hne => absurd (hp1.2.trans hp2.2.symm) hne)

set_option maxRecDepth 100000 in
set_option maxHeartbeats 4000000 in
theorem lc_price {K : gK} {D : va_G} {l : Launch} {cI cJ cZ cQ : ClassId} {T : Int} {S : sS} {C M : gSt} {g : Nat → Int64} {ad : Nat → Nat} {cg : gCg} {ad' : Nat → Nat} {cg' : gCg} {o b L : Nat} {xs : Nat → Int32} {i : Int} (k : wOk K D vwD (wT cI cJ cZ cQ) l room_1 8 cL_law RL wsL_law) (hX : wX K (wS b L xs)) (hB : clsB (D, vwD, wT cI cJ cZ cQ, ad, cg, 68) T) (hB' : mdlB (D, vwD, wT cI cJ cZ cQ, ad', cg', 20) T) (hO : sOk S T) (hC : cRel S T C) (hM : mRel S T M) (hL : L ≤ 2049) (h1 : 1 ≤ i) (h2 : i + 4 ≤ (L : Int)) (nx : lNx K D cJ ad cg ad' cg' o b T i) : GW K D vwD (100 + i.toNat) (3000 + 6 * i.toNat) (lW cJ ad cg ad' cg' o C M g) 627 (lV b ad ad' o i) [] := by
  refine gw_aload_n k dL_law_627 rfl ?_
  refine gw_aload_n k dL_law_628 rfl ?_
  refine gw_iload k dL_law_629 rfl ?_
  refine gw_iconst k dL_law_631 ?_
  refine gw_iadd k dL_law_632 ?_
  refine gw_sld k hX (by omega) (by omega) (by omega) dL_law_633 ?_
  refine gw_calll (n := 1) (As := [.int (iI (xz xs (i + 1)))]) (rest := []) k (gw ad' cg' 20 M) [(o, .inl (cJ, 1, .inr (.inl g)))] (kX5_price hB hO hC (xz xs (i + 1)) (xz_r _ _)) ⟨_, _, _, gL_law_X5_price, rfl, rfl, rfl, by decide +kernel, by decide, by decide⟩ (cb0 hB) rfl rfl rfl (Nat.le_of_ble_eq_true rfl) (by show 100 + i.toNat ≤ 601024; omega) (by show 3000 + 6 * i.toNat ≤ 7293000; omega) dL_law_634 (fun z1 C1 hz1 hp1 => ?_)
  refine gw_aload_n k dL_law_637 rfl ?_
  refine gw_aload_n k dL_law_638 rfl ?_
  refine gw_iload k dL_law_639 rfl ?_
  refine gw_iconst k dL_law_641 ?_
  refine gw_iadd k dL_law_642 ?_
  refine gw_sld k hX (by omega) (by omega) (by omega) dL_law_643 ?_
  refine gw_calll (n := 1) (As := [.int (iI (xz xs (i + 1)))]) (rest := [.long (iL z1)]) k [] (gw ad cg 68 C1 ++ [(o, .inl (cJ, 1, .inr (.inl g)))]) (kX6_price hB' hO hM (xz xs (i + 1)) (xz_r _ _)) ⟨_, _, _, gL_law_X6_price, rfl, rfl, rfl, by decide +kernel, by decide, by decide⟩ (mb0 hB') lwA rfl rfl (Nat.le_of_ble_eq_true rfl) (by show 100 + i.toNat ≤ 601024; omega) (by show 3000 + 6 * i.toNat ≤ 7293000; omega) dL_law_644 (fun z2 M1 hz2 hp2 => ?_)
  refine gw_ws lwA.symm ?_
  exact gw_lcmp_eq k 871 dL_law_647 dL_law_648 (by decide) hz1 hz2 (fun _ => nx _ _ _ _ _ _ (by omega) (by omega) hO hp1.1 hp2.1) (fun hne => absurd (hp1.2.trans hp2.2.symm) hne)

set_option maxRecDepth 100000 in
set_option maxHeartbeats 4000000 in
theorem lc_faults {K : gK} {D : va_G} {l : Launch} {cI cJ cZ cQ : ClassId} {T : Int} {S : sS} {C M : gSt} {g : Nat → Int64} {ad : Nat → Nat} {cg : gCg} {ad' : Nat → Nat} {cg' : gCg} {o b L : Nat} {xs : Nat → Int32} {i : Int} (k : wOk K D vwD (wT cI cJ cZ cQ) l room_1 8 cL_law RL wsL_law) (hX : wX K (wS b L xs)) (hB : clsB (D, vwD, wT cI cJ cZ cQ, ad, cg, 68) T) (hB' : mdlB (D, vwD, wT cI cJ cZ cQ, ad', cg', 20) T) (hO : sOk S T) (hC : cRel S T C) (hM : mRel S T M) (hL : L ≤ 2049) (h1 : 1 ≤ i) (h2 : i + 4 ≤ (L : Int)) (nx : lNx K D cJ ad cg ad' cg' o b T i) : GW K D vwD (100 + i.toNat) (3000 + 6 * i.toNat) (lW cJ ad cg ad' cg' o C M g) 653 (lV b ad ad' o i) [] := by
  refine gw_aload_n k dL_law_653 rfl ?_
  refine gw_calli (n := 0) (As := []) (rest := []) k (gw ad' cg' 20 M) [(o, .inl (cJ, 1, .inr (.inl g)))] (kX5_faults hB hO hC  ) ⟨_, _, _, gL_law_X5_faults, rfl, rfl, rfl, by decide +kernel, by decide, by decide⟩ (cb0 hB) rfl rfl rfl (Nat.le_of_ble_eq_true rfl) (by show 100 + i.toNat ≤ 601024; omega) (by show 3000 + 6 * i.toNat ≤ 7293000; omega) dL_law_654 (fun z1 C1 hz1 hp1 => ?_)
  refine gw_aload_n k dL_law_657 rfl ?_
  refine gw_calli (n := 0) (As := []) (rest := [.int (iI z1)]) k [] (gw ad cg 68 C1 ++ [(o, .inl (cJ, 1, .inr (.inl g)))]) (kX6_faults hB' hO hM  ) ⟨_, _, _, gL_law_X6_faults, rfl, rfl, rfl, by decide +kernel, by decide, by decide⟩ (mb0 hB') lwA rfl rfl (Nat.le_of_ble_eq_true rfl) (by show 100 + i.toNat ≤ 601024; omega) (by show 3000 + 6 * i.toNat ≤ 7293000; omega) dL_law_658 (fun z2 M1 hz2 hp2 => ?_)
  refine gw_ws lwA.symm ?_
  exact gw_icmp_eq k 871 dL_law_661 (by decide) hz1 hz2 (fun _ => nx _ _ _ _ _ _ (by omega) (by omega) hO hp1.1 hp2.1) (fun hne => absurd (hp1.2.trans hp2.2.symm) hne)

set_option maxRecDepth 100000 in
set_option maxHeartbeats 4000000 in
theorem lc_fault {K : gK} {D : va_G} {l : Launch} {cI cJ cZ cQ : ClassId} {T : Int} {S : sS} {C M : gSt} {g : Nat → Int64} {ad : Nat → Nat} {cg : gCg} {ad' : Nat → Nat} {cg' : gCg} {o b L : Nat} {xs : Nat → Int32} {i : Int} (k : wOk K D vwD (wT cI cJ cZ cQ) l room_1 8 cL_law RL wsL_law) (hX : wX K (wS b L xs)) (hB : clsB (D, vwD, wT cI cJ cZ cQ, ad, cg, 68) T) (hB' : mdlB (D, vwD, wT cI cJ cZ cQ, ad', cg', 20) T) (hO : sOk S T) (hC : cRel S T C) (hM : mRel S T M) (hL : L ≤ 2049) (h1 : 1 ≤ i) (h2 : i + 4 ≤ (L : Int)) (nx : lNx K D cJ ad cg ad' cg' o b T i) : GW K D vwD (100 + i.toNat) (3000 + 6 * i.toNat) (lW cJ ad cg ad' cg' o C M g) 666 (lV b ad ad' o i) [] := by
  refine gw_aload_n k dL_law_666 rfl ?_
  refine gw_aload_n k dL_law_667 rfl ?_
  refine gw_iload k dL_law_668 rfl ?_
  refine gw_iconst k dL_law_670 ?_
  refine gw_iadd k dL_law_671 ?_
  refine gw_sld k hX (by omega) (by omega) (by omega) dL_law_672 ?_
  refine gw_aload_n k dL_law_673 rfl ?_
  refine gw_iload k dL_law_674 rfl ?_
  refine gw_iconst k dL_law_676 ?_
  refine gw_iadd k dL_law_677 ?_
  refine gw_sld k hX (by omega) (by omega) (by omega) dL_law_678 ?_
  refine gw_calli (n := 2) (As := [.int (iI (xz xs (i + 1))), .int (iI (xz xs (i + 2)))]) (rest := []) k (gw ad' cg' 20 M) [(o, .inl (cJ, 1, .inr (.inl g)))] (kX5_fault hB hO hC (xz xs (i + 1)) (xz xs (i + 2)) (xz_r _ _) (xz_r _ _)) ⟨_, _, _, gL_law_X5_fault, rfl, rfl, rfl, by decide +kernel, by decide, by decide⟩ (cb0 hB) rfl rfl rfl (Nat.le_of_ble_eq_true rfl) (by show 100 + i.toNat ≤ 601024; omega) (by show 3000 + 6 * i.toNat ≤ 7293000; omega) dL_law_679 (fun z1 C1 hz1 hp1 => ?_)
  refine gw_aload_n k dL_law_682 rfl ?_
  refine gw_aload_n k dL_law_683 rfl ?_
  refine gw_iload k dL_law_684 rfl ?_
  refine gw_iconst k dL_law_686 ?_
  refine gw_iadd k dL_law_687 ?_
  refine gw_sld k hX (by omega) (by omega) (by omega) dL_law_688 ?_
  refine gw_aload_n k dL_law_689 rfl ?_
  refine gw_iload k dL_law_690 rfl ?_
  refine gw_iconst k dL_law_692 ?_
  refine gw_iadd k dL_law_693 ?_
  refine gw_sld k hX (by omega) (by omega) (by omega) dL_law_694 ?_
  refine gw_calli (n := 2) (As := [.int (iI (xz xs (i + 1))), .int (iI (xz xs (i + 2)))]) (rest := [.int (iI z1)]) k [] (gw ad cg 68 C1 ++ [(o, .inl (cJ, 1, .inr (.inl g)))]) (kX6_fault hB' hO hM (xz xs (i + 1)) (xz xs (i + 2)) (xz_r _ _) (xz_r _ _)) ⟨_, _, _, gL_law_X6_fault, rfl, rfl, rfl, by decide +kernel, by decide, by decide⟩ (mb0 hB') lwA rfl rfl (Nat.le_of_ble_eq_true rfl) (by show 100 + i.toNat ≤ 601024; omega) (by show 3000 + 6 * i.toNat ≤ 7293000; omega) dL_law_695 (fun z2 M1 hz2 hp2 => ?_)
  refine gw_ws lwA.symm ?_
  exact gw_icmp_eq k 871 dL_law_698 (by decide) hz1 hz2 (fun _ => nx _ _ _ _ _ _ (by omega) (by omega) hO hp1.1 hp2.1) (fun hne => absurd (hp1.2.trans hp2.2.symm) hne)

set_option maxRecDepth 100000 in
set_option maxHeartbeats 4000000 in
theorem lc_best {K : gK} {D : va_G} {l : Launch} {cI cJ cZ cQ : ClassId} {T : Int} {S : sS} {C M : gSt} {g : Nat → Int64} {ad : Nat → Nat} {cg : gCg} {ad' : Nat → Nat} {cg' : gCg} {o b L : Nat} {xs : Nat → Int32} {i : Int} (k : wOk K D vwD (wT cI cJ cZ cQ) l room_1 8 cL_law RL wsL_law) (hX : wX K (wS b L xs)) (hB : clsB (D, vwD, wT cI cJ cZ cQ, ad, cg, 68) T) (hB' : mdlB (D, vwD, wT cI cJ cZ cQ, ad', cg', 20) T) (hO : sOk S T) (hC : cRel S T C) (hM : mRel S T M) (hL : L ≤ 2049) (h1 : 1 ≤ i) (h2 : i + 4 ≤ (L : Int)) (nx : lNx K D cJ ad cg ad' cg' o b T i) : GW K D vwD (100 + i.toNat) (3000 + 6 * i.toNat) (lW cJ ad cg ad' cg' o C M g) 703 (lV b ad ad' o i) [] := by
  refine gw_aload_n k dL_law_703 rfl ?_
  refine gw_aload_n k dL_law_704 rfl ?_
  refine gw_iload k dL_law_705 rfl ?_
  refine gw_iconst k dL_law_707 ?_
  refine gw_iadd k dL_law_708 ?_
  refine gw_sld k hX (by omega) (by omega) (by omega) dL_law_709 ?_
  refine gw_calll (n := 1) (As := [.int (iI (xz xs (i + 1)))]) (rest := []) k (gw ad' cg' 20 M) [(o, .inl (cJ, 1, .inr (.inl g)))] (kX5_best hB hO hC (xz xs (i + 1)) (xz_r _ _)) ⟨_, _, _, gL_law_X5_best, rfl, rfl, rfl, by decide +kernel, by decide, by decide⟩ (cb0 hB) rfl rfl rfl (Nat.le_of_ble_eq_true rfl) (by show 100 + i.toNat ≤ 601024; omega) (by show 3000 + 6 * i.toNat ≤ 7293000; omega) dL_law_710 (fun z1 C1 hz1 hp1 => ?_)
  refine gw_aload_n k dL_law_713 rfl ?_
  refine gw_aload_n k dL_law_714 rfl ?_
  refine gw_iload k dL_law_715 rfl ?_
  refine gw_iconst k dL_law_717 ?_
  refine gw_iadd k dL_law_718 ?_
  refine gw_sld k hX (by omega) (by omega) (by omega) dL_law_719 ?_
  refine gw_calll (n := 1) (As := [.int (iI (xz xs (i + 1)))]) (rest := [.long (iL z1)]) k [] (gw ad cg 68 C1 ++ [(o, .inl (cJ, 1, .inr (.inl g)))]) (kX6_best hB' hO hM (xz xs (i + 1)) (xz_r _ _)) ⟨_, _, _, gL_law_X6_best, rfl, rfl, rfl, by decide +kernel, by decide, by decide⟩ (mb0 hB') lwA rfl rfl (Nat.le_of_ble_eq_true rfl) (by show 100 + i.toNat ≤ 601024; omega) (by show 3000 + 6 * i.toNat ≤ 7293000; omega) dL_law_720 (fun z2 M1 hz2 hp2 => ?_)
  refine gw_ws lwA.symm ?_
  exact gw_lcmp_eq k 871 dL_law_723 dL_law_724 (by decide) hz1 hz2 (fun _ => nx _ _ _ _ _ _ (by omega) (by omega) hO hp1.1 hp2.1) (fun hne => absurd (hp1.2.trans hp2.2.symm) hne)

set_option maxRecDepth 100000 in
set_option maxHeartbeats 4000000 in
theorem lc_lot {K : gK} {D : va_G} {l : Launch} {cI cJ cZ cQ : ClassId} {T : Int} {S : sS} {C M : gSt} {g : Nat → Int64} {ad : Nat → Nat} {cg : gCg} {ad' : Nat → Nat} {cg' : gCg} {o b L : Nat} {xs : Nat → Int32} {i : Int} (k : wOk K D vwD (wT cI cJ cZ cQ) l room_1 8 cL_law RL wsL_law) (hX : wX K (wS b L xs)) (hB : clsB (D, vwD, wT cI cJ cZ cQ, ad, cg, 68) T) (hB' : mdlB (D, vwD, wT cI cJ cZ cQ, ad', cg', 20) T) (hO : sOk S T) (hC : cRel S T C) (hM : mRel S T M) (hL : L ≤ 2049) (h1 : 1 ≤ i) (h2 : i + 4 ≤ (L : Int)) (nx : lNx K D cJ ad cg ad' cg' o b T i) : GW K D vwD (100 + i.toNat) (3000 + 6 * i.toNat) (lW cJ ad cg ad' cg' o C M g) 729 (lV b ad ad' o i) [] := by
  refine gw_aload_n k dL_law_729 rfl ?_
  refine gw_aload_n k dL_law_730 rfl ?_
  refine gw_iload k dL_law_731 rfl ?_
  refine gw_iconst k dL_law_733 ?_
  refine gw_iadd k dL_law_734 ?_
  refine gw_sld k hX (by omega) (by omega) (by omega) dL_law_735 ?_
  refine gw_aload_n k dL_law_736 rfl ?_
  refine gw_iload k dL_law_737 rfl ?_
  refine gw_iconst k dL_law_739 ?_
  refine gw_iadd k dL_law_740 ?_
  refine gw_sld k hX (by omega) (by omega) (by omega) dL_law_741 ?_
  refine gw_calli (n := 2) (As := [.int (iI (xz xs (i + 1))), .int (iI (xz xs (i + 2)))]) (rest := []) k (gw ad' cg' 20 M) [(o, .inl (cJ, 1, .inr (.inl g)))] (kX5_lot hB hO hC (xz xs (i + 1)) (xz xs (i + 2)) (xz_r _ _) (xz_r _ _)) ⟨_, _, _, gL_law_X5_lot, rfl, rfl, rfl, by decide +kernel, by decide, by decide⟩ (cb0 hB) rfl rfl rfl (Nat.le_of_ble_eq_true rfl) (by show 100 + i.toNat ≤ 601024; omega) (by show 3000 + 6 * i.toNat ≤ 7293000; omega) dL_law_742 (fun z1 C1 hz1 hp1 => ?_)
  refine gw_aload_n k dL_law_745 rfl ?_
  refine gw_aload_n k dL_law_746 rfl ?_
  refine gw_iload k dL_law_747 rfl ?_
  refine gw_iconst k dL_law_749 ?_
  refine gw_iadd k dL_law_750 ?_
  refine gw_sld k hX (by omega) (by omega) (by omega) dL_law_751 ?_
  refine gw_aload_n k dL_law_752 rfl ?_
  refine gw_iload k dL_law_753 rfl ?_
  refine gw_iconst k dL_law_755 ?_
  refine gw_iadd k dL_law_756 ?_
  refine gw_sld k hX (by omega) (by omega) (by omega) dL_law_757 ?_
  refine gw_calli (n := 2) (As := [.int (iI (xz xs (i + 1))), .int (iI (xz xs (i + 2)))]) (rest := [.int (iI z1)]) k [] (gw ad cg 68 C1 ++ [(o, .inl (cJ, 1, .inr (.inl g)))]) (kX6_lot hB' hO hM (xz xs (i + 1)) (xz xs (i + 2)) (xz_r _ _) (xz_r _ _)) ⟨_, _, _, gL_law_X6_lot, rfl, rfl, rfl, by decide +kernel, by decide, by decide⟩ (mb0 hB') lwA rfl rfl (Nat.le_of_ble_eq_true rfl) (by show 100 + i.toNat ≤ 601024; omega) (by show 3000 + 6 * i.toNat ≤ 7293000; omega) dL_law_758 (fun z2 M1 hz2 hp2 => ?_)
  refine gw_ws lwA.symm ?_
  exact gw_icmp_eq k 871 dL_law_761 (by decide) hz1 hz2 (fun _ => nx _ _ _ _ _ _ (by omega) (by omega) hO hp1.1 hp2.1) (fun hne => absurd (hp1.2.trans hp2.2.symm) hne)

set_option maxRecDepth 100000 in
set_option maxHeartbeats 4000000 in
theorem lc_from {K : gK} {D : va_G} {l : Launch} {cI cJ cZ cQ : ClassId} {T : Int} {S : sS} {C M : gSt} {g : Nat → Int64} {ad : Nat → Nat} {cg : gCg} {ad' : Nat → Nat} {cg' : gCg} {o b L : Nat} {xs : Nat → Int32} {i : Int} (k : wOk K D vwD (wT cI cJ cZ cQ) l room_1 8 cL_law RL wsL_law) (hX : wX K (wS b L xs)) (hB : clsB (D, vwD, wT cI cJ cZ cQ, ad, cg, 68) T) (hB' : mdlB (D, vwD, wT cI cJ cZ cQ, ad', cg', 20) T) (hO : sOk S T) (hC : cRel S T C) (hM : mRel S T M) (hL : L ≤ 2049) (h1 : 1 ≤ i) (h2 : i + 4 ≤ (L : Int)) (nx : lNx K D cJ ad cg ad' cg' o b T i) : GW K D vwD (100 + i.toNat) (3000 + 6 * i.toNat) (lW cJ ad cg ad' cg' o C M g) 766 (lV b ad ad' o i) [] := by
  refine gw_aload_n k dL_law_766 rfl ?_
  refine gw_aload_n k dL_law_767 rfl ?_
  refine gw_iload k dL_law_768 rfl ?_
  refine gw_iconst k dL_law_770 ?_
  refine gw_iadd k dL_law_771 ?_
  refine gw_sld k hX (by omega) (by omega) (by omega) dL_law_772 ?_
  refine gw_aload_n k dL_law_773 rfl ?_
  refine gw_iload k dL_law_774 rfl ?_
  refine gw_iconst k dL_law_776 ?_
  refine gw_iadd k dL_law_777 ?_
  refine gw_sld k hX (by omega) (by omega) (by omega) dL_law_778 ?_
  refine gw_calll (n := 2) (As := [.int (iI (xz xs (i + 1))), .int (iI (xz xs (i + 2)))]) (rest := []) k (gw ad' cg' 20 M) [(o, .inl (cJ, 1, .inr (.inl g)))] (kX5_from hB hO hC (xz xs (i + 1)) (xz xs (i + 2)) (xz_r _ _) (xz_r _ _)) ⟨_, _, _, gL_law_X5_from, rfl, rfl, rfl, by decide +kernel, by decide, by decide⟩ (cb0 hB) rfl rfl rfl (Nat.le_of_ble_eq_true rfl) (by show 100 + i.toNat ≤ 601024; omega) (by show 3000 + 6 * i.toNat ≤ 7293000; omega) dL_law_779 (fun z1 C1 hz1 hp1 => ?_)
  refine gw_aload_n k dL_law_782 rfl ?_
  refine gw_aload_n k dL_law_783 rfl ?_
  refine gw_iload k dL_law_784 rfl ?_
  refine gw_iconst k dL_law_786 ?_
  refine gw_iadd k dL_law_787 ?_
  refine gw_sld k hX (by omega) (by omega) (by omega) dL_law_788 ?_
  refine gw_aload_n k dL_law_789 rfl ?_
  refine gw_iload k dL_law_790 rfl ?_
  refine gw_iconst k dL_law_792 ?_
  refine gw_iadd k dL_law_793 ?_
  refine gw_sld k hX (by omega) (by omega) (by omega) dL_law_794 ?_
  refine gw_calll (n := 2) (As := [.int (iI (xz xs (i + 1))), .int (iI (xz xs (i + 2)))]) (rest := [.long (iL z1)]) k [] (gw ad cg 68 C1 ++ [(o, .inl (cJ, 1, .inr (.inl g)))]) (kX6_from hB' hO hM (xz xs (i + 1)) (xz xs (i + 2)) (xz_r _ _) (xz_r _ _)) ⟨_, _, _, gL_law_X6_from, rfl, rfl, rfl, by decide +kernel, by decide, by decide⟩ (mb0 hB') lwA rfl rfl (Nat.le_of_ble_eq_true rfl) (by show 100 + i.toNat ≤ 601024; omega) (by show 3000 + 6 * i.toNat ≤ 7293000; omega) dL_law_795 (fun z2 M1 hz2 hp2 => ?_)
  refine gw_ws lwA.symm ?_
  exact gw_lcmp_eq k 871 dL_law_798 dL_law_799 (by decide) hz1 hz2 (fun _ => nx _ _ _ _ _ _ (by omega) (by omega) hO hp1.1 hp2.1) (fun hne => absurd (hp1.2.trans hp2.2.symm) hne)

set_option maxRecDepth 100000 in
set_option maxHeartbeats 4000000 in
theorem lc_share {K : gK} {D : va_G} {l : Launch} {cI cJ cZ cQ : ClassId} {T : Int} {S : sS} {C M : gSt} {g : Nat → Int64} {ad : Nat → Nat} {cg : gCg} {ad' : Nat → Nat} {cg' : gCg} {o b L : Nat} {xs : Nat → Int32} {i : Int} (k : wOk K D vwD (wT cI cJ cZ cQ) l room_1 8 cL_law RL wsL_law) (hX : wX K (wS b L xs)) (hB : clsB (D, vwD, wT cI cJ cZ cQ, ad, cg, 68) T) (hB' : mdlB (D, vwD, wT cI cJ cZ cQ, ad', cg', 20) T) (hO : sOk S T) (hC : cRel S T C) (hM : mRel S T M) (hL : L ≤ 2049) (h1 : 1 ≤ i) (h2 : i + 4 ≤ (L : Int)) (nx : lNx K D cJ ad cg ad' cg' o b T i) (htr : l.stackTraces = false) (hE : wX K xE) : GW K D vwD (100 + i.toNat) (3000 + 6 * i.toNat) (lW cJ ad cg ad' cg' o C M g) 804 (lV b ad ad' o i) [] := by
  refine gw_aload_n k dL_law_804 rfl ?_
  refine gw_aload_n k dL_law_805 rfl ?_
  refine gw_iload k dL_law_806 rfl ?_
  refine gw_iconst k dL_law_808 ?_
  refine gw_iadd k dL_law_809 ?_
  refine gw_sld k hX (by omega) (by omega) (by omega) dL_law_810 ?_
  refine gw_aload_n k dL_law_811 rfl ?_
  refine gw_iload k dL_law_812 rfl ?_
  refine gw_iconst k dL_law_814 ?_
  refine gw_iadd k dL_law_815 ?_
  refine gw_sld k hX (by omega) (by omega) (by omega) dL_law_816 ?_
  refine gw_aload_n k dL_law_817 rfl ?_
  refine gw_callH (n := 4) (As := [.ref (ad 0), .int (iI (xz xs (i + 1))), .int (iI (xz xs (i + 2))), .ref o]) (rest := []) k (gw ad' cg' 20 M) [] (nL_share htr hB hO hC (xz xs (i + 1)) (xz xs (i + 2)) (xz_r _ _) (xz_r _ _) o g) gL_law_L_share rfl rfl rfl (by decide +kernel) ⟨by decide, by decide⟩ (wX_mono (fun A U h H V hV hW hk hA => h.go hW (by rw [hV]; exact hk) hA) hE) (fun _ _ _ _ _ h => h.call) lwB rfl rfl (Nat.le_of_ble_eq_true rfl) (by show 100 + i.toNat + 1 ≤ 601024; omega) (by show 3000 + 6 * i.toNat + 6 ≤ 7293000; omega) dL_law_818 (fun z1 w1 hz1 hp1 => ?_)
  obtain ⟨C1, g1, rfl, hC1, hs1⟩ := hp1
  refine gw_ws lwB.symm ?_
  refine gw_istore k [(5, .int (iI z1)), (4, .int (iI i)), (3, .ref o), (2, .ref (ad' 0)), (1, .ref (ad 0)), (0, .ref b)] dL_law_821 (by decide) rfl ?_
  refine gw_aload_n k dL_law_823 rfl ?_
  refine gw_aload_n k dL_law_824 rfl ?_
  refine gw_iload k dL_law_825 rfl ?_
  refine gw_iconst k dL_law_827 ?_
  refine gw_iadd k dL_law_828 ?_
  refine gw_sld k hX (by omega) (by omega) (by omega) dL_law_829 ?_
  refine gw_aload_n k dL_law_830 rfl ?_
  refine gw_iload k dL_law_831 rfl ?_
  refine gw_iconst k dL_law_833 ?_
  refine gw_iadd k dL_law_834 ?_
  refine gw_sld k hX (by omega) (by omega) (by omega) dL_law_835 ?_
  refine gw_calll (n := 2) (As := [.int (iI (xz xs (i + 1))), .int (iI (xz xs (i + 2)))]) (rest := []) k [] (gw ad cg 68 C1 ++ [(o, .inl (cJ, 1, .inr (.inl g1)))]) (kX6_share hB' hO hM (xz xs (i + 1)) (xz xs (i + 2)) (xz_r _ _) (xz_r _ _)) ⟨_, _, _, gL_law_X6_share, rfl, rfl, rfl, by decide +kernel, by decide, by decide⟩ (mb0 hB') lwA rfl rfl (Nat.le_of_ble_eq_true rfl) (by show 100 + i.toNat + 1 ≤ 601024; omega) (by show 3000 + 6 * i.toNat + 6 ≤ 7293000; omega) dL_law_836 (fun z2 M1 hz2 hp2 => ?_)
  refine gw_ws lwA.symm ?_
  refine gw_lstore k [(6, .long (iL z2)), (5, .int (iI z1)), (4, .int (iI i)), (3, .ref o), (2, .ref (ad' 0)), (1, .ref (ad 0)), (0, .ref b)] dL_law_839 (by decide) rfl ?_
  have key : (M1 0 0 = 0 ∨ M1 0 0 = 1) ∧ M1 0 0 = z1 ∧ mRel S T M1 ∧ (z1 = 0 → ∃ v : Int, rL v ∧ g1 0 = iL v ∧ v = z2) := by
    rcases hs1 with ⟨a1, a2, a3⟩ | ⟨a1, v, a2, a3, a4⟩ <;> rcases hp2 with ⟨b1, b2, b3, b4⟩ | ⟨b1, b2, b3, b4⟩ | ⟨b1, b2, b3, b4, b5⟩
    · exact absurd a2 b1
    · exact ⟨Or.inr b3, b3.trans a1.symm, b4, fun h => by omega⟩
    · exact absurd a3 b2
    · refine ⟨Or.inl b3, b3.trans a1.symm, b4, fun _ => ⟨v, a2, a3, ?_⟩⟩
      rcases a4 with ⟨c1, c2⟩ | ⟨c1, c2, c3⟩
      · exact c2.trans b2.symm
      · exact absurd c1 b1
    · rcases a4 with ⟨c1, c2⟩ | ⟨c1, c2, c3⟩
      · exact absurd b1 c1
      · exact absurd b2 c2
    · refine ⟨Or.inl b4, b4.trans a1.symm, b5, fun _ => ⟨v, a2, a3, ?_⟩⟩
      rcases a4 with ⟨c1, c2⟩ | ⟨c1, c2, c3⟩
      · exact absurd b1 c1
      · exact c3.trans b3.symm
  obtain ⟨k01, kz, hM1, k0⟩ := key
  refine gw_aload_n k dL_law_841 rfl ?_
  refine gw_calli (n := 0) (As := []) (rest := []) k [] (gw ad cg 68 C1 ++ [(o, .inl (cJ, 1, .inr (.inl g1)))]) (kX6_thrown hB' k01) ⟨_, _, _, gL_law_X6_thrown, rfl, rfl, rfl, by decide +kernel, by decide, by decide⟩ (mb0 hB') lwA rfl rfl (Nat.le_of_ble_eq_true rfl) (by show 100 + i.toNat + 1 ≤ 601024; omega) (by show 3000 + 6 * i.toNat + 6 ≤ 7293000; omega) dL_law_842 (fun z3 M2 hz3 hp3 => ?_)
  refine gw_ws lwA.symm ?_
  obtain ⟨hp3, rfl⟩ := hp3
  refine gw_iload k dL_law_845 rfl ?_
  refine gw_icmp_eq k 852 dL_law_847 (by decide) hz3 hz1 (fun _ => ?_) (fun hne => absurd (hp3.trans kz) hne)
  refine gw_iload k dL_law_852 rfl ?_
  refine gw_if_ne k 868 dL_law_854 (by decide) hz1 (fun _ => gw_goto k 871 dL_law_868 (by decide) (gw_sub [2, 3, 4, 5, 6] rfl (nx _ _ _ _ _ _ (by omega) (by omega) hO hC1 hM1))) (fun hz0 => ?_)
  obtain ⟨v, hv, hg, hvz⟩ := k0 hz0
  refine gw_aload_n k dL_law_857 rfl ?_
  refine gw_iconst k dL_law_858 ?_
  have hat : (lW cJ ad cg ad' cg' o C1 M2 g1)[88]? = some (o, .inl (cJ, 1, .inr (.inl g1))) := by
    rw [List.getElem?_append_right (by rw [List.length_append, gw_len, gw_len]; omega), List.length_append, gw_len, gw_len]
    rfl
  refine gw_lald0 k 88 1 hat rfl dL_law_859 ?_
  rw [hg]
  refine gw_lload k dL_law_860 rfl ?_
  exact gw_lcmp_eq k 868 dL_law_862 dL_law_863 (by decide) hv hz2 (fun _ => gw_goto k 871 dL_law_868 (by decide) (gw_sub [2, 3, 4, 5, 6] rfl (nx _ _ _ _ _ _ (by omega) (by omega) hO hC1 hM1))) (fun hne => absurd hvz hne)
