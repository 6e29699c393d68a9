/-! the law: the calls, one by one -/
theorem la_c3 {Q : List mv_V → mv_M → Prop} {M : mv_M} {L : Nat} {f : Int → Int} {i : Int} {bu : Nat × Nat} (hI : la_I L f M) (i0 : 2 ≤ i) (i1 : i + 5 ≤ (L : Int)) (hL : (L : Int) ≤ 2562) (hr : ∀ j, mv_r (f j)) (k : ∀ M', la_I L f M' → mv_W md_law 415 [.inr 1, .inr 2, .inr 47, .inl i] [] M' bu Q) : mv_W md_law 231 [.inr 1, .inr 2, .inr 47, .inl i] [] M bu Q := by
  obtain ⟨hs, W, H, t, nb, BL, BU, BR, BD, np, NL, NU, NR, ND, nl, LL, LU, LR, LD, LP, LM, LO, nk, KL, KU, KR, KD, KP, KZ, KG, KO, BS, HB, LB, PB, fo, se, B, N, K, O, KB, X, XL, XB, Z, IB, PR, hC, hR, hN, hB, hF, hP⟩ := hI
  have hC0 := hC
  obtain ⟨hO, hBx, hPn, ⟨m1, c1, s1, hS1⟩, ⟨m2, c2, s2, hS2⟩, ⟨m3, c3, s3, hS3⟩, ⟨LG, LX, hLn⟩, ⟨KM, KX, hBk⟩, h3, hPB⟩ := hC
  have hR0 := hR
  obtain ⟨⟨co, wy, lc, ow, hRO⟩, g48, g49, ⟨q50, g50⟩, ⟨q51, g51⟩, ⟨q52, g52⟩, ⟨q53, g53⟩, g54, ⟨q55, g55⟩, g56, g57, g58, g59, g60, g61, g62, g63⟩ := hR
  obtain ⟨⟨w1, w2, v1, v2⟩, ⟨n0, n1, p0, p1⟩, ht, hfo, hfk⟩ := hN
  have hN : la_N W H nb np t fo nk := ⟨⟨w1, w2, v1, v2⟩, ⟨n0, n1, p0, p1⟩, ht, hfo, hfk⟩
  obtain ⟨b1, b2, b3, b4⟩ := hB
  have hB : bf_ok nb BL BU BR BD ∧ bf_ok np NL NU NR ND ∧ eq_b nb BL BU BR BD B ∧ eq_b np NL NU NR ND N := ⟨b1, b2, b3, b4⟩
  have hF0 := hF
  obtain ⟨⟨nl0, nl1, nk0, nk1⟩, fl, fk, fB, fL, fHB, fPR, fZ⟩ := hF
  have hko : ∀ p, 0 ≤ p → p < nk → 0 ≤ KO p ∧ KO p < nk := fun p a0 a1 => (fB p a0 a1).1.1
  have hoo : ∀ p, 0 ≤ p → p < nk → 0 ≤ O p ∧ O p < nk := fun p a0 a1 => (fB p a0 a1).1.2
  have hlo : ∀ p, 0 ≤ p → p < nl → 0 ≤ LO p ∧ LO p < nl := fun p a0 a1 => (fL p a0 a1).1
  have hxb : ∀ p, 0 ≤ p → p < nl → 0 ≤ XB p ∧ XB p ≤ 64 := fun p a0 a1 => (fL p a0 a1).2.2.2.2.1
  refine mx_aload_n d_LW_law_231 rfl (by omega) ?_
  refine mx_aload_n d_LW_law_232 rfl (by omega) ?_
  refine mx_iload_n d_LW_law_233 rfl ?_
  refine mx_iconst (1) d_LW_law_234 (by decide +kernel) (by unfold mv_r; omega) ?_
  refine mx_iadd d_LW_law_235 (by unfold mv_r; omega) ?_
  refine mx_iald d_LW_law_236 hs (by omega) (by omega) ?_
  refine mx_aload_n d_LW_law_237 rfl (by omega) ?_
  refine mx_iload_n d_LW_law_238 rfl ?_
  refine mx_iconst (2) d_LW_law_239 (by decide +kernel) (by unfold mv_r; omega) ?_
  refine mx_iadd d_LW_law_240 (by unfold mv_r; omega) ?_
  refine mx_iald d_LW_law_241 hs (by omega) (by omega) ?_
  refine mx_cV2 d_LW_law_242 c_LW_35 hO (by decide) (Nat.le_of_ble_eq_true rfl) ?_
  refine bf_block hO hBk nk1 fk hko h3.1 (fun r hr1 => ?_)
  refine mx_aload_n d_LW_law_245 rfl (by omega) ?_
  refine mx_aload_n d_LW_law_246 rfl (by omega) ?_
  refine mx_iload_n d_LW_law_247 rfl ?_
  refine mx_iconst (1) d_LW_law_248 (by decide +kernel) (by unfold mv_r; omega) ?_
  refine mx_iadd d_LW_law_249 (by unfold mv_r; omega) ?_
  refine mx_iald d_LW_law_250 hs (by omega) (by omega) ?_
  refine mx_aload_n d_LW_law_251 rfl (by omega) ?_
  refine mx_iload_n d_LW_law_252 rfl ?_
  refine mx_iconst (2) d_LW_law_253 (by decide +kernel) (by unfold mv_r; omega) ?_
  refine mx_iadd d_LW_law_254 (by unfold mv_r; omega) ?_
  refine mx_iald d_LW_law_255 hs (by omega) (by omega) ?_
  refine mx_cV2 d_LW_law_256 c_LW_39 hRO (by decide) (Nat.le_of_ble_eq_true rfl) ?_
  refine rf_block hRO hfk hfo g54 g58 g62 g61 nk1 hoo nl1 nl0 hxb (fun M' e hO' r' hr2 => ?_)
  refine la_eq 415 d_LW_law_259 (by decide) (la_blk fB hr1 hr2) ?_
  exact k M' ⟨by rw [e 1 (by omega)]; exact hs, _, _, _, _, _, _, _, _, _, _, _, _, _, _, _, _, _, _, _, _, _, _, _, _, _, _, _, _, _, _, _, _, _, _, _, _, _, _, _, _, _, _, _, _, _, _, _, hC0.of (fun j hj => e j (by omega)), hR0.co hO' (fun j hj => e j (by omega)), hN, hB, hF0, hP⟩
theorem la_c4 {Q : List mv_V → mv_M → Prop} {M : mv_M} {L : Nat} {f : Int → Int} {i : Int} {bu : Nat × Nat} (hI : la_I L f M) (i0 : 2 ≤ i) (i1 : i + 5 ≤ (L : Int)) (hL : (L : Int) ≤ 2562) (hr : ∀ j, mv_r (f j)) (k : ∀ M', la_I L f M' → mv_W md_law 415 [.inr 1, .inr 2, .inr 47, .inl i] [] M' bu Q) : mv_W md_law 264 [.inr 1, .inr 2, .inr 47, .inl i] [] M bu Q := by
  obtain ⟨hs, W, H, t, nb, BL, BU, BR, BD, np, NL, NU, NR, ND, nl, LL, LU, LR, LD, LP, LM, LO, nk, KL, KU, KR, KD, KP, KZ, KG, KO, BS, HB, LB, PB, fo, se, B, N, K, O, KB, X, XL, XB, Z, IB, PR, hC, hR, hN, hB, hF, hP⟩ := hI
  have hC0 := hC
  obtain ⟨hO, hBx, hPn, ⟨m1, c1, s1, hS1⟩, ⟨m2, c2, s2, hS2⟩, ⟨m3, c3, s3, hS3⟩, ⟨LG, LX, hLn⟩, ⟨KM, KX, hBk⟩, h3, hPB⟩ := hC
  have hR0 := hR
  obtain ⟨⟨co, wy, lc, ow, hRO⟩, g48, g49, ⟨q50, g50⟩, ⟨q51, g51⟩, ⟨q52, g52⟩, ⟨q53, g53⟩, g54, ⟨q55, g55⟩, g56, g57, g58, g59, g60, g61, g62, g63⟩ := hR
  obtain ⟨⟨w1, w2, v1, v2⟩, ⟨n0, n1, p0, p1⟩, ht, hfo, hfk⟩ := hN
  have hN : la_N W H nb np t fo nk := ⟨⟨w1, w2, v1, v2⟩, ⟨n0, n1, p0, p1⟩, ht, hfo, hfk⟩
  obtain ⟨b1, b2, b3, b4⟩ := hB
  have hB : bf_ok nb BL BU BR BD ∧ bf_ok np NL NU NR ND ∧ eq_b nb BL BU BR BD B ∧ eq_b np NL NU NR ND N := ⟨b1, b2, b3, b4⟩
  have hF0 := hF
  obtain ⟨⟨nl0, nl1, nk0, nk1⟩, fl, fk, fB, fL, fHB, fPR, fZ⟩ := hF
  have hko : ∀ p, 0 ≤ p → p < nk → 0 ≤ KO p ∧ KO p < nk := fun p a0 a1 => (fB p a0 a1).1.1
  have hoo : ∀ p, 0 ≤ p → p < nk → 0 ≤ O p ∧ O p < nk := fun p a0 a1 => (fB p a0 a1).1.2
  have hlo : ∀ p, 0 ≤ p → p < nl → 0 ≤ LO p ∧ LO p < nl := fun p a0 a1 => (fL p a0 a1).1
  have hxb : ∀ p, 0 ≤ p → p < nl → 0 ≤ XB p ∧ XB p ≤ 64 := fun p a0 a1 => (fL p a0 a1).2.2.2.2.1
  refine mx_aload_n d_LW_law_264 rfl (by omega) ?_
  refine mx_aload_n d_LW_law_265 rfl (by omega) ?_
  refine mx_iload_n d_LW_law_266 rfl ?_
  refine mx_iconst (1) d_LW_law_267 (by decide +kernel) (by unfold mv_r; omega) ?_
  refine mx_iadd d_LW_law_268 (by unfold mv_r; omega) ?_
  refine mx_iald d_LW_law_269 hs (by omega) (by omega) ?_
  refine mx_aload_n d_LW_law_270 rfl (by omega) ?_
  refine mx_iload_n d_LW_law_271 rfl ?_
  refine mx_iconst (2) d_LW_law_272 (by decide +kernel) (by unfold mv_r; omega) ?_
  refine mx_iadd d_LW_law_273 (by unfold mv_r; omega) ?_
  refine mx_iald d_LW_law_274 hs (by omega) (by omega) ?_
  refine mx_aload_n d_LW_law_275 rfl (by omega) ?_
  refine mx_iload_n d_LW_law_276 rfl ?_
  refine mx_iconst (3) d_LW_law_277 (by decide +kernel) (by unfold mv_r; omega) ?_
  refine mx_iadd d_LW_law_278 (by unfold mv_r; omega) ?_
  refine mx_iald d_LW_law_279 hs (by omega) (by omega) ?_
  refine mx_cV3 d_LW_law_280 c_LW_40 hO (by decide) (Nat.le_of_ble_eq_true rfl) ?_
  refine bf_line hO hLn hBk nl1 hlo nl0 fl nk1 hko (fun r hr1 => ?_)
  refine mx_aload_n d_LW_law_283 rfl (by omega) ?_
  refine mx_aload_n d_LW_law_284 rfl (by omega) ?_
  refine mx_iload_n d_LW_law_285 rfl ?_
  refine mx_iconst (1) d_LW_law_286 (by decide +kernel) (by unfold mv_r; omega) ?_
  refine mx_iadd d_LW_law_287 (by unfold mv_r; omega) ?_
  refine mx_iald d_LW_law_288 hs (by omega) (by omega) ?_
  refine mx_aload_n d_LW_law_289 rfl (by omega) ?_
  refine mx_iload_n d_LW_law_290 rfl ?_
  refine mx_iconst (2) d_LW_law_291 (by decide +kernel) (by unfold mv_r; omega) ?_
  refine mx_iadd d_LW_law_292 (by unfold mv_r; omega) ?_
  refine mx_iald d_LW_law_293 hs (by omega) (by omega) ?_
  refine mx_aload_n d_LW_law_294 rfl (by omega) ?_
  refine mx_iload_n d_LW_law_295 rfl ?_
  refine mx_iconst (3) d_LW_law_296 (by decide +kernel) (by unfold mv_r; omega) ?_
  refine mx_iadd d_LW_law_297 (by unfold mv_r; omega) ?_
  refine mx_iald d_LW_law_298 hs (by omega) (by omega) ?_
  refine mx_cV3 d_LW_law_299 c_LW_44 hRO (by decide) (Nat.le_of_ble_eq_true rfl) ?_
  refine rf_line hRO hfk hfo g58 g62 g59 g60 g61 nk1 hoo nl1 nl0 (hr _) (fun M' e hO' r' hr2 => ?_)
  refine la_eq 415 d_LW_law_302 (by decide) (la_lin fL hr1 hr2) ?_
  exact k M' ⟨by rw [e 1 (by omega)]; exact hs, _, _, _, _, _, _, _, _, _, _, _, _, _, _, _, _, _, _, _, _, _, _, _, _, _, _, _, _, _, _, _, _, _, _, _, _, _, _, _, _, _, _, _, _, _, _, _, hC0.of (fun j hj => e j (by omega)), hR0.co hO' (fun j hj => e j (by omega)), hN, hB, hF0, hP⟩
theorem la_c7 {Q : List mv_V → mv_M → Prop} {M : mv_M} {L : Nat} {f : Int → Int} {i : Int} {bu : Nat × Nat} (hI : la_I L f M) (i0 : 2 ≤ i) (i1 : i + 5 ≤ (L : Int)) (hL : (L : Int) ≤ 2562) (hr : ∀ j, mv_r (f j)) (k : ∀ M', la_I L f M' → mv_W md_law 415 [.inr 1, .inr 2, .inr 47, .inl i] [] M' bu Q) : mv_W md_law 353 [.inr 1, .inr 2, .inr 47, .inl i] [] M bu Q := by
  obtain ⟨hs, W, H, t, nb, BL, BU, BR, BD, np, NL, NU, NR, ND, nl, LL, LU, LR, LD, LP, LM, LO, nk, KL, KU, KR, KD, KP, KZ, KG, KO, BS, HB, LB, PB, fo, se, B, N, K, O, KB, X, XL, XB, Z, IB, PR, hC, hR, hN, hB, hF, hP⟩ := hI
  have hC0 := hC
  obtain ⟨hO, hBx, hPn, ⟨m1, c1, s1, hS1⟩, ⟨m2, c2, s2, hS2⟩, ⟨m3, c3, s3, hS3⟩, ⟨LG, LX, hLn⟩, ⟨KM, KX, hBk⟩, h3, hPB⟩ := hC
  have hR0 := hR
  obtain ⟨⟨co, wy, lc, ow, hRO⟩, g48, g49, ⟨q50, g50⟩, ⟨q51, g51⟩, ⟨q52, g52⟩, ⟨q53, g53⟩, g54, ⟨q55, g55⟩, g56, g57, g58, g59, g60, g61, g62, g63⟩ := hR
  obtain ⟨⟨w1, w2, v1, v2⟩, ⟨n0, n1, p0, p1⟩, ht, hfo, hfk⟩ := hN
  have hN : la_N W H nb np t fo nk := ⟨⟨w1, w2, v1, v2⟩, ⟨n0, n1, p0, p1⟩, ht, hfo, hfk⟩
  obtain ⟨b1, b2, b3, b4⟩ := hB
  have hB : bf_ok nb BL BU BR BD ∧ bf_ok np NL NU NR ND ∧ eq_b nb BL BU BR BD B ∧ eq_b np NL NU NR ND N := ⟨b1, b2, b3, b4⟩
  have hF0 := hF
  obtain ⟨⟨nl0, nl1, nk0, nk1⟩, fl, fk, fB, fL, fHB, fPR, fZ⟩ := hF
  have hko : ∀ p, 0 ≤ p → p < nk → 0 ≤ KO p ∧ KO p < nk := fun p a0 a1 => (fB p a0 a1).1.1
  have hoo : ∀ p, 0 ≤ p → p < nk → 0 ≤ O p ∧ O p < nk := fun p a0 a1 => (fB p a0 a1).1.2
  have hlo : ∀ p, 0 ≤ p → p < nl → 0 ≤ LO p ∧ LO p < nl := fun p a0 a1 => (fL p a0 a1).1
  have hxb : ∀ p, 0 ≤ p → p < nl → 0 ≤ XB p ∧ XB p ≤ 64 := fun p a0 a1 => (fL p a0 a1).2.2.2.2.1
  refine mx_aload_n d_LW_law_353 rfl (by omega) ?_
  refine mx_cV0 d_LW_law_354 c_LW_55 hO (by decide) (Nat.le_of_ble_eq_true rfl) ?_
  refine bf_turned hO ht ?_
  refine mx_aload_n d_LW_law_357 rfl (by omega) ?_
  refine mx_cV0 d_LW_law_358 c_LW_59 hRO (by decide) (Nat.le_of_ble_eq_true rfl) ?_
  refine rf_turned hRO ht (fun M' e hO' => ?_)
  refine la_eq 415 d_LW_law_361 (by decide) rfl ?_
  exact k M' ⟨by rw [e 1 (by omega)]; exact hs, _, _, _, _, _, _, _, _, _, _, _, _, _, _, _, _, _, _, _, _, _, _, _, _, _, _, _, _, _, _, _, _, _, _, _, _, _, _, _, _, _, _, _, _, _, _, _, hC0.of (fun j hj => e j (by omega)), hR0.co hO' (fun j hj => e j (by omega)), hN, hB, hF0, hP⟩
theorem la_c9 {Q : List mv_V → mv_M → Prop} {M : mv_M} {L : Nat} {f : Int → Int} {i : Int} {bu : Nat × Nat} (hI : la_I L f M) (i0 : 2 ≤ i) (i1 : i + 5 ≤ (L : Int)) (hL : (L : Int) ≤ 2562) (hr : ∀ j, mv_r (f j)) (k : ∀ M', la_I L f M' → mv_W md_law 415 [.inr 1, .inr 2, .inr 47, .inl i] [] M' bu Q) : mv_W md_law 389 [.inr 1, .inr 2, .inr 47, .inl i] [] M bu Q := by
  obtain ⟨hs, W, H, t, nb, BL, BU, BR, BD, np, NL, NU, NR, ND, nl, LL, LU, LR, LD, LP, LM, LO, nk, KL, KU, KR, KD, KP, KZ, KG, KO, BS, HB, LB, PB, fo, se, B, N, K, O, KB, X, XL, XB, Z, IB, PR, hC, hR, hN, hB, hF, hP⟩ := hI
  have hC0 := hC
  obtain ⟨hO, hBx, hPn, ⟨m1, c1, s1, hS1⟩, ⟨m2, c2, s2, hS2⟩, ⟨m3, c3, s3, hS3⟩, ⟨LG, LX, hLn⟩, ⟨KM, KX, hBk⟩, h3, hPB⟩ := hC
  have hR0 := hR
  obtain ⟨⟨co, wy, lc, ow, hRO⟩, g48, g49, ⟨q50, g50⟩, ⟨q51, g51⟩, ⟨q52, g52⟩, ⟨q53, g53⟩, g54, ⟨q55, g55⟩, g56, g57, g58, g59, g60, g61, g62, g63⟩ := hR
  obtain ⟨⟨w1, w2, v1, v2⟩, ⟨n0, n1, p0, p1⟩, ht, hfo, hfk⟩ := hN
  have hN : la_N W H nb np t fo nk := ⟨⟨w1, w2, v1, v2⟩, ⟨n0, n1, p0, p1⟩, ht, hfo, hfk⟩
  obtain ⟨b1, b2, b3, b4⟩ := hB
  have hB : bf_ok nb BL BU BR BD ∧ bf_ok np NL NU NR ND ∧ eq_b nb BL BU BR BD B ∧ eq_b np NL NU NR ND N := ⟨b1, b2, b3, b4⟩
  have hF0 := hF
  obtain ⟨⟨nl0, nl1, nk0, nk1⟩, fl, fk, fB, fL, fHB, fPR, fZ⟩ := hF
  have hko : ∀ p, 0 ≤ p → p < nk → 0 ≤ KO p ∧ KO p < nk := fun p a0 a1 => (fB p a0 a1).1.1
  have hoo : ∀ p, 0 ≤ p → p < nk → 0 ≤ O p ∧ O p < nk := fun p a0 a1 => (fB p a0 a1).1.2
  have hlo : ∀ p, 0 ≤ p → p < nl → 0 ≤ LO p ∧ LO p < nl := fun p a0 a1 => (fL p a0 a1).1
  have hxb : ∀ p, 0 ≤ p → p < nl → 0 ≤ XB p ∧ XB p ≤ 64 := fun p a0 a1 => (fL p a0 a1).2.2.2.2.1
  refine mx_aload_n d_LW_law_389 rfl (by omega) ?_
  refine mx_cV0 d_LW_law_390 c_LW_64 hO (by decide) (Nat.le_of_ble_eq_true rfl) ?_
  refine bf_candidates hO hBk nk1 nk0 ?_
  refine mx_aload_n d_LW_law_393 rfl (by omega) ?_
  refine mx_cV0 d_LW_law_394 c_LW_67 hRO (by decide) (Nat.le_of_ble_eq_true rfl) ?_
  refine rf_candidates hRO g56 nk1 nk0 (fun M' e hO' => ?_)
  refine la_eq 415 d_LW_law_397 (by decide) fZ ?_
  exact k M' ⟨by rw [e 1 (by omega)]; exact hs, _, _, _, _, _, _, _, _, _, _, _, _, _, _, _, _, _, _, _, _, _, _, _, _, _, _, _, _, _, _, _, _, _, _, _, _, _, _, _, _, _, _, _, _, _, _, _, hC0.of (fun j hj => e j (by omega)), hR0.co hO' (fun j hj => e j (by omega)), hN, hB, hF0, hP⟩
theorem la_c5 {Q : List mv_V → mv_M → Prop} {M : mv_M} {L : Nat} {f : Int → Int} {i : Int} {bu : Nat × Nat} (hI : la_I L f M) (i0 : 2 ≤ i) (i1 : i + 5 ≤ (L : Int)) (hL : (L : Int) ≤ 2562) (hr : ∀ j, mv_r (f j)) (k : ∀ M', la_I L f M' → mv_W md_law 415 [.inr 1, .inr 2, .inr 47, .inl i] [] M' bu Q) : mv_W md_law 307 [.inr 1, .inr 2, .inr 47, .inl i] [] M bu Q := by
  obtain ⟨hs, W, H, t, nb, BL, BU, BR, BD, np, NL, NU, NR, ND, nl, LL, LU, LR, LD, LP, LM, LO, nk, KL, KU, KR, KD, KP, KZ, KG, KO, BS, HB, LB, PB, fo, se, B, N, K, O, KB, X, XL, XB, Z, IB, PR, hC, hR, hN, hB, hF, hP⟩ := hI
  have hC0 := hC
  obtain ⟨hO, hBx, hPn, ⟨m1, c1, s1, hS1⟩, ⟨m2, c2, s2, hS2⟩, ⟨m3, c3, s3, hS3⟩, ⟨LG, LX, hLn⟩, ⟨KM, KX, hBk⟩, h3, hPB⟩ := hC
  have hR0 := hR
  obtain ⟨⟨co, wy, lc, ow, hRO⟩, g48, g49, ⟨q50, g50⟩, ⟨q51, g51⟩, ⟨q52, g52⟩, ⟨q53, g53⟩, g54, ⟨q55, g55⟩, g56, g57, g58, g59, g60, g61, g62, g63⟩ := hR
  obtain ⟨⟨w1, w2, v1, v2⟩, ⟨n0, n1, p0, p1⟩, ht, hfo, hfk⟩ := hN
  have hN : la_N W H nb np t fo nk := ⟨⟨w1, w2, v1, v2⟩, ⟨n0, n1, p0, p1⟩, ht, hfo, hfk⟩
  obtain ⟨b1, b2, b3, b4⟩ := hB
  have hB : bf_ok nb BL BU BR BD ∧ bf_ok np NL NU NR ND ∧ eq_b nb BL BU BR BD B ∧ eq_b np NL NU NR ND N := ⟨b1, b2, b3, b4⟩
  have hF0 := hF
  obtain ⟨⟨nl0, nl1, nk0, nk1⟩, fl, fk, fB, fL, fHB, fPR, fZ⟩ := hF
  have hko : ∀ p, 0 ≤ p → p < nk → 0 ≤ KO p ∧ KO p < nk := fun p a0 a1 => (fB p a0 a1).1.1
  have hoo : ∀ p, 0 ≤ p → p < nk → 0 ≤ O p ∧ O p < nk := fun p a0 a1 => (fB p a0 a1).1.2
  have hlo : ∀ p, 0 ≤ p → p < nl → 0 ≤ LO p ∧ LO p < nl := fun p a0 a1 => (fL p a0 a1).1
  have hxb : ∀ p, 0 ≤ p → p < nl → 0 ≤ XB p ∧ XB p ≤ 64 := fun p a0 a1 => (fL p a0 a1).2.2.2.2.1
  refine mx_aload_n d_LW_law_307 rfl (by omega) ?_
  refine mx_aload_n d_LW_law_308 rfl (by omega) ?_
  refine mx_iload_n d_LW_law_309 rfl ?_
  refine mx_iconst (1) d_LW_law_310 (by decide +kernel) (by unfold mv_r; omega) ?_
  refine mx_iadd d_LW_law_311 (by unfold mv_r; omega) ?_
  refine mx_iald d_LW_law_312 hs (by omega) (by omega) ?_
  refine mx_cV1 d_LW_law_313 c_LW_45 hO (by decide) (Nat.le_of_ble_eq_true rfl) ?_
  refine bf_points hO hBk nk1 hko (fun x1 => ?_) (fun x1 => ?_)
  · skip
    refine mx_aload_n d_LW_law_316 rfl (by omega) ?_
    refine mx_aload_n d_LW_law_317 rfl (by omega) ?_
    refine mx_iload_n d_LW_law_318 rfl ?_
    refine mx_iconst (1) d_LW_law_319 (by decide +kernel) (by unfold mv_r; omega) ?_
    refine mx_iadd d_LW_law_320 (by unfold mv_r; omega) ?_
    refine mx_iald d_LW_law_321 hs (by omega) (by omega) ?_
    refine mx_cV1 d_LW_law_322 c_LW_49 hRO (by decide) (Nat.le_of_ble_eq_true rfl) ?_
    refine rf_points hRO hfk hfo g56 g58 nk1 hoo (fun M' e hO' x2 => ?_) (fun M' e hO' x2 => ?_)
    · skip
      refine la_eq 415 d_LW_law_325 (by decide) (fB _ x1.1 x1.2).2.2.2.2.1 ?_
      exact k M' ⟨by rw [e 1 (by omega)]; exact hs, _, _, _, _, _, _, _, _, _, _, _, _, _, _, _, _, _, _, _, _, _, _, _, _, _, _, _, _, _, _, _, _, _, _, _, _, _, _, _, _, _, _, _, _, _, _, _, hC0.of (fun j hj => e j (by omega)), hR0.co hO' (fun j hj => e j (by omega)), hN, hB, hF0, hP⟩
    · skip
      exact absurd x1 x2
  · skip
    refine mx_aload_n d_LW_law_316 rfl (by omega) ?_
    refine mx_aload_n d_LW_law_317 rfl (by omega) ?_
    refine mx_iload_n d_LW_law_318 rfl ?_
    refine mx_iconst (1) d_LW_law_319 (by decide +kernel) (by unfold mv_r; omega) ?_
    refine mx_iadd d_LW_law_320 (by unfold mv_r; omega) ?_
    refine mx_iald d_LW_law_321 hs (by omega) (by omega) ?_
    refine mx_cV1 d_LW_law_322 c_LW_49 hRO (by decide) (Nat.le_of_ble_eq_true rfl) ?_
    refine rf_points hRO hfk hfo g56 g58 nk1 hoo (fun M' e hO' x2 => ?_) (fun M' e hO' x2 => ?_)
    · skip
      exact absurd x2 x1
    · skip
      refine la_eq 415 d_LW_law_325 (by decide) rfl ?_
      exact k M' ⟨by rw [e 1 (by omega)]; exact hs, _, _, _, _, _, _, _, _, _, _, _, _, _, _, _, _, _, _, _, _, _, _, _, _, _, _, _, _, _, _, _, _, _, _, _, _, _, _, _, _, _, _, _, _, _, _, _, hC0.of (fun j hj => e j (by omega)), hR0.co hO' (fun j hj => e j (by omega)), hN, hB, hF0, hP⟩
theorem la_c6 {Q : List mv_V → mv_M → Prop} {M : mv_M} {L : Nat} {f : Int → Int} {i : Int} {bu : Nat × Nat} (hI : la_I L f M) (i0 : 2 ≤ i) (i1 : i + 5 ≤ (L : Int)) (hL : (L : Int) ≤ 2562) (hr : ∀ j, mv_r (f j)) (k : ∀ M', la_I L f M' → mv_W md_law 415 [.inr 1, .inr 2, .inr 47, .inl i] [] M' bu Q) : mv_W md_law 330 [.inr 1, .inr 2, .inr 47, .inl i] [] M bu Q := by
  obtain ⟨hs, W, H, t, nb, BL, BU, BR, BD, np, NL, NU, NR, ND, nl, LL, LU, LR, LD, LP, LM, LO, nk, KL, KU, KR, KD, KP, KZ, KG, KO, BS, HB, LB, PB, fo, se, B, N, K, O, KB, X, XL, XB, Z, IB, PR, hC, hR, hN, hB, hF, hP⟩ := hI
  have hC0 := hC
  obtain ⟨hO, hBx, hPn, ⟨m1, c1, s1, hS1⟩, ⟨m2, c2, s2, hS2⟩, ⟨m3, c3, s3, hS3⟩, ⟨LG, LX, hLn⟩, ⟨KM, KX, hBk⟩, h3, hPB⟩ := hC
  have hR0 := hR
  obtain ⟨⟨co, wy, lc, ow, hRO⟩, g48, g49, ⟨q50, g50⟩, ⟨q51, g51⟩, ⟨q52, g52⟩, ⟨q53, g53⟩, g54, ⟨q55, g55⟩, g56, g57, g58, g59, g60, g61, g62, g63⟩ := hR
  obtain ⟨⟨w1, w2, v1, v2⟩, ⟨n0, n1, p0, p1⟩, ht, hfo, hfk⟩ := hN
  have hN : la_N W H nb np t fo nk := ⟨⟨w1, w2, v1, v2⟩, ⟨n0, n1, p0, p1⟩, ht, hfo, hfk⟩
  obtain ⟨b1, b2, b3, b4⟩ := hB
  have hB : bf_ok nb BL BU BR BD ∧ bf_ok np NL NU NR ND ∧ eq_b nb BL BU BR BD B ∧ eq_b np NL NU NR ND N := ⟨b1, b2, b3, b4⟩
  have hF0 := hF
  obtain ⟨⟨nl0, nl1, nk0, nk1⟩, fl, fk, fB, fL, fHB, fPR, fZ⟩ := hF
  have hko : ∀ p, 0 ≤ p → p < nk → 0 ≤ KO p ∧ KO p < nk := fun p a0 a1 => (fB p a0 a1).1.1
  have hoo : ∀ p, 0 ≤ p → p < nk → 0 ≤ O p ∧ O p < nk := fun p a0 a1 => (fB p a0 a1).1.2
  have hlo : ∀ p, 0 ≤ p → p < nl → 0 ≤ LO p ∧ LO p < nl := fun p a0 a1 => (fL p a0 a1).1
  have hxb : ∀ p, 0 ≤ p → p < nl → 0 ≤ XB p ∧ XB p ≤ 64 := fun p a0 a1 => (fL p a0 a1).2.2.2.2.1
  refine mx_aload_n d_LW_law_330 rfl (by omega) ?_
  refine mx_aload_n d_LW_law_331 rfl (by omega) ?_
  refine mx_iload_n d_LW_law_332 rfl ?_
  refine mx_iconst (1) d_LW_law_333 (by decide +kernel) (by unfold mv_r; omega) ?_
  refine mx_iadd d_LW_law_334 (by unfold mv_r; omega) ?_
  refine mx_iald d_LW_law_335 hs (by omega) (by omega) ?_
  refine mx_cV1 d_LW_law_336 c_LW_50 hO (by decide) (Nat.le_of_ble_eq_true rfl) ?_
  refine bf_printed hO hBk nk1 hko h3.2.1 h3.2.2 fHB (fun x1 y1 => ?_) (fun x1 => ?_)
  · skip
    refine mx_aload_n d_LW_law_339 rfl (by omega) ?_
    refine mx_aload_n d_LW_law_340 rfl (by omega) ?_
    refine mx_iload_n d_LW_law_341 rfl ?_
    refine mx_iconst (1) d_LW_law_342 (by decide +kernel) (by unfold mv_r; omega) ?_
    refine mx_iadd d_LW_law_343 (by unfold mv_r; omega) ?_
    refine mx_iald d_LW_law_344 hs (by omega) (by omega) ?_
    refine mx_cV1 d_LW_law_345 c_LW_54 hRO (by decide) (Nat.le_of_ble_eq_true rfl) ?_
    refine rf_printed hRO hfk hfo g57 g58 nk1 hoo fPR (fun M' e hO' x2 y2 => ?_) (fun M' e hO' x2 => ?_)
    · skip
      refine la_eq 415 d_LW_law_348 (by decide) rfl ?_
      exact k M' ⟨by rw [e 1 (by omega)]; exact hs, _, _, _, _, _, _, _, _, _, _, _, _, _, _, _, _, _, _, _, _, _, _, _, _, _, _, _, _, _, _, _, _, _, _, _, _, _, _, _, _, _, _, _, _, _, _, _, hC0.of (fun j hj => e j (by omega)), hR0.co hO' (fun j hj => e j (by omega)), hN, hB, hF0, hP⟩
    · skip
      exact absurd ⟨x1, (fB _ x1.1 x1.2).2.2.2.2.2.mpr y1⟩ x2
  · skip
    refine mx_aload_n d_LW_law_339 rfl (by omega) ?_
    refine mx_aload_n d_LW_law_340 rfl (by omega) ?_
    refine mx_iload_n d_LW_law_341 rfl ?_
    refine mx_iconst (1) d_LW_law_342 (by decide +kernel) (by unfold mv_r; omega) ?_
    refine mx_iadd d_LW_law_343 (by unfold mv_r; omega) ?_
    refine mx_iald d_LW_law_344 hs (by omega) (by omega) ?_
    refine mx_cV1 d_LW_law_345 c_LW_54 hRO (by decide) (Nat.le_of_ble_eq_true rfl) ?_
    refine rf_printed hRO hfk hfo g57 g58 nk1 hoo fPR (fun M' e hO' x2 y2 => ?_) (fun M' e hO' x2 => ?_)
    · skip
      exact absurd ⟨x2, (fB _ x2.1 x2.2).2.2.2.2.2.mp y2⟩ x1
    · skip
      refine la_eq 415 d_LW_law_348 (by decide) rfl ?_
      exact k M' ⟨by rw [e 1 (by omega)]; exact hs, _, _, _, _, _, _, _, _, _, _, _, _, _, _, _, _, _, _, _, _, _, _, _, _, _, _, _, _, _, _, _, _, _, _, _, _, _, _, _, _, _, _, _, _, _, _, _, hC0.of (fun j hj => e j (by omega)), hR0.co hO' (fun j hj => e j (by omega)), hN, hB, hF0, hP⟩
theorem la_c8 {Q : List mv_V → mv_M → Prop} {M : mv_M} {L : Nat} {f : Int → Int} {i : Int} {bu : Nat × Nat} (hI : la_I L f M) (i0 : 2 ≤ i) (i1 : i + 5 ≤ (L : Int)) (hL : (L : Int) ≤ 2562) (hr : ∀ j, mv_r (f j)) (k : ∀ M', la_I L f M' → mv_W md_law 415 [.inr 1, .inr 2, .inr 47, .inl i] [] M' bu Q) : mv_W md_law 366 [.inr 1, .inr 2, .inr 47, .inl i] [] M bu Q := by
  obtain ⟨hs, W, H, t, nb, BL, BU, BR, BD, np, NL, NU, NR, ND, nl, LL, LU, LR, LD, LP, LM, LO, nk, KL, KU, KR, KD, KP, KZ, KG, KO, BS, HB, LB, PB, fo, se, B, N, K, O, KB, X, XL, XB, Z, IB, PR, hC, hR, hN, hB, hF, hP⟩ := hI
  have hC0 := hC
  obtain ⟨hO, hBx, hPn, ⟨m1, c1, s1, hS1⟩, ⟨m2, c2, s2, hS2⟩, ⟨m3, c3, s3, hS3⟩, ⟨LG, LX, hLn⟩, ⟨KM, KX, hBk⟩, h3, hPB⟩ := hC
  have hR0 := hR
  obtain ⟨⟨co, wy, lc, ow, hRO⟩, g48, g49, ⟨q50, g50⟩, ⟨q51, g51⟩, ⟨q52, g52⟩, ⟨q53, g53⟩, g54, ⟨q55, g55⟩, g56, g57, g58, g59, g60, g61, g62, g63⟩ := hR
  obtain ⟨⟨w1, w2, v1, v2⟩, ⟨n0, n1, p0, p1⟩, ht, hfo, hfk⟩ := hN
  have hN : la_N W H nb np t fo nk := ⟨⟨w1, w2, v1, v2⟩, ⟨n0, n1, p0, p1⟩, ht, hfo, hfk⟩
  obtain ⟨b1, b2, b3, b4⟩ := hB
  have hB : bf_ok nb BL BU BR BD ∧ bf_ok np NL NU NR ND ∧ eq_b nb BL BU BR BD B ∧ eq_b np NL NU NR ND N := ⟨b1, b2, b3, b4⟩
  have hF0 := hF
  obtain ⟨⟨nl0, nl1, nk0, nk1⟩, fl, fk, fB, fL, fHB, fPR, fZ⟩ := hF
  have hko : ∀ p, 0 ≤ p → p < nk → 0 ≤ KO p ∧ KO p < nk := fun p a0 a1 => (fB p a0 a1).1.1
  have hoo : ∀ p, 0 ≤ p → p < nk → 0 ≤ O p ∧ O p < nk := fun p a0 a1 => (fB p a0 a1).1.2
  have hlo : ∀ p, 0 ≤ p → p < nl → 0 ≤ LO p ∧ LO p < nl := fun p a0 a1 => (fL p a0 a1).1
  have hxb : ∀ p, 0 ≤ p → p < nl → 0 ≤ XB p ∧ XB p ≤ 64 := fun p a0 a1 => (fL p a0 a1).2.2.2.2.1
  refine mx_aload_n d_LW_law_366 rfl (by omega) ?_
  refine mx_aload_n d_LW_law_367 rfl (by omega) ?_
  refine mx_iload_n d_LW_law_368 rfl ?_
  refine mx_iconst (1) d_LW_law_369 (by decide +kernel) (by unfold mv_r; omega) ?_
  refine mx_iadd d_LW_law_370 (by unfold mv_r; omega) ?_
  refine mx_iald d_LW_law_371 hs (by omega) (by omega) ?_
  refine mx_cV1 d_LW_law_372 c_LW_60 hO (by decide) (Nat.le_of_ble_eq_true rfl) ?_
  refine bf_blockOf hO hBx n1 hPB (fun x1 => ?_) (fun x1 => ?_)
  · skip
    refine mx_aload_n d_LW_law_375 rfl (by omega) ?_
    refine mx_aload_n d_LW_law_376 rfl (by omega) ?_
    refine mx_iload_n d_LW_law_377 rfl ?_
    refine mx_iconst (1) d_LW_law_378 (by decide +kernel) (by unfold mv_r; omega) ?_
    refine mx_iadd d_LW_law_379 (by unfold mv_r; omega) ?_
    refine mx_iald d_LW_law_380 hs (by omega) (by omega) ?_
    refine mx_cV1 d_LW_law_381 c_LW_63 hRO (by decide) (Nat.le_of_ble_eq_true rfl) ?_
    refine rf_blockOf hRO g58 g63 n1 (p := PB (f (i + 1))) (fun a0 a1 _ => by have := hP.2.1 _ a0 a1; exact ⟨this.1, by omega, this.2.2⟩) (fun M' e hO' x2 => ?_) (fun M' e hO' x2 y2 => ?_) (fun M' e hO' x2 y2 l l0 l1 l2 => ?_)
    · skip
      exact absurd x1 x2
    · skip
      refine la_eq 415 d_LW_law_384 (by decide) (hP.2.2.1 _ y2 x1.2) ?_
      exact k M' ⟨by rw [e 1 (by omega)]; exact hs, _, _, _, _, _, _, _, _, _, _, _, _, _, _, _, _, _, _, _, _, _, _, _, _, _, _, _, _, _, _, _, _, _, _, _, _, _, _, _, _, _, _, _, _, _, _, _, hC0.of (fun j hj => e j (by omega)), hR0.co hO' (fun j hj => e j (by omega)), hN, hB, hF0, hP⟩
    · skip
      refine la_eq 415 d_LW_law_384 (by decide) (by
        obtain ⟨a1, a2, a3⟩ := hP.2.1 _ x1.1 y2
        exact hP.2.2.2 _ _ a1 a2 l0 (by omega) (by rw [a3, l2])) ?_
      exact k M' ⟨by rw [e 1 (by omega)]; exact hs, _, _, _, _, _, _, _, _, _, _, _, _, _, _, _, _, _, _, _, _, _, _, _, _, _, _, _, _, _, _, _, _, _, _, _, _, _, _, _, _, _, _, _, _, _, _, _, hC0.of (fun j hj => e j (by omega)), hR0.co hO' (fun j hj => e j (by omega)), hN, hB, hF0, hP⟩
  · skip
    refine mx_aload_n d_LW_law_375 rfl (by omega) ?_
    refine mx_aload_n d_LW_law_376 rfl (by omega) ?_
    refine mx_iload_n d_LW_law_377 rfl ?_
    refine mx_iconst (1) d_LW_law_378 (by decide +kernel) (by unfold mv_r; omega) ?_
    refine mx_iadd d_LW_law_379 (by unfold mv_r; omega) ?_
    refine mx_iald d_LW_law_380 hs (by omega) (by omega) ?_
    refine mx_cV1 d_LW_law_381 c_LW_63 hRO (by decide) (Nat.le_of_ble_eq_true rfl) ?_
    refine rf_blockOf hRO g58 g63 n1 (p := PB (f (i + 1))) (fun a0 a1 _ => by have := hP.2.1 _ a0 a1; exact ⟨this.1, by omega, this.2.2⟩) (fun M' e hO' x2 => ?_) (fun M' e hO' x2 y2 => ?_) (fun M' e hO' x2 y2 l l0 l1 l2 => ?_)
    · skip
      refine la_eq 415 d_LW_law_384 (by decide) rfl ?_
      exact k M' ⟨by rw [e 1 (by omega)]; exact hs, _, _, _, _, _, _, _, _, _, _, _, _, _, _, _, _, _, _, _, _, _, _, _, _, _, _, _, _, _, _, _, _, _, _, _, _, _, _, _, _, _, _, _, _, _, _, _, hC0.of (fun j hj => e j (by omega)), hR0.co hO' (fun j hj => e j (by omega)), hN, hB, hF0, hP⟩
    · skip
      exact absurd x2 x1
    · skip
      exact absurd x2 x1
theorem la_c10 {Q : List mv_V → mv_M → Prop} {M : mv_M} {L : Nat} {f : Int → Int} {i : Int} {bu : Nat × Nat} (hI : la_I L f M) (i0 : 2 ≤ i) (i1 : i + 5 ≤ (L : Int)) (hL : (L : Int) ≤ 2562) (hr : ∀ j, mv_r (f j)) (k : ∀ M', la_I L f M' → mv_W md_law 415 [.inr 1, .inr 2, .inr 47, .inl i] [] M' bu Q) : mv_W md_law 402 [.inr 1, .inr 2, .inr 47, .inl i] [] M bu Q := by
  obtain ⟨hs, W, H, t, nb, BL, BU, BR, BD, np, NL, NU, NR, ND, nl, LL, LU, LR, LD, LP, LM, LO, nk, KL, KU, KR, KD, KP, KZ, KG, KO, BS, HB, LB, PB, fo, se, B, N, K, O, KB, X, XL, XB, Z, IB, PR, hC, hR, hN, hB, hF, hP⟩ := hI
  have hC0 := hC
  obtain ⟨hO, hBx, hPn, ⟨m1, c1, s1, hS1⟩, ⟨m2, c2, s2, hS2⟩, ⟨m3, c3, s3, hS3⟩, ⟨LG, LX, hLn⟩, ⟨KM, KX, hBk⟩, h3, hPB⟩ := hC
  have hR0 := hR
  obtain ⟨⟨co, wy, lc, ow, hRO⟩, g48, g49, ⟨q50, g50⟩, ⟨q51, g51⟩, ⟨q52, g52⟩, ⟨q53, g53⟩, g54, ⟨q55, g55⟩, g56, g57, g58, g59, g60, g61, g62, g63⟩ := hR
  obtain ⟨⟨w1, w2, v1, v2⟩, ⟨n0, n1, p0, p1⟩, ht, hfo, hfk⟩ := hN
  have hN : la_N W H nb np t fo nk := ⟨⟨w1, w2, v1, v2⟩, ⟨n0, n1, p0, p1⟩, ht, hfo, hfk⟩
  obtain ⟨b1, b2, b3, b4⟩ := hB
  have hB : bf_ok nb BL BU BR BD ∧ bf_ok np NL NU NR ND ∧ eq_b nb BL BU BR BD B ∧ eq_b np NL NU NR ND N := ⟨b1, b2, b3, b4⟩
  have hF0 := hF
  obtain ⟨⟨nl0, nl1, nk0, nk1⟩, fl, fk, fB, fL, fHB, fPR, fZ⟩ := hF
  have hko : ∀ p, 0 ≤ p → p < nk → 0 ≤ KO p ∧ KO p < nk := fun p a0 a1 => (fB p a0 a1).1.1
  have hoo : ∀ p, 0 ≤ p → p < nk → 0 ≤ O p ∧ O p < nk := fun p a0 a1 => (fB p a0 a1).1.2
  have hlo : ∀ p, 0 ≤ p → p < nl → 0 ≤ LO p ∧ LO p < nl := fun p a0 a1 => (fL p a0 a1).1
  have hxb : ∀ p, 0 ≤ p → p < nl → 0 ≤ XB p ∧ XB p ≤ 64 := fun p a0 a1 => (fL p a0 a1).2.2.2.2.1
  refine mx_aload_n d_LW_law_402 rfl (by omega) ?_
  refine mx_cV0 d_LW_law_403 c_LW_68 hO (by decide) (Nat.le_of_ble_eq_true rfl) ?_
  refine bf_clear hO hBx (fun M1 e1 hBx1 => ?_)
  have hRO1 : rf_O M1 co W H nb np wy lc fo t nk nl se ow := by unfold rf_O; rw [e1 47 (by omega)]; exact hRO
  refine mx_aload_n d_LW_law_406 rfl (by omega) ?_
  refine mx_cV0 d_LW_law_407 c_LW_71 hRO1 (by decide) (Nat.le_of_ble_eq_true rfl) ?_
  refine rf_clear hRO1 (fun M' e hO' => ?_)
  refine la_eq 415 d_LW_law_410 (by decide) rfl ?_
  have e2 : ∀ j, j ≠ 47 → (j < 3 ∨ 8 ≤ j) → M'.2 j = M.2 j := fun j hj hj2 => by rw [e j hj, e1 j hj2]
  have eC : ∀ j, j < 47 → M'.2 j = M1.2 j := fun j hj => e j (by omega)
  refine k M' ⟨by rw [e2 1 (by omega) (by omega)]; exact hs, _, _, _, _, _, _, _, _, _, _, _, _, _, _, _, _, _, _, _, _, _, _, _, _, _, _, _, _, _, _, _, _, _, _, _, _, _, _, _, _, _, _, _, _, _, _, _, ⟨hO.of (e2 2 (by omega) (by omega)), hBx1.cg (fun j _ hj => eC j (by omega)), hPn.cg (fun j _ hj => e2 j (by omega) (by omega)), ⟨_, _, _, hS1.cg (fun j _ hj => e2 j (by omega) (by omega))⟩, ⟨_, _, _, hS2.cg (fun j _ hj => e2 j (by omega) (by omega))⟩, ⟨_, _, _, hS3.cg (fun j _ hj => e2 j (by omega) (by omega))⟩, ⟨_, _, hLn.cg (fun j _ hj => e2 j (by omega) (by omega))⟩, ⟨_, _, hBk.cg (fun j _ hj => e2 j (by omega) (by omega))⟩, ⟨by rw [e2 43 (by omega) (by omega)]; exact h3.1, by rw [e2 44 (by omega) (by omega)]; exact h3.2.1, by rw [e2 45 (by omega) (by omega)]; exact h3.2.2⟩, by rw [e2 46 (by omega) (by omega)]; exact hPB⟩, hR0.co hO' (fun j hj => e2 j (by omega) (by omega)), ⟨⟨w1, w2, v1, v2⟩, ⟨by omega, by omega, p0, p1⟩, ht, hfo, hfk⟩, ⟨fun j _ _ => by omega, b2, fun j _ _ => by omega, b4⟩, hF0, by omega, fun i _ _ => by omega, fun i _ _ => by omega, hP.2.2.2⟩
theorem la_c0 {Q : List mv_V → mv_M → Prop} {M : mv_M} {L : Nat} {f : Int → Int} {i : Int} {bu : Nat × Nat} (hI : la_I L f M) (i0 : 2 ≤ i) (i1 : i + 5 ≤ (L : Int)) (hL : (L : Int) ≤ 2562) (hr : ∀ j, mv_r (f j)) (k : ∀ M', la_I L f M' → mv_W md_law 415 [.inr 1, .inr 2, .inr 47, .inl i] [] M' bu Q) : mv_W md_law 112 [.inr 1, .inr 2, .inr 47, .inl i] [] M bu Q := by
  obtain ⟨hs, W, H, t, nb, BL, BU, BR, BD, np, NL, NU, NR, ND, nl, LL, LU, LR, LD, LP, LM, LO, nk, KL, KU, KR, KD, KP, KZ, KG, KO, BS, HB, LB, PB, fo, se, B, N, K, O, KB, X, XL, XB, Z, IB, PR, hC, hR, hN, hB, hF, hP⟩ := hI
  have hC0 := hC
  obtain ⟨hO, hBx, hPn, ⟨m1, c1, s1, hS1⟩, ⟨m2, c2, s2, hS2⟩, ⟨m3, c3, s3, hS3⟩, ⟨LG, LX, hLn⟩, ⟨KM, KX, hBk⟩, h3, hPB⟩ := hC
  have hR0 := hR
  obtain ⟨⟨co, wy, lc, ow, hRO⟩, g48, g49, ⟨q50, g50⟩, ⟨q51, g51⟩, ⟨q52, g52⟩, ⟨q53, g53⟩, g54, ⟨q55, g55⟩, g56, g57, g58, g59, g60, g61, g62, g63⟩ := hR
  obtain ⟨⟨w1, w2, v1, v2⟩, ⟨n0, n1, p0, p1⟩, ht, hfo, hfk⟩ := hN
  have hN : la_N W H nb np t fo nk := ⟨⟨w1, w2, v1, v2⟩, ⟨n0, n1, p0, p1⟩, ht, hfo, hfk⟩
  obtain ⟨b1, b2, b3, b4⟩ := hB
  have hB : bf_ok nb BL BU BR BD ∧ bf_ok np NL NU NR ND ∧ eq_b nb BL BU BR BD B ∧ eq_b np NL NU NR ND N := ⟨b1, b2, b3, b4⟩
  have hF0 := hF
  obtain ⟨⟨nl0, nl1, nk0, nk1⟩, fl, fk, fB, fL, fHB, fPR, fZ⟩ := hF
  have hko : ∀ p, 0 ≤ p → p < nk → 0 ≤ KO p ∧ KO p < nk := fun p a0 a1 => (fB p a0 a1).1.1
  have hoo : ∀ p, 0 ≤ p → p < nk → 0 ≤ O p ∧ O p < nk := fun p a0 a1 => (fB p a0 a1).1.2
  have hlo : ∀ p, 0 ≤ p → p < nl → 0 ≤ LO p ∧ LO p < nl := fun p a0 a1 => (fL p a0 a1).1
  have hxb : ∀ p, 0 ≤ p → p < nl → 0 ≤ XB p ∧ XB p ≤ 64 := fun p a0 a1 => (fL p a0 a1).2.2.2.2.1
  refine mx_aload_n d_LW_law_112 rfl (by omega) ?_
  refine mx_aload_n d_LW_law_113 rfl (by omega) ?_
  refine mx_iload_n d_LW_law_114 rfl ?_
  refine mx_iconst (1) d_LW_law_115 (by decide +kernel) (by unfold mv_r; omega) ?_
  refine mx_iadd d_LW_law_116 (by unfold mv_r; omega) ?_
  refine mx_iald d_LW_law_117 hs (by omega) (by omega) ?_
  refine mx_aload_n d_LW_law_118 rfl (by omega) ?_
  refine mx_iload_n d_LW_law_119 rfl ?_
  refine mx_iconst (2) d_LW_law_120 (by decide +kernel) (by unfold mv_r; omega) ?_
  refine mx_iadd d_LW_law_121 (by unfold mv_r; omega) ?_
  refine mx_iald d_LW_law_122 hs (by omega) (by omega) ?_
  refine mx_aload_n d_LW_law_123 rfl (by omega) ?_
  refine mx_iload_n d_LW_law_124 rfl ?_
  refine mx_iconst (3) d_LW_law_125 (by decide +kernel) (by unfold mv_r; omega) ?_
  refine mx_iadd d_LW_law_126 (by unfold mv_r; omega) ?_
  refine mx_iald d_LW_law_127 hs (by omega) (by omega) ?_
  refine mx_aload_n d_LW_law_128 rfl (by omega) ?_
  refine mx_iload_n d_LW_law_129 rfl ?_
  refine mx_iconst (4) d_LW_law_130 (by decide +kernel) (by unfold mv_r; omega) ?_
  refine mx_iadd d_LW_law_131 (by unfold mv_r; omega) ?_
  refine mx_iald d_LW_law_132 hs (by omega) (by omega) ?_
  refine mx_cV4 d_LW_law_133 c_LW_21 hO (by decide) (Nat.le_of_ble_eq_true rfl) ?_
  refine bf_box hO w1 w2 v1 v2 hBx n0 n1 hPB (hr _) (hr _) (fun x1 => ?_) (fun x1 y1 => ?_) (fun M1 x1 y1 e1 hBx1 hPB1 => ?_)
  · skip
    refine mx_aload_n d_LW_law_136 rfl (by omega) ?_
    refine mx_aload_n d_LW_law_137 rfl (by omega) ?_
    refine mx_iload_n d_LW_law_138 rfl ?_
    refine mx_iconst (1) d_LW_law_139 (by decide +kernel) (by unfold mv_r; omega) ?_
    refine mx_iadd d_LW_law_140 (by unfold mv_r; omega) ?_
    refine mx_iald d_LW_law_141 hs (by omega) (by omega) ?_
    refine mx_aload_n d_LW_law_142 rfl (by omega) ?_
    refine mx_iload_n d_LW_law_143 rfl ?_
    refine mx_iconst (2) d_LW_law_144 (by decide +kernel) (by unfold mv_r; omega) ?_
    refine mx_iadd d_LW_law_145 (by unfold mv_r; omega) ?_
    refine mx_iald d_LW_law_146 hs (by omega) (by omega) ?_
    refine mx_aload_n d_LW_law_147 rfl (by omega) ?_
    refine mx_iload_n d_LW_law_148 rfl ?_
    refine mx_iconst (3) d_LW_law_149 (by decide +kernel) (by unfold mv_r; omega) ?_
    refine mx_iadd d_LW_law_150 (by unfold mv_r; omega) ?_
    refine mx_iald d_LW_law_151 hs (by omega) (by omega) ?_
    refine mx_aload_n d_LW_law_152 rfl (by omega) ?_
    refine mx_iload_n d_LW_law_153 rfl ?_
    refine mx_iconst (4) d_LW_law_154 (by decide +kernel) (by unfold mv_r; omega) ?_
    refine mx_iadd d_LW_law_155 (by unfold mv_r; omega) ?_
    refine mx_iald d_LW_law_156 hs (by omega) (by omega) ?_
    refine mx_cV4 d_LW_law_157 c_LW_25 hRO (by decide) (Nat.le_of_ble_eq_true rfl) ?_
    refine rf_box hRO g48 w1 w2 v1 v2 n0 n1 (fun M' e hO' x2 => ?_) (fun M' e hO' x2 y2 => ?_) (fun M' e hO' x2 y2 g2 => ?_)
    · skip
      refine la_eq 415 d_LW_law_160 (by decide) rfl ?_
      exact k M' ⟨by rw [e 1 (by omega)]; exact hs, _, _, _, _, _, _, _, _, _, _, _, _, _, _, _, _, _, _, _, _, _, _, _, _, _, _, _, _, _, _, _, _, _, _, _, _, _, _, _, _, _, _, _, _, _, _, _, hC0.of (fun j hj => e j (by omega)), hR0.co hO' (fun j hj => e j (by omega)), hN, hB, hF0, hP⟩
    · skip
      exact absurd x2 x1
    · skip
      exact absurd x2 x1
  · skip
    refine mx_aload_n d_LW_law_136 rfl (by omega) ?_
    refine mx_aload_n d_LW_law_137 rfl (by omega) ?_
    refine mx_iload_n d_LW_law_138 rfl ?_
    refine mx_iconst (1) d_LW_law_139 (by decide +kernel) (by unfold mv_r; omega) ?_
    refine mx_iadd d_LW_law_140 (by unfold mv_r; omega) ?_
    refine mx_iald d_LW_law_141 hs (by omega) (by omega) ?_
    refine mx_aload_n d_LW_law_142 rfl (by omega) ?_
    refine mx_iload_n d_LW_law_143 rfl ?_
    refine mx_iconst (2) d_LW_law_144 (by decide +kernel) (by unfold mv_r; omega) ?_
    refine mx_iadd d_LW_law_145 (by unfold mv_r; omega) ?_
    refine mx_iald d_LW_law_146 hs (by omega) (by omega) ?_
    refine mx_aload_n d_LW_law_147 rfl (by omega) ?_
    refine mx_iload_n d_LW_law_148 rfl ?_
    refine mx_iconst (3) d_LW_law_149 (by decide +kernel) (by unfold mv_r; omega) ?_
    refine mx_iadd d_LW_law_150 (by unfold mv_r; omega) ?_
    refine mx_iald d_LW_law_151 hs (by omega) (by omega) ?_
    refine mx_aload_n d_LW_law_152 rfl (by omega) ?_
    refine mx_iload_n d_LW_law_153 rfl ?_
    refine mx_iconst (4) d_LW_law_154 (by decide +kernel) (by unfold mv_r; omega) ?_
    refine mx_iadd d_LW_law_155 (by unfold mv_r; omega) ?_
    refine mx_iald d_LW_law_156 hs (by omega) (by omega) ?_
    refine mx_cV4 d_LW_law_157 c_LW_25 hRO (by decide) (Nat.le_of_ble_eq_true rfl) ?_
    refine rf_box hRO g48 w1 w2 v1 v2 n0 n1 (fun M' e hO' x2 => ?_) (fun M' e hO' x2 y2 => ?_) (fun M' e hO' x2 y2 g2 => ?_)
    · skip
      exact absurd x1 x2
    · skip
      refine la_eq 415 d_LW_law_160 (by decide) rfl ?_
      exact k M' ⟨by rw [e 1 (by omega)]; exact hs, _, _, _, _, _, _, _, _, _, _, _, _, _, _, _, _, _, _, _, _, _, _, _, _, _, _, _, _, _, _, _, _, _, _, _, _, _, _, _, _, _, _, _, _, _, _, _, hC0.of (fun j hj => e j (by omega)), hR0.co hO' (fun j hj => e j (by omega)), hN, hB, hF0, hP⟩
    · skip
      exfalso; omega
  · skip
    have hRO1 : rf_O M1 co W H nb np wy lc fo t nk nl se ow := by unfold rf_O; rw [e1 47 (by omega)]; exact hRO
    have g1 : M1.2 48 = .inl (256, B) := by rw [e1 48 (by omega)]; exact g48
    refine mx_aload_n d_LW_law_136 rfl (by omega) ?_
    refine mx_aload_n d_LW_law_137 rfl (by omega) ?_
    refine mx_iload_n d_LW_law_138 rfl ?_
    refine mx_iconst (1) d_LW_law_139 (by decide +kernel) (by unfold mv_r; omega) ?_
    refine mx_iadd d_LW_law_140 (by unfold mv_r; omega) ?_
    refine mx_iald d_LW_law_141 (by rw [e1 1 (by omega)]; exact hs) (by omega) (by omega) ?_
    refine mx_aload_n d_LW_law_142 rfl (by omega) ?_
    refine mx_iload_n d_LW_law_143 rfl ?_
    refine mx_iconst (2) d_LW_law_144 (by decide +kernel) (by unfold mv_r; omega) ?_
    refine mx_iadd d_LW_law_145 (by unfold mv_r; omega) ?_
    refine mx_iald d_LW_law_146 (by rw [e1 1 (by omega)]; exact hs) (by omega) (by omega) ?_
    refine mx_aload_n d_LW_law_147 rfl (by omega) ?_
    refine mx_iload_n d_LW_law_148 rfl ?_
    refine mx_iconst (3) d_LW_law_149 (by decide +kernel) (by unfold mv_r; omega) ?_
    refine mx_iadd d_LW_law_150 (by unfold mv_r; omega) ?_
    refine mx_iald d_LW_law_151 (by rw [e1 1 (by omega)]; exact hs) (by omega) (by omega) ?_
    refine mx_aload_n d_LW_law_152 rfl (by omega) ?_
    refine mx_iload_n d_LW_law_153 rfl ?_
    refine mx_iconst (4) d_LW_law_154 (by decide +kernel) (by unfold mv_r; omega) ?_
    refine mx_iadd d_LW_law_155 (by unfold mv_r; omega) ?_
    refine mx_iald d_LW_law_156 (by rw [e1 1 (by omega)]; exact hs) (by omega) (by omega) ?_
    refine mx_cV4 d_LW_law_157 c_LW_25 hRO1 (by decide) (Nat.le_of_ble_eq_true rfl) ?_
    refine rf_box hRO1 g1 w1 w2 v1 v2 n0 n1 (fun M' e hO' x2 => ?_) (fun M' e hO' x2 y2 => ?_) (fun M' e hO' x2 y2 g2 => ?_)
    · skip
      exact absurd x1 x2
    · skip
      exfalso; omega
    · skip
      refine la_eq 415 d_LW_law_160 (by decide) rfl ?_
      have eA : ∀ j, j ≠ 47 → j ≠ 48 → (j < 3 ∨ (8 ≤ j ∧ j ≠ 46)) → M'.2 j = M.2 j := fun j a1 a2 a3 => by rw [e j a1 a2, e1 j a3]
      exact k M' ⟨by rw [eA 1 (by omega) (by omega) (by omega)]; exact hs, _, _, _, _, _, _, _, _, _, _, _, _, _, _, _, _, _, _, _, _, _, _, _, _, _, _, _, _, _, _, _, _, _, _, _, _, _, _, _, _, _, _, _, _, _, _, _, ⟨hO.of (eA 2 (by omega) (by omega) (by omega)), hBx1.cg (fun j _ hj => e j (by omega) (by omega)), hPn.cg (fun j _ hj => eA j (by omega) (by omega) (by omega)), ⟨_, _, _, hS1.cg (fun j _ hj => eA j (by omega) (by omega) (by omega))⟩, ⟨_, _, _, hS2.cg (fun j _ hj => eA j (by omega) (by omega) (by omega))⟩, ⟨_, _, _, hS3.cg (fun j _ hj => eA j (by omega) (by omega) (by omega))⟩, ⟨_, _, hLn.cg (fun j _ hj => eA j (by omega) (by omega) (by omega))⟩, ⟨_, _, hBk.cg (fun j _ hj => eA j (by omega) (by omega) (by omega))⟩, ⟨by rw [eA 43 (by omega) (by omega) (by omega)]; exact h3.1, by rw [eA 44 (by omega) (by omega) (by omega)]; exact h3.2.1, by rw [eA 45 (by omega) (by omega) (by omega)]; exact h3.2.2⟩, by rw [e 46 (by omega) (by omega)]; exact hPB1⟩, ⟨⟨_, _, _, _, hO'⟩, g2, by rw [eA 49 (by omega) (by omega) (by omega)]; exact g49, ⟨_, by rw [eA 50 (by omega) (by omega) (by omega)]; exact g50⟩, ⟨_, by rw [eA 51 (by omega) (by omega) (by omega)]; exact g51⟩, ⟨_, by rw [eA 52 (by omega) (by omega) (by omega)]; exact g52⟩, ⟨_, by rw [eA 53 (by omega) (by omega) (by omega)]; exact g53⟩, by rw [eA 54 (by omega) (by omega) (by omega)]; exact g54, ⟨_, by rw [eA 55 (by omega) (by omega) (by omega)]; exact g55⟩, by rw [eA 56 (by omega) (by omega) (by omega)]; exact g56, by rw [eA 57 (by omega) (by omega) (by omega)]; exact g57, by rw [eA 58 (by omega) (by omega) (by omega)]; exact g58, by rw [eA 59 (by omega) (by omega) (by omega)]; exact g59, by rw [eA 60 (by omega) (by omega) (by omega)]; exact g60, by rw [eA 61 (by omega) (by omega) (by omega)]; exact g61, by rw [eA 62 (by omega) (by omega) (by omega)]; exact g62, by rw [eA 63 (by omega) (by omega) (by omega)]; exact g63⟩, ⟨⟨w1, w2, v1, v2⟩, ⟨by omega, by omega, by omega, by omega⟩, ht, hfo, hfk⟩, ⟨bf_ok_s b1 x1 w2 v2, b2, eq_b_s b3, b4⟩, hF0, eq_pl_s hP⟩
theorem la_c1 {Q : List mv_V → mv_M → Prop} {M : mv_M} {L : Nat} {f : Int → Int} {i : Int} {bu : Nat × Nat} (hI : la_I L f M) (i0 : 2 ≤ i) (i1 : i + 5 ≤ (L : Int)) (hL : (L : Int) ≤ 2562) (hr : ∀ j, mv_r (f j)) (k : ∀ M', la_I L f M' → mv_W md_law 415 [.inr 1, .inr 2, .inr 47, .inl i] [] M' bu Q) : mv_W md_law 165 [.inr 1, .inr 2, .inr 47, .inl i] [] M bu Q := by
  obtain ⟨hs, W, H, t, nb, BL, BU, BR, BD, np, NL, NU, NR, ND, nl, LL, LU, LR, LD, LP, LM, LO, nk, KL, KU, KR, KD, KP, KZ, KG, KO, BS, HB, LB, PB, fo, se, B, N, K, O, KB, X, XL, XB, Z, IB, PR, hC, hR, hN, hB, hF, hP⟩ := hI
  have hC0 := hC
  obtain ⟨hO, hBx, hPn, ⟨m1, c1, s1, hS1⟩, ⟨m2, c2, s2, hS2⟩, ⟨m3, c3, s3, hS3⟩, ⟨LG, LX, hLn⟩, ⟨KM, KX, hBk⟩, h3, hPB⟩ := hC
  have hR0 := hR
  obtain ⟨⟨co, wy, lc, ow, hRO⟩, g48, g49, ⟨q50, g50⟩, ⟨q51, g51⟩, ⟨q52, g52⟩, ⟨q53, g53⟩, g54, ⟨q55, g55⟩, g56, g57, g58, g59, g60, g61, g62, g63⟩ := hR
  obtain ⟨⟨w1, w2, v1, v2⟩, ⟨n0, n1, p0, p1⟩, ht, hfo, hfk⟩ := hN
  have hN : la_N W H nb np t fo nk := ⟨⟨w1, w2, v1, v2⟩, ⟨n0, n1, p0, p1⟩, ht, hfo, hfk⟩
  obtain ⟨b1, b2, b3, b4⟩ := hB
  have hB : bf_ok nb BL BU BR BD ∧ bf_ok np NL NU NR ND ∧ eq_b nb BL BU BR BD B ∧ eq_b np NL NU NR ND N := ⟨b1, b2, b3, b4⟩
  have hF0 := hF
  obtain ⟨⟨nl0, nl1, nk0, nk1⟩, fl, fk, fB, fL, fHB, fPR, fZ⟩ := hF
  have hko : ∀ p, 0 ≤ p → p < nk → 0 ≤ KO p ∧ KO p < nk := fun p a0 a1 => (fB p a0 a1).1.1
  have hoo : ∀ p, 0 ≤ p → p < nk → 0 ≤ O p ∧ O p < nk := fun p a0 a1 => (fB p a0 a1).1.2
  have hlo : ∀ p, 0 ≤ p → p < nl → 0 ≤ LO p ∧ LO p < nl := fun p a0 a1 => (fL p a0 a1).1
  have hxb : ∀ p, 0 ≤ p → p < nl → 0 ≤ XB p ∧ XB p ≤ 64 := fun p a0 a1 => (fL p a0 a1).2.2.2.2.1
  refine mx_aload_n d_LW_law_165 rfl (by omega) ?_
  refine mx_aload_n d_LW_law_166 rfl (by omega) ?_
  refine mx_iload_n d_LW_law_167 rfl ?_
  refine mx_iconst (1) d_LW_law_168 (by decide +kernel) (by unfold mv_r; omega) ?_
  refine mx_iadd d_LW_law_169 (by unfold mv_r; omega) ?_
  refine mx_iald d_LW_law_170 hs (by omega) (by omega) ?_
  refine mx_aload_n d_LW_law_171 rfl (by omega) ?_
  refine mx_iload_n d_LW_law_172 rfl ?_
  refine mx_iconst (2) d_LW_law_173 (by decide +kernel) (by unfold mv_r; omega) ?_
  refine mx_iadd d_LW_law_174 (by unfold mv_r; omega) ?_
  refine mx_iald d_LW_law_175 hs (by omega) (by omega) ?_
  refine mx_aload_n d_LW_law_176 rfl (by omega) ?_
  refine mx_iload_n d_LW_law_177 rfl ?_
  refine mx_iconst (3) d_LW_law_178 (by decide +kernel) (by unfold mv_r; omega) ?_
  refine mx_iadd d_LW_law_179 (by unfold mv_r; omega) ?_
  refine mx_iald d_LW_law_180 hs (by omega) (by omega) ?_
  refine mx_aload_n d_LW_law_181 rfl (by omega) ?_
  refine mx_iload_n d_LW_law_182 rfl ?_
  refine mx_iconst (4) d_LW_law_183 (by decide +kernel) (by unfold mv_r; omega) ?_
  refine mx_iadd d_LW_law_184 (by unfold mv_r; omega) ?_
  refine mx_iald d_LW_law_185 hs (by omega) (by omega) ?_
  refine mx_cV4 d_LW_law_186 c_LW_26 hO (by decide) (Nat.le_of_ble_eq_true rfl) ?_
  refine bf_frame hO w1 w2 v1 v2 hPn p0 (hr _) (hr _) (fun x1 => ?_) (fun x1 y1 => ?_) (fun M1 x1 y1 e1 hPn1 => ?_)
  · skip
    refine mx_aload_n d_LW_law_189 rfl (by omega) ?_
    refine mx_aload_n d_LW_law_190 rfl (by omega) ?_
    refine mx_iload_n d_LW_law_191 rfl ?_
    refine mx_iconst (1) d_LW_law_192 (by decide +kernel) (by unfold mv_r; omega) ?_
    refine mx_iadd d_LW_law_193 (by unfold mv_r; omega) ?_
    refine mx_iald d_LW_law_194 hs (by omega) (by omega) ?_
    refine mx_aload_n d_LW_law_195 rfl (by omega) ?_
    refine mx_iload_n d_LW_law_196 rfl ?_
    refine mx_iconst (2) d_LW_law_197 (by decide +kernel) (by unfold mv_r; omega) ?_
    refine mx_iadd d_LW_law_198 (by unfold mv_r; omega) ?_
    refine mx_iald d_LW_law_199 hs (by omega) (by omega) ?_
    refine mx_aload_n d_LW_law_200 rfl (by omega) ?_
    refine mx_iload_n d_LW_law_201 rfl ?_
    refine mx_iconst (3) d_LW_law_202 (by decide +kernel) (by unfold mv_r; omega) ?_
    refine mx_iadd d_LW_law_203 (by unfold mv_r; omega) ?_
    refine mx_iald d_LW_law_204 hs (by omega) (by omega) ?_
    refine mx_aload_n d_LW_law_205 rfl (by omega) ?_
    refine mx_iload_n d_LW_law_206 rfl ?_
    refine mx_iconst (4) d_LW_law_207 (by decide +kernel) (by unfold mv_r; omega) ?_
    refine mx_iadd d_LW_law_208 (by unfold mv_r; omega) ?_
    refine mx_iald d_LW_law_209 hs (by omega) (by omega) ?_
    refine mx_cV4 d_LW_law_210 c_LW_29 hRO (by decide) (Nat.le_of_ble_eq_true rfl) ?_
    refine rf_frame hRO g49 w1 w2 v1 v2 p0 p1 (fun M' e hO' x2 => ?_) (fun M' e hO' x2 y2 => ?_) (fun M' e hO' x2 y2 g2 => ?_)
    · skip
      refine la_eq 415 d_LW_law_213 (by decide) rfl ?_
      exact k M' ⟨by rw [e 1 (by omega)]; exact hs, _, _, _, _, _, _, _, _, _, _, _, _, _, _, _, _, _, _, _, _, _, _, _, _, _, _, _, _, _, _, _, _, _, _, _, _, _, _, _, _, _, _, _, _, _, _, _, hC0.of (fun j hj => e j (by omega)), hR0.co hO' (fun j hj => e j (by omega)), hN, hB, hF0, hP⟩
    · skip
      exact absurd x2 x1
    · skip
      exact absurd x2 x1
  · skip
    refine mx_aload_n d_LW_law_189 rfl (by omega) ?_
    refine mx_aload_n d_LW_law_190 rfl (by omega) ?_
    refine mx_iload_n d_LW_law_191 rfl ?_
    refine mx_iconst (1) d_LW_law_192 (by decide +kernel) (by unfold mv_r; omega) ?_
    refine mx_iadd d_LW_law_193 (by unfold mv_r; omega) ?_
    refine mx_iald d_LW_law_194 hs (by omega) (by omega) ?_
    refine mx_aload_n d_LW_law_195 rfl (by omega) ?_
    refine mx_iload_n d_LW_law_196 rfl ?_
    refine mx_iconst (2) d_LW_law_197 (by decide +kernel) (by unfold mv_r; omega) ?_
    refine mx_iadd d_LW_law_198 (by unfold mv_r; omega) ?_
    refine mx_iald d_LW_law_199 hs (by omega) (by omega) ?_
    refine mx_aload_n d_LW_law_200 rfl (by omega) ?_
    refine mx_iload_n d_LW_law_201 rfl ?_
    refine mx_iconst (3) d_LW_law_202 (by decide +kernel) (by unfold mv_r; omega) ?_
    refine mx_iadd d_LW_law_203 (by unfold mv_r; omega) ?_
    refine mx_iald d_LW_law_204 hs (by omega) (by omega) ?_
    refine mx_aload_n d_LW_law_205 rfl (by omega) ?_
    refine mx_iload_n d_LW_law_206 rfl ?_
    refine mx_iconst (4) d_LW_law_207 (by decide +kernel) (by unfold mv_r; omega) ?_
    refine mx_iadd d_LW_law_208 (by unfold mv_r; omega) ?_
    refine mx_iald d_LW_law_209 hs (by omega) (by omega) ?_
    refine mx_cV4 d_LW_law_210 c_LW_29 hRO (by decide) (Nat.le_of_ble_eq_true rfl) ?_
    refine rf_frame hRO g49 w1 w2 v1 v2 p0 p1 (fun M' e hO' x2 => ?_) (fun M' e hO' x2 y2 => ?_) (fun M' e hO' x2 y2 g2 => ?_)
    · skip
      exact absurd x1 x2
    · skip
      refine la_eq 415 d_LW_law_213 (by decide) rfl ?_
      exact k M' ⟨by rw [e 1 (by omega)]; exact hs, _, _, _, _, _, _, _, _, _, _, _, _, _, _, _, _, _, _, _, _, _, _, _, _, _, _, _, _, _, _, _, _, _, _, _, _, _, _, _, _, _, _, _, _, _, _, _, hC0.of (fun j hj => e j (by omega)), hR0.co hO' (fun j hj => e j (by omega)), hN, hB, hF0, hP⟩
    · skip
      exfalso; omega
  · skip
    have hRO1 : rf_O M1 co W H nb np wy lc fo t nk nl se ow := by unfold rf_O; rw [e1 47 (by omega)]; exact hRO
    have g1 : M1.2 49 = .inl (32, N) := by rw [e1 49 (by omega)]; exact g49
    refine mx_aload_n d_LW_law_189 rfl (by omega) ?_
    refine mx_aload_n d_LW_law_190 rfl (by omega) ?_
    refine mx_iload_n d_LW_law_191 rfl ?_
    refine mx_iconst (1) d_LW_law_192 (by decide +kernel) (by unfold mv_r; omega) ?_
    refine mx_iadd d_LW_law_193 (by unfold mv_r; omega) ?_
    refine mx_iald d_LW_law_194 (by rw [e1 1 (by omega)]; exact hs) (by omega) (by omega) ?_
    refine mx_aload_n d_LW_law_195 rfl (by omega) ?_
    refine mx_iload_n d_LW_law_196 rfl ?_
    refine mx_iconst (2) d_LW_law_197 (by decide +kernel) (by unfold mv_r; omega) ?_
    refine mx_iadd d_LW_law_198 (by unfold mv_r; omega) ?_
    refine mx_iald d_LW_law_199 (by rw [e1 1 (by omega)]; exact hs) (by omega) (by omega) ?_
    refine mx_aload_n d_LW_law_200 rfl (by omega) ?_
    refine mx_iload_n d_LW_law_201 rfl ?_
    refine mx_iconst (3) d_LW_law_202 (by decide +kernel) (by unfold mv_r; omega) ?_
    refine mx_iadd d_LW_law_203 (by unfold mv_r; omega) ?_
    refine mx_iald d_LW_law_204 (by rw [e1 1 (by omega)]; exact hs) (by omega) (by omega) ?_
    refine mx_aload_n d_LW_law_205 rfl (by omega) ?_
    refine mx_iload_n d_LW_law_206 rfl ?_
    refine mx_iconst (4) d_LW_law_207 (by decide +kernel) (by unfold mv_r; omega) ?_
    refine mx_iadd d_LW_law_208 (by unfold mv_r; omega) ?_
    refine mx_iald d_LW_law_209 (by rw [e1 1 (by omega)]; exact hs) (by omega) (by omega) ?_
    refine mx_cV4 d_LW_law_210 c_LW_29 hRO1 (by decide) (Nat.le_of_ble_eq_true rfl) ?_
    refine rf_frame hRO1 g1 w1 w2 v1 v2 p0 p1 (fun M' e hO' x2 => ?_) (fun M' e hO' x2 y2 => ?_) (fun M' e hO' x2 y2 g2 => ?_)
    · skip
      exact absurd x1 x2
    · skip
      exfalso; omega
    · skip
      refine la_eq 415 d_LW_law_213 (by decide) rfl ?_
      have eA : ∀ j, j ≠ 47 → j ≠ 49 → (j < 8 ∨ 13 ≤ j) → M'.2 j = M.2 j := fun j a1 a2 a3 => by rw [e j a1 a2, e1 j a3]
      exact k M' ⟨by rw [eA 1 (by omega) (by omega) (by omega)]; exact hs, _, _, _, _, _, _, _, _, _, _, _, _, _, _, _, _, _, _, _, _, _, _, _, _, _, _, _, _, _, _, _, _, _, _, _, _, _, _, _, _, _, _, _, _, _, _, _, ⟨hO.of (eA 2 (by omega) (by omega) (by omega)), hBx.cg (fun j _ hj => eA j (by omega) (by omega) (by omega)), hPn1.cg (fun j _ hj => e j (by omega) (by omega)), ⟨_, _, _, hS1.cg (fun j _ hj => eA j (by omega) (by omega) (by omega))⟩, ⟨_, _, _, hS2.cg (fun j _ hj => eA j (by omega) (by omega) (by omega))⟩, ⟨_, _, _, hS3.cg (fun j _ hj => eA j (by omega) (by omega) (by omega))⟩, ⟨_, _, hLn.cg (fun j _ hj => eA j (by omega) (by omega) (by omega))⟩, ⟨_, _, hBk.cg (fun j _ hj => eA j (by omega) (by omega) (by omega))⟩, ⟨by rw [eA 43 (by omega) (by omega) (by omega)]; exact h3.1, by rw [eA 44 (by omega) (by omega) (by omega)]; exact h3.2.1, by rw [eA 45 (by omega) (by omega) (by omega)]; exact h3.2.2⟩, by rw [eA 46 (by omega) (by omega) (by omega)]; exact hPB⟩, ⟨⟨_, _, _, _, hO'⟩, by rw [eA 48 (by omega) (by omega) (by omega)]; exact g48, g2, ⟨_, by rw [eA 50 (by omega) (by omega) (by omega)]; exact g50⟩, ⟨_, by rw [eA 51 (by omega) (by omega) (by omega)]; exact g51⟩, ⟨_, by rw [eA 52 (by omega) (by omega) (by omega)]; exact g52⟩, ⟨_, by rw [eA 53 (by omega) (by omega) (by omega)]; exact g53⟩, by rw [eA 54 (by omega) (by omega) (by omega)]; exact g54, ⟨_, by rw [eA 55 (by omega) (by omega) (by omega)]; exact g55⟩, by rw [eA 56 (by omega) (by omega) (by omega)]; exact g56, by rw [eA 57 (by omega) (by omega) (by omega)]; exact g57, by rw [eA 58 (by omega) (by omega) (by omega)]; exact g58, by rw [eA 59 (by omega) (by omega) (by omega)]; exact g59, by rw [eA 60 (by omega) (by omega) (by omega)]; exact g60, by rw [eA 61 (by omega) (by omega) (by omega)]; exact g61, by rw [eA 62 (by omega) (by omega) (by omega)]; exact g62, by rw [eA 63 (by omega) (by omega) (by omega)]; exact g63⟩, ⟨⟨w1, w2, v1, v2⟩, ⟨by omega, by omega, by omega, by omega⟩, ht, hfo, hfk⟩, ⟨b1, bf_ok_s b2 x1 w2 v2, b3, eq_b_s b4⟩, hF0, hP⟩
theorem la_c2 {Q : List mv_V → mv_M → Prop} {M : mv_M} {L : Nat} {f : Int → Int} {i : Int} {bu : Nat × Nat} (hI : la_I L f M) (i0 : 2 ≤ i) (i1 : i + 5 ≤ (L : Int)) (hL : (L : Int) ≤ 2562) (hr : ∀ j, mv_r (f j)) (k : ∀ M', la_I L f M' → mv_W md_law 415 [.inr 1, .inr 2, .inr 47, .inl i] [] M' bu Q) : mv_W md_law 218 [.inr 1, .inr 2, .inr 47, .inl i] [] M bu Q := by
  obtain ⟨hs, W, H, t, nb, BL, BU, BR, BD, np, NL, NU, NR, ND, nl, LL, LU, LR, LD, LP, LM, LO, nk, KL, KU, KR, KD, KP, KZ, KG, KO, BS, HB, LB, PB, fo, se, B, N, K, O, KB, X, XL, XB, Z, IB, PR, hC, hR, hN, hB, hF, hP⟩ := hI
  have hC0 := hC
  obtain ⟨hO, hBx, hPn, ⟨m1, c1, s1, hS1⟩, ⟨m2, c2, s2, hS2⟩, ⟨m3, c3, s3, hS3⟩, ⟨LG, LX, hLn⟩, ⟨KM, KX, hBk⟩, h3, hPB⟩ := hC
  have hR0 := hR
  obtain ⟨⟨co, wy, lc, ow, hRO⟩, g48, g49, ⟨q50, g50⟩, ⟨q51, g51⟩, ⟨q52, g52⟩, ⟨q53, g53⟩, g54, ⟨q55, g55⟩, g56, g57, g58, g59, g60, g61, g62, g63⟩ := hR
  obtain ⟨⟨w1, w2, v1, v2⟩, ⟨n0, n1, p0, p1⟩, ht, hfo, hfk⟩ := hN
  have hN : la_N W H nb np t fo nk := ⟨⟨w1, w2, v1, v2⟩, ⟨n0, n1, p0, p1⟩, ht, hfo, hfk⟩
  obtain ⟨b1, b2, b3, b4⟩ := hB
  have hB : bf_ok nb BL BU BR BD ∧ bf_ok np NL NU NR ND ∧ eq_b nb BL BU BR BD B ∧ eq_b np NL NU NR ND N := ⟨b1, b2, b3, b4⟩
  have hF0 := hF
  obtain ⟨⟨nl0, nl1, nk0, nk1⟩, fl, fk, fB, fL, fHB, fPR, fZ⟩ := hF
  have hko : ∀ p, 0 ≤ p → p < nk → 0 ≤ KO p ∧ KO p < nk := fun p a0 a1 => (fB p a0 a1).1.1
  have hoo : ∀ p, 0 ≤ p → p < nk → 0 ≤ O p ∧ O p < nk := fun p a0 a1 => (fB p a0 a1).1.2
  have hlo : ∀ p, 0 ≤ p → p < nl → 0 ≤ LO p ∧ LO p < nl := fun p a0 a1 => (fL p a0 a1).1
  have hxb : ∀ p, 0 ≤ p → p < nl → 0 ≤ XB p ∧ XB p ≤ 64 := fun p a0 a1 => (fL p a0 a1).2.2.2.2.1
  refine mx_aload_n d_LW_law_218 rfl (by omega) ?_
  refine mx_cV0 d_LW_law_219 c_LW_30 hO (by decide) (Nat.le_of_ble_eq_true rfl) ?_
  refine bf_find hO hBx b1 n0 n1 hPn p0 p1 w1 w2 v1 v2 hS1 hS2 hS3 hLn hBk h3 hPB (fun M1 t1 ft nl' LL' LU' LR' LD' LP' LM' LG' LO' LX' nk' KL' KU' KR' KD' KP' KM' KZ' KG' KO' KX' BS' HB' LB' PB' e1 hO1 hS1' hS2' hS3' hlab hLn' hBk' h3' hPB' hpb hF2 => ?_)
  have hRO1 : rf_O M1 co W H nb np wy lc fo t nk nl se ow := by unfold rf_O; rw [e1 47 (by omega)]; exact hRO
  refine mx_aload_n d_LW_law_222 rfl (by omega) ?_
  refine mx_cV0 d_LW_law_223 c_LW_34 hRO1 (by decide) (Nat.le_of_ble_eq_true rfl) ?_
  refine rf_find hRO1 w1 w2 v1 v2 n0 n1 p0 p1 (by rw [e1 48 (by omega)]; exact g48) (by rw [e1 49 (by omega)]; exact g49) (by rw [e1 50 (by omega)]; exact g50) (by rw [e1 51 (by omega)]; exact g51) (by rw [e1 52 (by omega)]; exact g52) (by rw [e1 53 (by omega)]; exact g53) (by rw [e1 54 (by omega)]; exact g54) (by rw [e1 55 (by omega)]; exact g55) (by rw [e1 56 (by omega)]; exact g56) (by rw [e1 58 (by omega)]; exact g58) (by rw [e1 59 (by omega)]; exact g59) (by rw [e1 60 (by omega)]; exact g60) (by rw [e1 61 (by omega)]; exact g61) (by rw [e1 62 (by omega)]; exact g62) (by rw [e1 63 (by omega)]; exact g63) (by rw [e1 57 (by omega)]; exact g57) (eq_ok b1 b3) (eq_ok b2 b4) (fun t2 f0 f1 M' lc1 c o f' L' E fb P' RB K' S Z' KB' O' X' XL' XB' IB' PR' hl0 hl1 hc e hO' k50 k51 k52 k53 k54 k55 k56 k57 k58 k59 k60 k61 k62 k63 hF' => ?_)
  obtain ⟨rfl, rfl, rfl, hfr, hpl⟩ := eq_main n0 n1 b1 b3 b4 hlab hF2 hpb hl0 hl1 hc hF'
  refine la_eq 415 d_LW_law_226 (by decide) rfl ?_
  have eC : ∀ j, j < 47 → M'.2 j = M1.2 j := fun j hj => e j (by omega)
  obtain ⟨x1, x2, x3, hS1'⟩ := hS1'
  obtain ⟨y1, y2, y3, hS2'⟩ := hS2'
  obtain ⟨z1, z2, z3, hS3'⟩ := hS3'
  have ht1 : t1 = 0 ∨ t1 = 1 := by omega
  exact k M' ⟨by rw [e 1 (by omega), e1 1 (by omega)]; exact hs, _, _, _, _, _, _, _, _, _, _, _, _, _, _, _, _, _, _, _, _, _, _, _, _, _, _, _, _, _, _, _, _, _, _, _, _, _, _, _, _, _, _, _, _, _, _, _, ⟨hO1.of (eC 2 (by omega)), hBx.cg (fun j _ hj => by rw [eC j (by omega), e1 j (by omega)]), hPn.cg (fun j _ hj => by rw [eC j (by omega), e1 j (by omega)]), ⟨_, _, _, hS1'.cg (fun j _ hj => eC j (by omega))⟩, ⟨_, _, _, hS2'.cg (fun j _ hj => eC j (by omega))⟩, ⟨_, _, _, hS3'.cg (fun j _ hj => eC j (by omega))⟩, ⟨_, _, hLn'.cg (fun j _ hj => eC j (by omega))⟩, ⟨_, _, hBk'.cg (fun j _ hj => eC j (by omega))⟩, ⟨by rw [eC 43 (by omega)]; exact h3'.1, by rw [eC 44 (by omega)]; exact h3'.2.1, by rw [eC 45 (by omega)]; exact h3'.2.2⟩, by rw [eC 46 (by omega)]; exact hPB'⟩, ⟨⟨_, _, _, _, hO'⟩, by rw [e 48 (by omega), e1 48 (by omega)]; exact g48, by rw [e 49 (by omega), e1 49 (by omega)]; exact g49, ⟨_, k50⟩, ⟨_, k51⟩, ⟨_, k52⟩, ⟨_, k53⟩, k54, ⟨_, k55⟩, k56, k57, k58, k59, k60, k61, k62, k63⟩, ⟨⟨w1, w2, v1, v2⟩, ⟨n0, n1, p0, p1⟩, ht1, Or.inr rfl, fun _ => rfl⟩, hB, hfr, hpl⟩
