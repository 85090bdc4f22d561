section LAWC
variable {p : Program} {l : Launch} {e : Env} {s : State} {m : MethodId} {below : List Frame} {meth : Method} {c : Code} {D : va_G} {cA : Nat → ClassId} {σ : Nat → Nat} {b L : Nat} {xs : Nat → Int32} {i cells slots oA : Nat} {K : Fin 2 → Option Fo} {s0 : Fo} {ρX ρM : Nat → Nat} {v : Value} {μX μM : mm_U} {R : va_W} {H : Heap} {locs : List Loc} {ls : Array Slot} {Q : State → Prop}
theorem law_ring (C : LCx D cA σ p s m meth c b L xs) (hL : L ≤ 3072) (hi : i + 6 ≤ L) (hcs : cells ≤ 601024 ∧ slots ≤ 7293034) (hl : lv_has ls 7 [(0, .ref b), (1, .ref (ρX 0)), (2, .ref (ρM 0)), (3, .ref oA), (4, .int (nI i))]) (St : LSt K s0 μX μM) (hW : LWs D cA s ρX ρM v μX μM R H locs) (nxt : ∀ (s1 : Fo) (μX1 μM1 : mm_U) (H1 : Heap) (locs1 : List Loc), LSt K s1 μX1 μM1 → LWs D cA s ρX ρM v μX1 μM1 R H1 locs1 → W p l e room_1 s m #[Value.ref b] below meth c H1 locs1 cells slots Q (F0 m 1773 ls [])) : W p l e room_1 s m #[Value.ref b] below meth c H locs cells slots Q (F0 m 228 ls []) := by
  obtain ⟨hI, RX, RM, g0, SX, HK⟩ := id St
  have hx := C.1.1
  have hb := C.1.2.1
  refine lv_aload_n hx hb dL_law_228 rfl (lv_at hl 1 rfl) ?_
  refine law_arg (j := 1) C hW.2.2 (lv_at hl 0 rfl) (lv_at hl 4 rfl) (by omega) hL rfl dL_law_229 dL_law_230 dL_law_232 dL_law_233 dL_law_234 ?_
  refine law_arg (j := 2) C hW.2.2 (lv_at hl 0 rfl) (lv_at hl 4 rfl) (by omega) hL rfl dL_law_235 dL_law_236 dL_law_238 dL_law_239 dL_law_240 ?_
  refine law_x (as := [.int (xs (i + 1)), .int (xs (i + 2))]) (rest := []) C vL_23 (x_ring (I := In) (shX_ok v) In_x RX hI _ _) rfl rfl rfl (by decide) ⟨by decide, by decide⟩ hcs hl.1 (by show (0 : Nat) ≤ 8; omega) dL_law_241 hW (fun r μX1 H1 locs1 hq hW1 => ?_)
  obtain ⟨rfl, RX1, hI1⟩ := hq
  refine lv_aload_n hx hb dL_law_244 rfl (lv_at hl 2 rfl) ?_
  refine law_arg (j := 1) C hW1.2.2 (lv_at hl 0 rfl) (lv_at hl 4 rfl) (by omega) hL rfl dL_law_245 dL_law_246 dL_law_248 dL_law_249 dL_law_250 ?_
  refine law_arg (j := 2) C hW1.2.2 (lv_at hl 0 rfl) (lv_at hl 4 rfl) (by omega) hL rfl dL_law_251 dL_law_252 dL_law_254 dL_law_255 dL_law_256 ?_
  refine law_m (as := [.int (xs (i + 1)), .int (xs (i + 2))]) C vL_26 (m_ring shM_ok SX RM hI.1 g0 _ _) rfl rfl rfl (by decide) ⟨by decide, by decide⟩ hcs hl.1 (by show (1 : Nat) ≤ 8; omega) dL_law_257 hW1 (fun r μM1 H2 locs2 hq2 hW2 => ?_)
  have hq3 := hq2
  obtain ⟨rfl, _⟩ := hq2
  refine lv_icmp_eq (tgt := 1773) hx hb dL_law_260 (by decide) (fun _ => ?_) (fun ne => absurd rfl ne)
  exact nxt _ _ _ _ _ (St.mt hI1 RX1 hq3) hW2
theorem law_rate (C : LCx D cA σ p s m meth c b L xs) (hL : L ≤ 3072) (hi : i + 6 ≤ L) (hcs : cells ≤ 601024 ∧ slots ≤ 7293034) (hl : lv_has ls 7 [(0, .ref b), (1, .ref (ρX 0)), (2, .ref (ρM 0)), (3, .ref oA), (4, .int (nI i))]) (St : LSt K s0 μX μM) (hW : LWs D cA s ρX ρM v μX μM R H locs) (nxt : ∀ (s1 : Fo) (μX1 μM1 : mm_U) (H1 : Heap) (locs1 : List Loc), LSt K s1 μX1 μM1 → LWs D cA s ρX ρM v μX1 μM1 R H1 locs1 → W p l e room_1 s m #[Value.ref b] below meth c H1 locs1 cells slots Q (F0 m 1773 ls [])) : W p l e room_1 s m #[Value.ref b] below meth c H locs cells slots Q (F0 m 265 ls []) := by
  obtain ⟨hI, RX, RM, g0, SX, HK⟩ := id St
  have hx := C.1.1
  have hb := C.1.2.1
  refine lv_aload_n hx hb dL_law_265 rfl (lv_at hl 1 rfl) ?_
  refine law_arg (j := 1) C hW.2.2 (lv_at hl 0 rfl) (lv_at hl 4 rfl) (by omega) hL rfl dL_law_266 dL_law_267 dL_law_269 dL_law_270 dL_law_271 ?_
  refine law_x (as := [.int (xs (i + 1))]) (rest := []) C vL_27 (x_rate (I := In) (shX_ok v) RX hI _) rfl rfl rfl (by decide) ⟨by decide, by decide⟩ hcs hl.1 (by show (0 : Nat) ≤ 8; omega) dL_law_272 hW (fun r μX1 H1 locs1 hq hW1 => ?_)
  obtain ⟨rfl, RX1, hI1⟩ := hq
  refine lv_aload_n hx hb dL_law_275 rfl (lv_at hl 2 rfl) ?_
  refine law_arg (j := 1) C hW1.2.2 (lv_at hl 0 rfl) (lv_at hl 4 rfl) (by omega) hL rfl dL_law_276 dL_law_277 dL_law_279 dL_law_280 dL_law_281 ?_
  refine law_m (as := [.int (xs (i + 1))]) C vL_31 (m_rate shM_ok RM hI.1 g0 _) rfl rfl rfl (by decide) ⟨by decide, by decide⟩ hcs hl.1 (by show (1 : Nat) ≤ 8; omega) dL_law_282 hW1 (fun r μM1 H2 locs2 hq2 hW2 => ?_)
  have hq3 := hq2
  obtain ⟨rfl, _⟩ := hq2
  refine lv_icmp_eq (tgt := 1773) hx hb dL_law_285 (by decide) (fun _ => ?_) (fun ne => absurd rfl ne)
  exact nxt _ _ _ _ _ (St.mt hI1 RX1 hq3) hW2
theorem law_area (C : LCx D cA σ p s m meth c b L xs) (hL : L ≤ 3072) (hi : i + 6 ≤ L) (hcs : cells ≤ 601024 ∧ slots ≤ 7293034) (hl : lv_has ls 7 [(0, .ref b), (1, .ref (ρX 0)), (2, .ref (ρM 0)), (3, .ref oA), (4, .int (nI i))]) (St : LSt K s0 μX μM) (hW : LWs D cA s ρX ρM v μX μM R H locs) (nxt : ∀ (s1 : Fo) (μX1 μM1 : mm_U) (H1 : Heap) (locs1 : List Loc), LSt K s1 μX1 μM1 → LWs D cA s ρX ρM v μX1 μM1 R H1 locs1 → W p l e room_1 s m #[Value.ref b] below meth c H1 locs1 cells slots Q (F0 m 1773 ls [])) : W p l e room_1 s m #[Value.ref b] below meth c H locs cells slots Q (F0 m 290 ls []) := by
  obtain ⟨hI, RX, RM, g0, SX, HK⟩ := id St
  have hx := C.1.1
  have hb := C.1.2.1
  refine lv_aload_n hx hb dL_law_290 rfl (lv_at hl 1 rfl) ?_
  refine law_arg (j := 1) C hW.2.2 (lv_at hl 0 rfl) (lv_at hl 4 rfl) (by omega) hL rfl dL_law_291 dL_law_292 dL_law_294 dL_law_295 dL_law_296 ?_
  refine law_arg (j := 2) C hW.2.2 (lv_at hl 0 rfl) (lv_at hl 4 rfl) (by omega) hL rfl dL_law_297 dL_law_298 dL_law_300 dL_law_301 dL_law_302 ?_
  refine law_x (as := [.int (xs (i + 1)), .int (xs (i + 2))]) (rest := []) C vL_32 (x_area (I := In) (shX_ok v) In_x RX hI _ _) rfl rfl rfl (by decide) ⟨by decide, by decide⟩ hcs hl.1 (by show (0 : Nat) ≤ 8; omega) dL_law_303 hW (fun r μX1 H1 locs1 hq hW1 => ?_)
  obtain ⟨rfl, RX1, hI1⟩ := hq
  refine lv_aload_n hx hb dL_law_306 rfl (lv_at hl 2 rfl) ?_
  refine law_arg (j := 1) C hW1.2.2 (lv_at hl 0 rfl) (lv_at hl 4 rfl) (by omega) hL rfl dL_law_307 dL_law_308 dL_law_310 dL_law_311 dL_law_312 ?_
  refine law_arg (j := 2) C hW1.2.2 (lv_at hl 0 rfl) (lv_at hl 4 rfl) (by omega) hL rfl dL_law_313 dL_law_314 dL_law_316 dL_law_317 dL_law_318 ?_
  refine law_m (as := [.int (xs (i + 1)), .int (xs (i + 2))]) C vL_35 (m_area shM_ok RM hI.1 g0 _ _) rfl rfl rfl (by decide) ⟨by decide, by decide⟩ hcs hl.1 (by show (1 : Nat) ≤ 8; omega) dL_law_319 hW1 (fun r μM1 H2 locs2 hq2 hW2 => ?_)
  have hq3 := hq2
  obtain ⟨rfl, _⟩ := hq2
  refine lv_icmp_eq (tgt := 1773) hx hb dL_law_322 (by decide) (fun _ => ?_) (fun ne => absurd rfl ne)
  exact nxt _ _ _ _ _ (St.mt hI1 RX1 hq3) hW2
theorem law_length (C : LCx D cA σ p s m meth c b L xs) (hL : L ≤ 3072) (hi : i + 6 ≤ L) (hcs : cells ≤ 601024 ∧ slots ≤ 7293034) (hl : lv_has ls 7 [(0, .ref b), (1, .ref (ρX 0)), (2, .ref (ρM 0)), (3, .ref oA), (4, .int (nI i))]) (St : LSt K s0 μX μM) (hW : LWs D cA s ρX ρM v μX μM R H locs) (nxt : ∀ (s1 : Fo) (μX1 μM1 : mm_U) (H1 : Heap) (locs1 : List Loc), LSt K s1 μX1 μM1 → LWs D cA s ρX ρM v μX1 μM1 R H1 locs1 → W p l e room_1 s m #[Value.ref b] below meth c H1 locs1 cells slots Q (F0 m 1773 ls [])) : W p l e room_1 s m #[Value.ref b] below meth c H locs cells slots Q (F0 m 327 ls []) := by
  obtain ⟨hI, RX, RM, g0, SX, HK⟩ := id St
  have hx := C.1.1
  have hb := C.1.2.1
  refine lv_aload_n hx hb dL_law_327 rfl (lv_at hl 1 rfl) ?_
  refine law_arg (j := 1) C hW.2.2 (lv_at hl 0 rfl) (lv_at hl 4 rfl) (by omega) hL rfl dL_law_328 dL_law_329 dL_law_331 dL_law_332 dL_law_333 ?_
  refine law_arg (j := 2) C hW.2.2 (lv_at hl 0 rfl) (lv_at hl 4 rfl) (by omega) hL rfl dL_law_334 dL_law_335 dL_law_337 dL_law_338 dL_law_339 ?_
  refine law_x (as := [.int (xs (i + 1)), .int (xs (i + 2))]) (rest := []) C vL_36 (x_length (I := In) (shX_ok v) In_x RX hI _ _) rfl rfl rfl (by decide) ⟨by decide, by decide⟩ hcs hl.1 (by show (0 : Nat) ≤ 8; omega) dL_law_340 hW (fun r μX1 H1 locs1 hq hW1 => ?_)
  obtain ⟨rfl, RX1, hI1⟩ := hq
  refine lv_aload_n hx hb dL_law_343 rfl (lv_at hl 2 rfl) ?_
  refine law_arg (j := 1) C hW1.2.2 (lv_at hl 0 rfl) (lv_at hl 4 rfl) (by omega) hL rfl dL_law_344 dL_law_345 dL_law_347 dL_law_348 dL_law_349 ?_
  refine law_arg (j := 2) C hW1.2.2 (lv_at hl 0 rfl) (lv_at hl 4 rfl) (by omega) hL rfl dL_law_350 dL_law_351 dL_law_353 dL_law_354 dL_law_355 ?_
  refine law_m (as := [.int (xs (i + 1)), .int (xs (i + 2))]) C vL_39 (m_length shM_ok RM hI.1 g0 _ _) rfl rfl rfl (by decide) ⟨by decide, by decide⟩ hcs hl.1 (by show (1 : Nat) ≤ 8; omega) dL_law_356 hW1 (fun r μM1 H2 locs2 hq2 hW2 => ?_)
  have hq3 := hq2
  obtain ⟨rfl, _⟩ := hq2
  refine lv_icmp_eq (tgt := 1773) hx hb dL_law_359 (by decide) (fun _ => ?_) (fun ne => absurd rfl ne)
  exact nxt _ _ _ _ _ (St.mt hI1 RX1 hq3) hW2
theorem law_swap (C : LCx D cA σ p s m meth c b L xs) (hL : L ≤ 3072) (hi : i + 6 ≤ L) (hcs : cells ≤ 601024 ∧ slots ≤ 7293034) (hl : lv_has ls 7 [(0, .ref b), (1, .ref (ρX 0)), (2, .ref (ρM 0)), (3, .ref oA), (4, .int (nI i))]) (St : LSt K s0 μX μM) (hW : LWs D cA s ρX ρM v μX μM R H locs) (nxt : ∀ (s1 : Fo) (μX1 μM1 : mm_U) (H1 : Heap) (locs1 : List Loc), LSt K s1 μX1 μM1 → LWs D cA s ρX ρM v μX1 μM1 R H1 locs1 → W p l e room_1 s m #[Value.ref b] below meth c H1 locs1 cells slots Q (F0 m 1773 ls [])) : W p l e room_1 s m #[Value.ref b] below meth c H locs cells slots Q (F0 m 364 ls []) := by
  obtain ⟨hI, RX, RM, g0, SX, HK⟩ := id St
  have hx := C.1.1
  have hb := C.1.2.1
  refine lv_aload_n hx hb dL_law_364 rfl (lv_at hl 1 rfl) ?_
  refine law_arg (j := 1) C hW.2.2 (lv_at hl 0 rfl) (lv_at hl 4 rfl) (by omega) hL rfl dL_law_365 dL_law_366 dL_law_368 dL_law_369 dL_law_370 ?_
  refine law_x (as := [.int (xs (i + 1))]) (rest := []) C vL_40 (x_swap (I := In) (shX_ok v) In_x RX hI _) rfl rfl rfl (by decide) ⟨by decide, by decide⟩ hcs hl.1 (by show (0 : Nat) ≤ 8; omega) dL_law_371 hW (fun r μX1 H1 locs1 hq hW1 => ?_)
  obtain ⟨rfl, RX1, hI1⟩ := hq
  refine lv_aload_n hx hb dL_law_374 rfl (lv_at hl 2 rfl) ?_
  refine law_arg (j := 1) C hW1.2.2 (lv_at hl 0 rfl) (lv_at hl 4 rfl) (by omega) hL rfl dL_law_375 dL_law_376 dL_law_378 dL_law_379 dL_law_380 ?_
  refine law_m (as := [.int (xs (i + 1))]) C vL_43 (m_swap shM_ok RM hI.1 g0 _) rfl rfl rfl (by decide) ⟨by decide, by decide⟩ hcs hl.1 (by show (1 : Nat) ≤ 8; omega) dL_law_381 hW1 (fun r μM1 H2 locs2 hq2 hW2 => ?_)
  have hq3 := hq2
  obtain ⟨rfl, _⟩ := hq2
  refine lv_icmp_eq (tgt := 1773) hx hb dL_law_384 (by decide) (fun _ => ?_) (fun ne => absurd rfl ne)
  exact nxt _ _ _ _ _ (St.mt hI1 RX1 hq3) hW2
theorem law_vanish (C : LCx D cA σ p s m meth c b L xs) (hL : L ≤ 3072) (hi : i + 6 ≤ L) (hcs : cells ≤ 601024 ∧ slots ≤ 7293034) (hl : lv_has ls 7 [(0, .ref b), (1, .ref (ρX 0)), (2, .ref (ρM 0)), (3, .ref oA), (4, .int (nI i))]) (St : LSt K s0 μX μM) (hW : LWs D cA s ρX ρM v μX μM R H locs) (nxt : ∀ (s1 : Fo) (μX1 μM1 : mm_U) (H1 : Heap) (locs1 : List Loc), LSt K s1 μX1 μM1 → LWs D cA s ρX ρM v μX1 μM1 R H1 locs1 → W p l e room_1 s m #[Value.ref b] below meth c H1 locs1 cells slots Q (F0 m 1773 ls [])) : W p l e room_1 s m #[Value.ref b] below meth c H locs cells slots Q (F0 m 389 ls []) := by
  obtain ⟨hI, RX, RM, g0, SX, HK⟩ := id St
  have hx := C.1.1
  have hb := C.1.2.1
  refine lv_aload_n hx hb dL_law_389 rfl (lv_at hl 1 rfl) ?_
  refine law_arg (j := 1) C hW.2.2 (lv_at hl 0 rfl) (lv_at hl 4 rfl) (by omega) hL rfl dL_law_390 dL_law_391 dL_law_393 dL_law_394 dL_law_395 ?_
  refine law_x (as := [.int (xs (i + 1))]) (rest := []) C vL_44 (x_vanish (I := In) (shX_ok v) In_x RX hI _) rfl rfl rfl (by decide) ⟨by decide, by decide⟩ hcs hl.1 (by show (0 : Nat) ≤ 8; omega) dL_law_396 hW (fun r μX1 H1 locs1 hq hW1 => ?_)
  obtain ⟨rfl, RX1, hI1⟩ := hq
  refine lv_aload_n hx hb dL_law_399 rfl (lv_at hl 2 rfl) ?_
  refine law_arg (j := 1) C hW1.2.2 (lv_at hl 0 rfl) (lv_at hl 4 rfl) (by omega) hL rfl dL_law_400 dL_law_401 dL_law_403 dL_law_404 dL_law_405 ?_
  refine law_m (as := [.int (xs (i + 1))]) C vL_47 (m_vanish shM_ok RM hI.1 g0 _) rfl rfl rfl (by decide) ⟨by decide, by decide⟩ hcs hl.1 (by show (1 : Nat) ≤ 8; omega) dL_law_406 hW1 (fun r μM1 H2 locs2 hq2 hW2 => ?_)
  have hq3 := hq2
  obtain ⟨rfl, _⟩ := hq2
  refine lv_icmp_eq (tgt := 1773) hx hb dL_law_409 (by decide) (fun _ => ?_) (fun ne => absurd rfl ne)
  exact nxt _ _ _ _ _ (St.mt hI1 RX1 hq3) hW2
theorem law_cut (C : LCx D cA σ p s m meth c b L xs) (hL : L ≤ 3072) (hi : i + 6 ≤ L) (hcs : cells ≤ 601024 ∧ slots ≤ 7293034) (hl : lv_has ls 7 [(0, .ref b), (1, .ref (ρX 0)), (2, .ref (ρM 0)), (3, .ref oA), (4, .int (nI i))]) (St : LSt K s0 μX μM) (hW : LWs D cA s ρX ρM v μX μM R H locs) (nxt : ∀ (s1 : Fo) (μX1 μM1 : mm_U) (H1 : Heap) (locs1 : List Loc), LSt K s1 μX1 μM1 → LWs D cA s ρX ρM v μX1 μM1 R H1 locs1 → W p l e room_1 s m #[Value.ref b] below meth c H1 locs1 cells slots Q (F0 m 1773 ls [])) : W p l e room_1 s m #[Value.ref b] below meth c H locs cells slots Q (F0 m 414 ls []) := by
  obtain ⟨hI, RX, RM, g0, SX, HK⟩ := id St
  have hx := C.1.1
  have hb := C.1.2.1
  refine lv_aload_n hx hb dL_law_414 rfl (lv_at hl 1 rfl) ?_
  refine law_arg (j := 1) C hW.2.2 (lv_at hl 0 rfl) (lv_at hl 4 rfl) (by omega) hL rfl dL_law_415 dL_law_416 dL_law_418 dL_law_419 dL_law_420 ?_
  refine law_arg (j := 2) C hW.2.2 (lv_at hl 0 rfl) (lv_at hl 4 rfl) (by omega) hL rfl dL_law_421 dL_law_422 dL_law_424 dL_law_425 dL_law_426 ?_
  refine law_arg (j := 3) C hW.2.2 (lv_at hl 0 rfl) (lv_at hl 4 rfl) (by omega) hL rfl dL_law_427 dL_law_428 dL_law_430 dL_law_431 dL_law_432 ?_
  refine law_x (as := [.int (xs (i + 1)), .int (xs (i + 2)), .int (xs (i + 3))]) (rest := []) C vL_48 (x_cut (I := In) (shX_ok v) In_x RX hI _ _ _) rfl rfl rfl (by decide) ⟨by decide, by decide⟩ hcs hl.1 (by show (0 : Nat) ≤ 8; omega) dL_law_433 hW (fun r μX1 H1 locs1 hq hW1 => ?_)
  obtain ⟨rfl, RX1, hI1⟩ := hq
  refine lv_aload_n hx hb dL_law_436 rfl (lv_at hl 2 rfl) ?_
  refine law_arg (j := 1) C hW1.2.2 (lv_at hl 0 rfl) (lv_at hl 4 rfl) (by omega) hL rfl dL_law_437 dL_law_438 dL_law_440 dL_law_441 dL_law_442 ?_
  refine law_arg (j := 2) C hW1.2.2 (lv_at hl 0 rfl) (lv_at hl 4 rfl) (by omega) hL rfl dL_law_443 dL_law_444 dL_law_446 dL_law_447 dL_law_448 ?_
  refine law_arg (j := 3) C hW1.2.2 (lv_at hl 0 rfl) (lv_at hl 4 rfl) (by omega) hL rfl dL_law_449 dL_law_450 dL_law_452 dL_law_453 dL_law_454 ?_
  refine law_m (as := [.int (xs (i + 1)), .int (xs (i + 2)), .int (xs (i + 3))]) C vL_51 (m_cut shM_ok RM hI.1 g0 _ _ _) rfl rfl rfl (by decide) ⟨by decide, by decide⟩ hcs hl.1 (by show (1 : Nat) ≤ 8; omega) dL_law_455 hW1 (fun r μM1 H2 locs2 hq2 hW2 => ?_)
  have hq3 := hq2
  obtain ⟨rfl, _⟩ := hq2
  refine lv_icmp_eq (tgt := 1773) hx hb dL_law_458 (by decide) (fun _ => ?_) (fun ne => absurd rfl ne)
  exact nxt _ _ _ _ _ (St.mt hI1 RX1 hq3) hW2
theorem law_burst (C : LCx D cA σ p s m meth c b L xs) (hL : L ≤ 3072) (hi : i + 6 ≤ L) (hcs : cells ≤ 601024 ∧ slots ≤ 7293034) (hl : lv_has ls 7 [(0, .ref b), (1, .ref (ρX 0)), (2, .ref (ρM 0)), (3, .ref oA), (4, .int (nI i))]) (St : LSt K s0 μX μM) (hW : LWs D cA s ρX ρM v μX μM R H locs) (nxt : ∀ (s1 : Fo) (μX1 μM1 : mm_U) (H1 : Heap) (locs1 : List Loc), LSt K s1 μX1 μM1 → LWs D cA s ρX ρM v μX1 μM1 R H1 locs1 → W p l e room_1 s m #[Value.ref b] below meth c H1 locs1 cells slots Q (F0 m 1773 ls [])) : W p l e room_1 s m #[Value.ref b] below meth c H locs cells slots Q (F0 m 463 ls []) := by
  obtain ⟨hI, RX, RM, g0, SX, HK⟩ := id St
  have hx := C.1.1
  have hb := C.1.2.1
  refine lv_aload_n hx hb dL_law_463 rfl (lv_at hl 1 rfl) ?_
  refine law_arg (j := 1) C hW.2.2 (lv_at hl 0 rfl) (lv_at hl 4 rfl) (by omega) hL rfl dL_law_464 dL_law_465 dL_law_467 dL_law_468 dL_law_469 ?_
  refine law_x (as := [.int (xs (i + 1))]) (rest := []) C vL_52 (x_burst (I := In) (shX_ok v) In_x RX hI _) rfl rfl rfl (by decide) ⟨by decide, by decide⟩ hcs hl.1 (by show (0 : Nat) ≤ 8; omega) dL_law_470 hW (fun r μX1 H1 locs1 hq hW1 => ?_)
  obtain ⟨rfl, RX1, hI1⟩ := hq
  refine lv_aload_n hx hb dL_law_473 rfl (lv_at hl 2 rfl) ?_
  refine law_arg (j := 1) C hW1.2.2 (lv_at hl 0 rfl) (lv_at hl 4 rfl) (by omega) hL rfl dL_law_474 dL_law_475 dL_law_477 dL_law_478 dL_law_479 ?_
  refine law_m (as := [.int (xs (i + 1))]) C vL_55 (m_burst shM_ok RM hI.1 g0 _) rfl rfl rfl (by decide) ⟨by decide, by decide⟩ hcs hl.1 (by show (1 : Nat) ≤ 8; omega) dL_law_480 hW1 (fun r μM1 H2 locs2 hq2 hW2 => ?_)
  have hq3 := hq2
  obtain ⟨rfl, _⟩ := hq2
  refine lv_icmp_eq (tgt := 1773) hx hb dL_law_483 (by decide) (fun _ => ?_) (fun ne => absurd rfl ne)
  exact nxt _ _ _ _ _ (St.mt hI1 RX1 hq3) hW2
theorem law_shake (C : LCx D cA σ p s m meth c b L xs) (hL : L ≤ 3072) (hi : i + 6 ≤ L) (hcs : cells ≤ 601024 ∧ slots ≤ 7293034) (hl : lv_has ls 7 [(0, .ref b), (1, .ref (ρX 0)), (2, .ref (ρM 0)), (3, .ref oA), (4, .int (nI i))]) (St : LSt K s0 μX μM) (hW : LWs D cA s ρX ρM v μX μM R H locs) (nxt : ∀ (s1 : Fo) (μX1 μM1 : mm_U) (H1 : Heap) (locs1 : List Loc), LSt K s1 μX1 μM1 → LWs D cA s ρX ρM v μX1 μM1 R H1 locs1 → W p l e room_1 s m #[Value.ref b] below meth c H1 locs1 cells slots Q (F0 m 1773 ls [])) : W p l e room_1 s m #[Value.ref b] below meth c H locs cells slots Q (F0 m 488 ls []) := by
  obtain ⟨hI, RX, RM, g0, SX, HK⟩ := id St
  have hx := C.1.1
  have hb := C.1.2.1
  refine lv_aload_n hx hb dL_law_488 rfl (lv_at hl 1 rfl) ?_
  refine law_arg (j := 1) C hW.2.2 (lv_at hl 0 rfl) (lv_at hl 4 rfl) (by omega) hL rfl dL_law_489 dL_law_490 dL_law_492 dL_law_493 dL_law_494 ?_
  refine law_arg (j := 2) C hW.2.2 (lv_at hl 0 rfl) (lv_at hl 4 rfl) (by omega) hL rfl dL_law_495 dL_law_496 dL_law_498 dL_law_499 dL_law_500 ?_
  refine law_arg (j := 3) C hW.2.2 (lv_at hl 0 rfl) (lv_at hl 4 rfl) (by omega) hL rfl dL_law_501 dL_law_502 dL_law_504 dL_law_505 dL_law_506 ?_
  refine law_x (as := [.int (xs (i + 1)), .int (xs (i + 2)), .int (xs (i + 3))]) (rest := []) C vL_56 (x_shake (I := In) (shX_ok v) In_x RX hI _ _ _) rfl rfl rfl (by decide) ⟨by decide, by decide⟩ hcs hl.1 (by show (0 : Nat) ≤ 8; omega) dL_law_507 hW (fun r μX1 H1 locs1 hq hW1 => ?_)
  obtain ⟨rfl, RX1, hI1⟩ := hq
  refine lv_aload_n hx hb dL_law_510 rfl (lv_at hl 2 rfl) ?_
  refine law_arg (j := 1) C hW1.2.2 (lv_at hl 0 rfl) (lv_at hl 4 rfl) (by omega) hL rfl dL_law_511 dL_law_512 dL_law_514 dL_law_515 dL_law_516 ?_
  refine law_arg (j := 2) C hW1.2.2 (lv_at hl 0 rfl) (lv_at hl 4 rfl) (by omega) hL rfl dL_law_517 dL_law_518 dL_law_520 dL_law_521 dL_law_522 ?_
  refine law_arg (j := 3) C hW1.2.2 (lv_at hl 0 rfl) (lv_at hl 4 rfl) (by omega) hL rfl dL_law_523 dL_law_524 dL_law_526 dL_law_527 dL_law_528 ?_
  refine law_m (as := [.int (xs (i + 1)), .int (xs (i + 2)), .int (xs (i + 3))]) C vL_59 (m_shake shM_ok RM hI.1 g0 _ _ _) rfl rfl rfl (by decide) ⟨by decide, by decide⟩ hcs hl.1 (by show (1 : Nat) ≤ 8; omega) dL_law_529 hW1 (fun r μM1 H2 locs2 hq2 hW2 => ?_)
  have hq3 := hq2
  obtain ⟨rfl, _⟩ := hq2
  refine lv_icmp_eq (tgt := 1773) hx hb dL_law_532 (by decide) (fun _ => ?_) (fun ne => absurd rfl ne)
  exact nxt _ _ _ _ _ (St.mt hI1 RX1 hq3) hW2
theorem law_steps (C : LCx D cA σ p s m meth c b L xs) (hL : L ≤ 3072) (hi : i + 6 ≤ L) (hcs : cells ≤ 601024 ∧ slots ≤ 7293034) (hl : lv_has ls 7 [(0, .ref b), (1, .ref (ρX 0)), (2, .ref (ρM 0)), (3, .ref oA), (4, .int (nI i))]) (St : LSt K s0 μX μM) (hW : LWs D cA s ρX ρM v μX μM R H locs) (nxt : ∀ (s1 : Fo) (μX1 μM1 : mm_U) (H1 : Heap) (locs1 : List Loc), LSt K s1 μX1 μM1 → LWs D cA s ρX ρM v μX1 μM1 R H1 locs1 → W p l e room_1 s m #[Value.ref b] below meth c H1 locs1 cells slots Q (F0 m 1773 ls [])) : W p l e room_1 s m #[Value.ref b] below meth c H locs cells slots Q (F0 m 537 ls []) := by
  obtain ⟨hI, RX, RM, g0, SX, HK⟩ := id St
  have hx := C.1.1
  have hb := C.1.2.1
  refine lv_aload_n hx hb dL_law_537 rfl (lv_at hl 1 rfl) ?_
  refine law_arg (j := 1) C hW.2.2 (lv_at hl 0 rfl) (lv_at hl 4 rfl) (by omega) hL rfl dL_law_538 dL_law_539 dL_law_541 dL_law_542 dL_law_543 ?_
  refine law_x (as := [.int (xs (i + 1))]) (rest := []) C vL_60 (x_steps (I := In) (shX_ok v) In_x RX hI _) rfl rfl rfl (by decide) ⟨by decide, by decide⟩ hcs hl.1 (by show (0 : Nat) ≤ 8; omega) dL_law_544 hW (fun r μX1 H1 locs1 hq hW1 => ?_)
  obtain ⟨rfl, RX1, hI1⟩ := hq
  refine lv_aload_n hx hb dL_law_547 rfl (lv_at hl 2 rfl) ?_
  refine law_arg (j := 1) C hW1.2.2 (lv_at hl 0 rfl) (lv_at hl 4 rfl) (by omega) hL rfl dL_law_548 dL_law_549 dL_law_551 dL_law_552 dL_law_553 ?_
  refine law_m (as := [.int (xs (i + 1))]) C vL_63 (m_steps shM_ok RM hI.1 g0 _) rfl rfl rfl (by decide) ⟨by decide, by decide⟩ hcs hl.1 (by show (1 : Nat) ≤ 8; omega) dL_law_554 hW1 (fun r μM1 H2 locs2 hq2 hW2 => ?_)
  have hq3 := hq2
  obtain ⟨rfl, _⟩ := hq2
  refine lv_icmp_eq (tgt := 1773) hx hb dL_law_557 (by decide) (fun _ => ?_) (fun ne => absurd rfl ne)
  exact nxt _ _ _ _ _ (St.mt hI1 RX1 hq3) hW2
theorem law_relax (C : LCx D cA σ p s m meth c b L xs) (hL : L ≤ 3072) (hi : i + 6 ≤ L) (hcs : cells ≤ 601024 ∧ slots ≤ 7293034) (hl : lv_has ls 7 [(0, .ref b), (1, .ref (ρX 0)), (2, .ref (ρM 0)), (3, .ref oA), (4, .int (nI i))]) (St : LSt K s0 μX μM) (hW : LWs D cA s ρX ρM v μX μM R H locs) (nxt : ∀ (s1 : Fo) (μX1 μM1 : mm_U) (H1 : Heap) (locs1 : List Loc), LSt K s1 μX1 μM1 → LWs D cA s ρX ρM v μX1 μM1 R H1 locs1 → W p l e room_1 s m #[Value.ref b] below meth c H1 locs1 cells slots Q (F0 m 1773 ls [])) : W p l e room_1 s m #[Value.ref b] below meth c H locs cells slots Q (F0 m 562 ls []) := by
  obtain ⟨hI, RX, RM, g0, SX, HK⟩ := id St
  have hx := C.1.1
  have hb := C.1.2.1
  refine lv_aload_n hx hb dL_law_562 rfl (lv_at hl 1 rfl) ?_
  refine law_x (as := []) (rest := []) C vL_64 (x_relax (I := In) (shX_ok v) In_x RX hI) rfl rfl rfl (by decide) ⟨by decide, by decide⟩ hcs hl.1 (by show (0 : Nat) ≤ 8; omega) dL_law_563 hW (fun r μX1 H1 locs1 hq hW1 => ?_)
  obtain ⟨rfl, RX1, hI1⟩ := hq
  refine lv_aload_n hx hb dL_law_566 rfl (lv_at hl 2 rfl) ?_
  refine law_m (as := []) C vL_68 (m_relax shM_ok RM hI.1 g0) rfl rfl rfl (by decide) ⟨by decide, by decide⟩ hcs hl.1 (by show (1 : Nat) ≤ 8; omega) dL_law_567 hW1 (fun r μM1 H2 locs2 hq2 hW2 => ?_)
  have hq3 := hq2
  obtain ⟨rfl, _⟩ := hq2
  refine lv_icmp_eq (tgt := 1773) hx hb dL_law_570 (by decide) (fun _ => ?_) (fun ne => absurd rfl ne)
  exact nxt _ _ _ _ _ (St.mt hI1 RX1 hq3) hW2
theorem law_wall (C : LCx D cA σ p s m meth c b L xs) (hL : L ≤ 3072) (hi : i + 6 ≤ L) (hcs : cells ≤ 601024 ∧ slots ≤ 7293034) (hl : lv_has ls 7 [(0, .ref b), (1, .ref (ρX 0)), (2, .ref (ρM 0)), (3, .ref oA), (4, .int (nI i))]) (St : LSt K s0 μX μM) (hW : LWs D cA s ρX ρM v μX μM R H locs) (nxt : ∀ (s1 : Fo) (μX1 μM1 : mm_U) (H1 : Heap) (locs1 : List Loc), LSt K s1 μX1 μM1 → LWs D cA s ρX ρM v μX1 μM1 R H1 locs1 → W p l e room_1 s m #[Value.ref b] below meth c H1 locs1 cells slots Q (F0 m 1773 ls [])) : W p l e room_1 s m #[Value.ref b] below meth c H locs cells slots Q (F0 m 773 ls []) := by
  obtain ⟨hI, RX, RM, g0, SX, HK⟩ := id St
  have hx := C.1.1
  have hb := C.1.2.1
  refine lv_aload_n hx hb dL_law_773 rfl (lv_at hl 1 rfl) ?_
  refine law_arg (j := 1) C hW.2.2 (lv_at hl 0 rfl) (lv_at hl 4 rfl) (by omega) hL rfl dL_law_774 dL_law_775 dL_law_777 dL_law_778 dL_law_779 ?_
  refine law_arg (j := 2) C hW.2.2 (lv_at hl 0 rfl) (lv_at hl 4 rfl) (by omega) hL rfl dL_law_780 dL_law_781 dL_law_783 dL_law_784 dL_law_785 ?_
  refine law_x (as := [.int (xs (i + 1)), .int (xs (i + 2))]) (rest := []) C vL_91 (x_wall (I := In) (shX_ok v) In_x RX hI _ _) rfl rfl rfl (by decide) ⟨by decide, by decide⟩ hcs hl.1 (by show (0 : Nat) ≤ 8; omega) dL_law_786 hW (fun r μX1 H1 locs1 hq hW1 => ?_)
  obtain ⟨rfl, RX1, hI1⟩ := hq
  refine lv_aload_n hx hb dL_law_789 rfl (lv_at hl 2 rfl) ?_
  refine law_arg (j := 1) C hW1.2.2 (lv_at hl 0 rfl) (lv_at hl 4 rfl) (by omega) hL rfl dL_law_790 dL_law_791 dL_law_793 dL_law_794 dL_law_795 ?_
  refine law_arg (j := 2) C hW1.2.2 (lv_at hl 0 rfl) (lv_at hl 4 rfl) (by omega) hL rfl dL_law_796 dL_law_797 dL_law_799 dL_law_800 dL_law_801 ?_
  refine law_m (as := [.int (xs (i + 1)), .int (xs (i + 2))]) C vL_94 (m_wall shM_ok RM hI.1 g0 _ _) rfl rfl rfl (by decide) ⟨by decide, by decide⟩ hcs hl.1 (by show (1 : Nat) ≤ 8; omega) dL_law_802 hW1 (fun r μM1 H2 locs2 hq2 hW2 => ?_)
  have hq3 := hq2
  obtain ⟨rfl, _⟩ := hq2
  refine lv_icmp_eq (tgt := 1773) hx hb dL_law_805 (by decide) (fun _ => ?_) (fun ne => absurd rfl ne)
  exact nxt _ _ _ _ _ (St.mt hI1 RX1 hq3) hW2
theorem law_between (C : LCx D cA σ p s m meth c b L xs) (hL : L ≤ 3072) (hi : i + 6 ≤ L) (hcs : cells ≤ 601024 ∧ slots ≤ 7293034) (hl : lv_has ls 7 [(0, .ref b), (1, .ref (ρX 0)), (2, .ref (ρM 0)), (3, .ref oA), (4, .int (nI i))]) (St : LSt K s0 μX μM) (hW : LWs D cA s ρX ρM v μX μM R H locs) (nxt : ∀ (s1 : Fo) (μX1 μM1 : mm_U) (H1 : Heap) (locs1 : List Loc), LSt K s1 μX1 μM1 → LWs D cA s ρX ρM v μX1 μM1 R H1 locs1 → W p l e room_1 s m #[Value.ref b] below meth c H1 locs1 cells slots Q (F0 m 1773 ls [])) : W p l e room_1 s m #[Value.ref b] below meth c H locs cells slots Q (F0 m 810 ls []) := by
  obtain ⟨hI, RX, RM, g0, SX, HK⟩ := id St
  have hx := C.1.1
  have hb := C.1.2.1
  refine lv_aload_n hx hb dL_law_810 rfl (lv_at hl 1 rfl) ?_
  refine law_arg (j := 1) C hW.2.2 (lv_at hl 0 rfl) (lv_at hl 4 rfl) (by omega) hL rfl dL_law_811 dL_law_812 dL_law_814 dL_law_815 dL_law_816 ?_
  refine law_arg (j := 2) C hW.2.2 (lv_at hl 0 rfl) (lv_at hl 4 rfl) (by omega) hL rfl dL_law_817 dL_law_818 dL_law_820 dL_law_821 dL_law_822 ?_
  refine law_arg (j := 3) C hW.2.2 (lv_at hl 0 rfl) (lv_at hl 4 rfl) (by omega) hL rfl dL_law_823 dL_law_824 dL_law_826 dL_law_827 dL_law_828 ?_
  refine law_x (as := [.int (xs (i + 1)), .int (xs (i + 2)), .int (xs (i + 3))]) (rest := []) C vL_95 (x_between (I := In) (shX_ok v) In_x RX hI _ _ _) rfl rfl rfl (by decide) ⟨by decide, by decide⟩ hcs hl.1 (by show (0 : Nat) ≤ 8; omega) dL_law_829 hW (fun r μX1 H1 locs1 hq hW1 => ?_)
  obtain ⟨rfl, RX1, hI1⟩ := hq
  refine lv_aload_n hx hb dL_law_832 rfl (lv_at hl 2 rfl) ?_
  refine law_arg (j := 1) C hW1.2.2 (lv_at hl 0 rfl) (lv_at hl 4 rfl) (by omega) hL rfl dL_law_833 dL_law_834 dL_law_836 dL_law_837 dL_law_838 ?_
  refine law_arg (j := 2) C hW1.2.2 (lv_at hl 0 rfl) (lv_at hl 4 rfl) (by omega) hL rfl dL_law_839 dL_law_840 dL_law_842 dL_law_843 dL_law_844 ?_
  refine law_arg (j := 3) C hW1.2.2 (lv_at hl 0 rfl) (lv_at hl 4 rfl) (by omega) hL rfl dL_law_845 dL_law_846 dL_law_848 dL_law_849 dL_law_850 ?_
  refine law_m (as := [.int (xs (i + 1)), .int (xs (i + 2)), .int (xs (i + 3))]) C vL_98 (m_between shM_ok RM hI.1 g0 _ _ _) rfl rfl rfl (by decide) ⟨by decide, by decide⟩ hcs hl.1 (by show (1 : Nat) ≤ 8; omega) dL_law_851 hW1 (fun r μM1 H2 locs2 hq2 hW2 => ?_)
  have hq3 := hq2
  obtain ⟨rfl, _⟩ := hq2
  refine lv_icmp_eq (tgt := 1773) hx hb dL_law_854 (by decide) (fun _ => ?_) (fun ne => absurd rfl ne)
  exact nxt _ _ _ _ _ (St.mt hI1 RX1 hq3) hW2
end LAWC
