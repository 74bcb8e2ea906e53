set_option maxHeartbeats 8000000 in
set_option maxRecDepth 100000 in
theorem lc_4 {p : Program} {l : Launch} {e : Env} {s : State} {m : MethodId} {below : List Frame} {meth : Method} {c : Code} {dC : Nat → ClassId} {dI : Nat → Nat → Nat} {b L : Nat} {xs : Nat → Int32} (hfl : l.flags = flags0) (hL : L ≤ 3584) (C0 : lw_At p s m meth c b L xs) (hZ : th_Z s.heap.size s) {tt : Nat} (htt : 7 * tt + 7 ≤ L) {q0 q1 q2 : Nat} {cA : ClassId} {th : Int32} {up lo le : Int64} {f : Nat → Int64} {H : Heap} {locs : List Loc} {ls : Array Slot} {iv : Int32} (hi : iv = nI (7 * tt)) (hK : va_K (dC, dI) classes [(cA, .long)] s) (hP : va_P (dC, dI) classes (WX q0 q1 q2 cA th up lo le f) H) (hD : va_D (fun q : Nat => s.heap.size ≤ q) (WX q0 q1 q2 cA th up lo le f)) (hS : va_S (fun q : Nat => s.heap.size ≤ q) s.heap H locs) (hl : lv_has ls 8 [(4, .int iv), (3, .ref q2), (2, .ref q1), (1, .ref q0), (0, .ref b)])
    (KK : ∀ (th : Int32) (up lo le : Int64) (f : Nat → Int64) (H : Heap) (locs : List Loc) (ls : Array Slot), va_P (dC, dI) classes (WX q0 q1 q2 cA th up lo le f) H → va_D (fun q : Nat => s.heap.size ≤ q) (WX q0 q1 q2 cA th up lo le f) → va_S (fun q : Nat => s.heap.size ≤ q) s.heap H locs → lv_has ls 8 [(4, .int iv), (3, .ref q2), (2, .ref q1), (1, .ref q0), (0, .ref b)] → W p l e room_1 s m #[Value.ref b] below meth c H locs (4 + tt) (11 + 6 * tt) (lw_Z below #[Value.ref b] s) (F0 m 758 ls [])) :
    W p l e room_1 s m #[Value.ref b] below meth c H locs (3 + tt) (5 + 6 * tt) (lw_Z below #[Value.ref b] s) (F0 m 224 ls []) := by
  obtain ⟨hx, hb, hr, hml, hown, hts, hX, hbl, hlocks, hgv⟩ := C0
  have hown : s.vm.findClass R_L = some m.cls := hown
  have hA : ∀ q : Nat, s.heap.size ≤ q → (fun q : Nat => s.heap.size ≤ q) q := fun _ h => h
  obtain ⟨X1, hX1⟩ : ∃ y, y = xs (7 * tt + 1) := ⟨_, rfl⟩
  obtain ⟨X2, hX2⟩ : ∃ y, y = xs (7 * tt + 2) := ⟨_, rfl⟩
  obtain ⟨X3, hX3⟩ : ∃ y, y = xs (7 * tt + 3) := ⟨_, rfl⟩
  obtain ⟨X4, hX4⟩ : ∃ y, y = xs (7 * tt + 4) := ⟨_, rfl⟩
  obtain ⟨X5, hX5⟩ : ∃ y, y = xs (7 * tt + 5) := ⟨_, rfl⟩
  obtain ⟨X6, hX6⟩ : ∃ y, y = xs (7 * tt + 6) := ⟨_, rfl⟩
  have hP : va_P (dC, dI) classes [(q0, .inr (0, [])), (q1, .inr (1, [.int th, .long up, .long lo, .long le])), (q2, .inl (cA, 1, .inr (.inl f)))] H := hP
  have hD : va_D (fun q : Nat => s.heap.size ≤ q) [(q0, .inr (0, [])), (q1, .inr (1, [.int th, .long up, .long lo, .long le])), (q2, .inl (cA, 1, .inr (.inl f)))] := hD
  refine lv_aload_n hx hb d_law_224 rfl (lv_at hl 3 rfl) ?_
  refine lv_aload_n hx hb d_law_225 rfl (lv_at hl 4 rfl) ?_
  refine lv_iload hx hb d_law_226 (lv_at hl 0 rfl) ?_
  refine lv_iconst (v := 1) hx hb d_law_228 (by decide) ?_
  refine lv_iadd hx hb d_law_229 ?_
  refine lv_topi (fun v229 e229 => ?_)
  refine lw_ld hx hb hX hbl hS hL (j := 7 * tt + 1) (by omega) (by rw [e229, hi]; exact nI_add _ _) hX1 d_law_230 ?_
  refine lv_i2l hx hb d_law_231 rfl ?_
  refine lv_topl (fun v231 e231 => ?_)
  refine lv_bipush (v := 32) hx hb d_law_232 (by decide) ?_
  refine lv_lshl hx hb d_law_234 rfl ?_
  refine lv_topl (fun v234 e234 => ?_)
  refine lv_aload_n hx hb d_law_235 rfl (lv_at hl 4 rfl) ?_
  refine lv_iload hx hb d_law_236 (lv_at hl 0 rfl) ?_
  refine lv_iconst (v := 2) hx hb d_law_238 (by decide) ?_
  refine lv_iadd hx hb d_law_239 ?_
  refine lv_topi (fun v239 e239 => ?_)
  refine lw_ld hx hb hX hbl hS hL (j := 7 * tt + 2) (by omega) (by rw [e239, hi]; exact nI_add _ _) hX2 d_law_240 ?_
  refine lv_i2l hx hb d_law_241 rfl ?_
  refine lv_topl (fun v241 e241 => ?_)
  refine lv_ldc2 (v := 4294967295) hx hb hown (hts (.constantLong R_L 49 4294967295) (by decide +kernel)) d_law_242 ?_
  refine lv_land hx hb d_law_245 ?_
  refine lv_topl (fun v245 e245 => ?_)
  refine lv_lor hx hb d_law_246 ?_
  refine lv_topl (fun v246 e246 => ?_)
  obtain rfl : v246 = lw_j X1 X2 := by rw [e246, e234, e231, e245, e241]; rfl
  refine lv_aload_n hx hb d_law_247 rfl (lv_at hl 4 rfl) ?_
  refine lv_iload hx hb d_law_248 (lv_at hl 0 rfl) ?_
  refine lv_iconst (v := 3) hx hb d_law_250 (by decide) ?_
  refine lv_iadd hx hb d_law_251 ?_
  refine lv_topi (fun v251 e251 => ?_)
  refine lw_ld hx hb hX hbl hS hL (j := 7 * tt + 3) (by omega) (by rw [e251, hi]; exact nI_add _ _) hX3 d_law_252 ?_
  refine lv_i2l hx hb d_law_253 rfl ?_
  refine lv_topl (fun v253 e253 => ?_)
  refine lv_bipush (v := 32) hx hb d_law_254 (by decide) ?_
  refine lv_lshl hx hb d_law_256 rfl ?_
  refine lv_topl (fun v256 e256 => ?_)
  refine lv_aload_n hx hb d_law_257 rfl (lv_at hl 4 rfl) ?_
  refine lv_iload hx hb d_law_258 (lv_at hl 0 rfl) ?_
  refine lv_iconst (v := 4) hx hb d_law_260 (by decide) ?_
  refine lv_iadd hx hb d_law_261 ?_
  refine lv_topi (fun v261 e261 => ?_)
  refine lw_ld hx hb hX hbl hS hL (j := 7 * tt + 4) (by omega) (by rw [e261, hi]; exact nI_add _ _) hX4 d_law_262 ?_
  refine lv_i2l hx hb d_law_263 rfl ?_
  refine lv_topl (fun v263 e263 => ?_)
  refine lv_ldc2 (v := 4294967295) hx hb hown (hts (.constantLong R_L 49 4294967295) (by decide +kernel)) d_law_264 ?_
  refine lv_land hx hb d_law_267 ?_
  refine lv_topl (fun v267 e267 => ?_)
  refine lv_lor hx hb d_law_268 ?_
  refine lv_topl (fun v268 e268 => ?_)
  obtain rfl : v268 = lw_j X3 X4 := by rw [e268, e256, e253, e267, e263]; rfl
  refine lv_aload_n hx hb d_law_269 rfl (lv_at hl 4 rfl) ?_
  refine lv_iload hx hb d_law_270 (lv_at hl 0 rfl) ?_
  refine lv_iconst (v := 5) hx hb d_law_272 (by decide) ?_
  refine lv_iadd hx hb d_law_273 ?_
  refine lv_topi (fun v273 e273 => ?_)
  refine lw_ld hx hb hX hbl hS hL (j := 7 * tt + 5) (by omega) (by rw [e273, hi]; exact nI_add _ _) hX5 d_law_274 ?_
  refine lv_i2l hx hb d_law_275 rfl ?_
  refine lv_topl (fun v275 e275 => ?_)
  refine lv_bipush (v := 32) hx hb d_law_276 (by decide) ?_
  refine lv_lshl hx hb d_law_278 rfl ?_
  refine lv_topl (fun v278 e278 => ?_)
  refine lv_aload_n hx hb d_law_279 rfl (lv_at hl 4 rfl) ?_
  refine lv_iload hx hb d_law_280 (lv_at hl 0 rfl) ?_
  refine lv_bipush (v := 6) hx hb d_law_282 (by decide) ?_
  refine lv_iadd hx hb d_law_284 ?_
  refine lv_topi (fun v284 e284 => ?_)
  refine lw_ld hx hb hX hbl hS hL (j := 7 * tt + 6) (by omega) (by rw [e284, hi]; exact nI_add _ _) hX6 d_law_285 ?_
  refine lv_i2l hx hb d_law_286 rfl ?_
  refine lv_topl (fun v286 e286 => ?_)
  refine lv_ldc2 (v := 4294967295) hx hb hown (hts (.constantLong R_L 49 4294967295) (by decide +kernel)) d_law_287 ?_
  refine lv_land hx hb d_law_290 ?_
  refine lv_topl (fun v290 e290 => ?_)
  refine lv_lor hx hb d_law_291 ?_
  refine lv_topl (fun v291 e291 => ?_)
  obtain rfl : v291 = lw_j X5 X6 := by rw [e291, e278, e275, e290, e286]; rfl
  refine lv_aload_n hx hb d_law_292 rfl (lv_at hl 1 rfl) ?_
  have hPc := hP.sub (ws' := [(q0, .inr (0, [])), (q2, .inl (cA, 1, .inr (.inl f)))]) [0, 2] rfl
  have hDc := hD.sub (ws' := [(q0, .inr (0, [])), (q2, .inl (cA, 1, .inr (.inl f)))]) [0, 2] (by decide) rfl
  have hFc := va_free (wc := [(q0, .inr (0, [])), (q2, .inl (cA, 1, .inr (.inl f)))]) hD hS hA [0, 2] rfl
  have hcw9 := th_cwSW (R := room_1) (rm := { frames := 7, cells := 1, slots := 6, locals := 140 }) (mc := 1) (ms := 6) 5 hts g_law_51 rfl rfl rfl (by decide +kernel) ⟨Nat.le_of_ble_eq_true rfl, Nat.le_of_ble_eq_true rfl⟩
  refine va_calli (th_runSW (As := [.ref q0, .long (lw_j X1 X2), .long (lw_j X3 X4), .long (lw_j X5 X6), .ref q2]) (rest := []) ⟨hx, hb, hml, hown, hts⟩ (c_L_ratio l hfl dC dI s.heap.size q0 q2 H.size cA f (lw_j X1 X2) (lw_j X3 X4) (lw_j X5 X6)) hcw9.1 hcw9.2 ⟨fun a U g mk q => by obtain ⟨q0, q1, qP, qK, qD, qZ⟩ := q; exact ⟨q0, q1, qP, va_K.moved (u := U) (U := U.calling g mk a) (Vm.Alike.refl U.vm) qK, qD, th_Z.call qZ⟩, fun U hU hW => ⟨rfl, by rw [hU], by rw [hU]; exact hPc, va_K.moved hW.alike hK, hDc.weaken (fun _ _ _ _ => trivial), th_Z.to hZ hW (fun q h1 h2 => by rw [hU]; exact hS.2.1 q h1 h2)⟩⟩ rfl rfl hl.1 rfl (lv_room (Nat.le_of_ble_eq_true rfl)) d_law_293 ⟨by show _ ≤ 1034; omega, by show _ ≤ 8239; omega⟩) hS (fun q _ h => hFc q h) hFc (fun v293 g293 t H1 locs ht hvm hw hB hz1 hk1 hS => ?_)
  obtain ⟨hP1, hK1, hD1⟩ := hB
  rw [ht] at hP1
  have e293 := hw
  try dsimp only at e293
  obtain ⟨hP, hD⟩ := va_join (wr := [(q1, .inr (1, [.int th, .long up, .long lo, .long le]))]) (w1 := [(q0, .inr (0, [])), (q2, .inl (cA, 1, .inr (.inl g293)))]) hP hD [0, 2] [1] rfl rfl (by decide) (by decide) hk1 hFc hP1 hD1
  generalize H1 = H at hP hS ⊢
  have hP := hP.sub (ws' := [(q0, .inr (0, [])), (q1, .inr (1, [.int th, .long up, .long lo, .long le])), (q2, .inl (cA, 1, .inr (.inl g293)))]) [1, 0, 2] rfl
  have hD := hD.sub (ws' := [(q0, .inr (0, [])), (q1, .inr (1, [.int th, .long up, .long lo, .long le])), (q2, .inl (cA, 1, .inr (.inl g293)))]) [1, 0, 2] (by decide) rfl
  refine lv_istore (lv' := [(5, .int v293), (4, .int iv), (3, .ref q2), (2, .ref q1), (1, .ref q0), (0, .ref b)]) hx hb d_law_296 hl (by decide) rfl (fun ls hl => ?_)
  refine lv_aload_n hx hb d_law_298 rfl (lv_at hl 3 rfl) ?_
  refine lv_aload_n hx hb d_law_299 rfl (lv_at hl 5 rfl) ?_
  refine lv_iload hx hb d_law_300 (lv_at hl 1 rfl) ?_
  refine lv_iconst (v := 1) hx hb d_law_302 (by decide) ?_
  refine lv_iadd hx hb d_law_303 ?_
  refine lv_topi (fun v303 e303 => ?_)
  refine lw_ld hx hb hX hbl hS hL (j := 7 * tt + 1) (by omega) (by rw [e303, hi]; exact nI_add _ _) hX1 d_law_304 ?_
  refine lv_i2l hx hb d_law_305 rfl ?_
  refine lv_topl (fun v305 e305 => ?_)
  refine lv_bipush (v := 32) hx hb d_law_306 (by decide) ?_
  refine lv_lshl hx hb d_law_308 rfl ?_
  refine lv_topl (fun v308 e308 => ?_)
  refine lv_aload_n hx hb d_law_309 rfl (lv_at hl 5 rfl) ?_
  refine lv_iload hx hb d_law_310 (lv_at hl 1 rfl) ?_
  refine lv_iconst (v := 2) hx hb d_law_312 (by decide) ?_
  refine lv_iadd hx hb d_law_313 ?_
  refine lv_topi (fun v313 e313 => ?_)
  refine lw_ld hx hb hX hbl hS hL (j := 7 * tt + 2) (by omega) (by rw [e313, hi]; exact nI_add _ _) hX2 d_law_314 ?_
  refine lv_i2l hx hb d_law_315 rfl ?_
  refine lv_topl (fun v315 e315 => ?_)
  refine lv_ldc2 (v := 4294967295) hx hb hown (hts (.constantLong R_L 49 4294967295) (by decide +kernel)) d_law_316 ?_
  refine lv_land hx hb d_law_319 ?_
  refine lv_topl (fun v319 e319 => ?_)
  refine lv_lor hx hb d_law_320 ?_
  refine lv_topl (fun v320 e320 => ?_)
  obtain rfl : v320 = lw_j X1 X2 := by rw [e320, e308, e305, e319, e315]; rfl
  refine lv_aload_n hx hb d_law_321 rfl (lv_at hl 5 rfl) ?_
  refine lv_iload hx hb d_law_322 (lv_at hl 1 rfl) ?_
  refine lv_iconst (v := 3) hx hb d_law_324 (by decide) ?_
  refine lv_iadd hx hb d_law_325 ?_
  refine lv_topi (fun v325 e325 => ?_)
  refine lw_ld hx hb hX hbl hS hL (j := 7 * tt + 3) (by omega) (by rw [e325, hi]; exact nI_add _ _) hX3 d_law_326 ?_
  refine lv_i2l hx hb d_law_327 rfl ?_
  refine lv_topl (fun v327 e327 => ?_)
  refine lv_bipush (v := 32) hx hb d_law_328 (by decide) ?_
  refine lv_lshl hx hb d_law_330 rfl ?_
  refine lv_topl (fun v330 e330 => ?_)
  refine lv_aload_n hx hb d_law_331 rfl (lv_at hl 5 rfl) ?_
  refine lv_iload hx hb d_law_332 (lv_at hl 1 rfl) ?_
  refine lv_iconst (v := 4) hx hb d_law_334 (by decide) ?_
  refine lv_iadd hx hb d_law_335 ?_
  refine lv_topi (fun v335 e335 => ?_)
  refine lw_ld hx hb hX hbl hS hL (j := 7 * tt + 4) (by omega) (by rw [e335, hi]; exact nI_add _ _) hX4 d_law_336 ?_
  refine lv_i2l hx hb d_law_337 rfl ?_
  refine lv_topl (fun v337 e337 => ?_)
  refine lv_ldc2 (v := 4294967295) hx hb hown (hts (.constantLong R_L 49 4294967295) (by decide +kernel)) d_law_338 ?_
  refine lv_land hx hb d_law_341 ?_
  refine lv_topl (fun v341 e341 => ?_)
  refine lv_lor hx hb d_law_342 ?_
  refine lv_topl (fun v342 e342 => ?_)
  obtain rfl : v342 = lw_j X3 X4 := by rw [e342, e330, e327, e341, e337]; rfl
  refine lv_aload_n hx hb d_law_343 rfl (lv_at hl 5 rfl) ?_
  refine lv_iload hx hb d_law_344 (lv_at hl 1 rfl) ?_
  refine lv_iconst (v := 5) hx hb d_law_346 (by decide) ?_
  refine lv_iadd hx hb d_law_347 ?_
  refine lv_topi (fun v347 e347 => ?_)
  refine lw_ld hx hb hX hbl hS hL (j := 7 * tt + 5) (by omega) (by rw [e347, hi]; exact nI_add _ _) hX5 d_law_348 ?_
  refine lv_i2l hx hb d_law_349 rfl ?_
  refine lv_topl (fun v349 e349 => ?_)
  refine lv_bipush (v := 32) hx hb d_law_350 (by decide) ?_
  refine lv_lshl hx hb d_law_352 rfl ?_
  refine lv_topl (fun v352 e352 => ?_)
  refine lv_aload_n hx hb d_law_353 rfl (lv_at hl 5 rfl) ?_
  refine lv_iload hx hb d_law_354 (lv_at hl 1 rfl) ?_
  refine lv_bipush (v := 6) hx hb d_law_356 (by decide) ?_
  refine lv_iadd hx hb d_law_358 ?_
  refine lv_topi (fun v358 e358 => ?_)
  refine lw_ld hx hb hX hbl hS hL (j := 7 * tt + 6) (by omega) (by rw [e358, hi]; exact nI_add _ _) hX6 d_law_359 ?_
  refine lv_i2l hx hb d_law_360 rfl ?_
  refine lv_topl (fun v360 e360 => ?_)
  refine lv_ldc2 (v := 4294967295) hx hb hown (hts (.constantLong R_L 49 4294967295) (by decide +kernel)) d_law_361 ?_
  refine lv_land hx hb d_law_364 ?_
  refine lv_topl (fun v364 e364 => ?_)
  refine lv_lor hx hb d_law_365 ?_
  refine lv_topl (fun v365 e365 => ?_)
  obtain rfl : v365 = lw_j X5 X6 := by rw [e365, e352, e349, e364, e360]; rfl
  have hPc := hP.sub (ws' := [(q1, .inr (1, [.int th, .long up, .long lo, .long le]))]) [1] rfl
  have hDc := hD.sub (ws' := [(q1, .inr (1, [.int th, .long up, .long lo, .long le]))]) [1] (by decide) rfl
  have hFc := va_free (wc := [(q1, .inr (1, [.int th, .long up, .long lo, .long le]))]) hD hS hA [1] rfl
  have hKc := hK.sub (tys' := []) [] rfl
  refine va_calll (va_runV (As := [.long (lw_j X1 X2), .long (lw_j X3 X4), .long (lw_j X5 X6)]) (rest := []) ⟨hx, hb, hml, hown, hts⟩ (c_M_ratio l dC dI q1 H.size th up lo le (lw_j X1 X2) (lw_j X3 X4) (lw_j X5 X6)) (cwV 3 hts g_law_56 rfl rfl rfl (by decide +kernel) ⟨Nat.le_of_ble_eq_true rfl, Nat.le_of_ble_eq_true rfl⟩) ⟨fun a U g mk q => by obtain ⟨q0, q1, qP, qK, qD⟩ := q; exact ⟨q0, q1, qP, va_K.moved (u := U) (U := U.calling g mk a) (Vm.Alike.refl U.vm) qK, qD⟩, va_recv hKc hPc (ci := 1) (q0 := 0) rfl rfl, fun U hU hW => ⟨rfl, by rw [hU], by rw [hU]; exact hPc, va_K.moved hW.alike hKc, hDc.weaken (fun _ _ _ _ => trivial)⟩⟩ rfl rfl hl.1 rfl (lv_room (Nat.le_of_ble_eq_true rfl)) d_law_366 ⟨by show _ ≤ 1034; omega, by show _ ≤ 8239; omega⟩) hS (fun q _ h => hFc q h) hFc (fun v366 u t H1 locs ht hvm hw hB hz1 hk1 hS => ?_)
  obtain ⟨th366, up366, lo366, le366⟩ := u
  obtain ⟨hP1, hK1, hD1⟩ := hB
  rw [ht] at hP1
  have e366 := hw
  try dsimp only at e366
  obtain ⟨hP, hD⟩ := va_join (wr := [(q0, .inr (0, [])), (q2, .inl (cA, 1, .inr (.inl g293)))]) (w1 := [(q1, .inr (1, [.int th366, .long up366, .long lo366, .long le366]))]) hP hD [1] [0, 2] rfl rfl (by decide) (by decide) hk1 hFc hP1 hD1
  generalize H1 = H at hP hS ⊢
  have hP := hP.sub (ws' := [(q0, .inr (0, [])), (q1, .inr (1, [.int th366, .long up366, .long lo366, .long le366])), (q2, .inl (cA, 1, .inr (.inl g293)))]) [0, 2, 1] rfl
  have hD := hD.sub (ws' := [(q0, .inr (0, [])), (q1, .inr (1, [.int th366, .long up366, .long lo366, .long le366])), (q2, .inl (cA, 1, .inr (.inl g293)))]) [0, 2, 1] (by decide) rfl
  refine lv_lstore (lv' := [(6, .long v366), (5, .int v293), (4, .int iv), (3, .ref q2), (2, .ref q1), (1, .ref q0), (0, .ref b)]) hx hb d_law_369 hl (by decide) rfl (fun ls hl => ?_)
  refine lv_aload_n hx hb d_law_371 rfl (lv_at hl 4 rfl) ?_
  have hPc := hP.sub (ws' := [(q1, .inr (1, [.int th366, .long up366, .long lo366, .long le366]))]) [1] rfl
  have hDc := hD.sub (ws' := [(q1, .inr (1, [.int th366, .long up366, .long lo366, .long le366]))]) [1] (by decide) rfl
  have hFc := va_free (wc := [(q1, .inr (1, [.int th366, .long up366, .long lo366, .long le366]))]) hD hS hA [1] rfl
  have hKc := hK.sub (tys' := []) [] rfl
  refine va_calli (va_runV (As := []) (rest := []) ⟨hx, hb, hml, hown, hts⟩ (c_M_thrown l dC dI q1 H.size th366 up366 lo366 le366 ) (cwV 0 hts g_law_57 rfl rfl rfl (by decide +kernel) ⟨Nat.le_of_ble_eq_true rfl, Nat.le_of_ble_eq_true rfl⟩) ⟨fun a U g mk q => by obtain ⟨q0, q1, qP, qK, qD⟩ := q; exact ⟨q0, q1, qP, va_K.moved (u := U) (U := U.calling g mk a) (Vm.Alike.refl U.vm) qK, qD⟩, va_recv hKc hPc (ci := 1) (q0 := 0) rfl rfl, fun U hU hW => ⟨rfl, by rw [hU], by rw [hU]; exact hPc, va_K.moved hW.alike hKc, hDc.weaken (fun _ _ _ _ => trivial)⟩⟩ rfl rfl hl.1 rfl (lv_room (Nat.le_of_ble_eq_true rfl)) d_law_372 ⟨by show _ ≤ 1034; omega, by show _ ≤ 8239; omega⟩) hS (fun q _ h => hFc q h) hFc (fun v372 u t H1 locs ht hvm hw hB hz1 hk1 hS => ?_)
  obtain ⟨th372, up372, lo372, le372⟩ := u
  obtain ⟨hP1, hK1, hD1⟩ := hB
  rw [ht] at hP1
  have e372 := hw
  try dsimp only at e372
  obtain ⟨hP, hD⟩ := va_join (wr := [(q0, .inr (0, [])), (q2, .inl (cA, 1, .inr (.inl g293)))]) (w1 := [(q1, .inr (1, [.int th372, .long up372, .long lo372, .long le372]))]) hP hD [1] [0, 2] rfl rfl (by decide) (by decide) hk1 hFc hP1 hD1
  generalize H1 = H at hP hS ⊢
  have hP := hP.sub (ws' := [(q0, .inr (0, [])), (q1, .inr (1, [.int th372, .long up372, .long lo372, .long le372])), (q2, .inl (cA, 1, .inr (.inl g293)))]) [0, 2, 1] rfl
  have hD := hD.sub (ws' := [(q0, .inr (0, [])), (q1, .inr (1, [.int th372, .long up372, .long lo372, .long le372])), (q2, .inl (cA, 1, .inr (.inl g293)))]) [0, 2, 1] (by decide) rfl
  refine lv_iload hx hb d_law_375 (lv_at hl 1 rfl) ?_
  refine lv_icmp_eq (tgt := 382) hx hb d_law_377 (by decide) (fun c377 => ?_) (fun c377 => absurd (lw_k e293 e366 (fun z => by obtain ⟨v, z, -⟩ := z; exact lw_q0 v z) (fun z => lw_q0 _ z) e372.1) c377)
  refine lv_iload hx hb d_law_382 (lv_at hl 1 rfl) ?_
  refine lv_if_ne (tgt := 398) hx hb d_law_384 (by decide) (fun c384 => ?_) (fun c384 => ?_)
  · skip
    refine lv_goto (tgt := 758) hx hb d_law_398 (by decide) ?_
    refine W.widen (k := 4 + tt) (n := 11 + 6 * tt) (by omega) (by omega) ?_
    exact KK th372 up372 lo372 le372 g293 _ _ _ hP hD hS (lv_sub hl [2, 3, 4, 5, 6] rfl)
  · skip
    refine lv_aload_n hx hb d_law_387 rfl (lv_at hl 3 rfl) ?_
    refine lv_iconst (v := 0) hx hb d_law_388 (by decide) ?_
    refine va_lald hx hb hK hP 2 0 rfl rfl (i := 0) (pk_in 0 1 (by decide)) d_law_389 ?_
    refine lv_topl (fun v389 e389 => ?_)
    refine lv_lload hx hb d_law_390 (lv_at hl 0 rfl) ?_
    refine W.lcmp hx hb d_law_392 ?_
    refine lv_if_eq (tgt := 398) hx hb d_law_393 (by decide) (fun c393 => ?_) (fun c393 => absurd ((lg_cmp_eq _ _).mpr (lw_v4 e293 e366 lw_q1 lw_q0 c384 e389)) c393)
    refine lv_goto (tgt := 758) hx hb d_law_398 (by decide) ?_
    refine W.widen (k := 4 + tt) (n := 11 + 6 * tt) (by omega) (by omega) ?_
    exact KK th372 up372 lo372 le372 g293 _ _ _ hP hD hS (lv_sub hl [2, 3, 4, 5, 6] rfl)
set_option maxHeartbeats 8000000 in
set_option maxRecDepth 100000 in
theorem lc_5 {p : Program} {l : Launch} {e : Env} {s : State} {m : MethodId} {below : List Frame} {meth : Method} {c : Code} {dC : Nat → ClassId} {dI : Nat → Nat → Nat} {b L : Nat} {xs : Nat → Int32} (hfl : l.flags = flags0) (hL : L ≤ 3584) (C0 : lw_At p s m meth c b L xs) (hZ : th_Z s.heap.size s) {tt : Nat} (htt : 7 * tt + 7 ≤ L) {q0 q1 q2 : Nat} {cA : ClassId} {th : Int32} {up lo le : Int64} {f : Nat → Int64} {H : Heap} {locs : List Loc} {ls : Array Slot} {iv : Int32} (hi : iv = nI (7 * tt)) (hK : va_K (dC, dI) classes [(cA, .long)] s) (hP : va_P (dC, dI) classes (WX q0 q1 q2 cA th up lo le f) H) (hD : va_D (fun q : Nat => s.heap.size ≤ q) (WX q0 q1 q2 cA th up lo le f)) (hS : va_S (fun q : Nat => s.heap.size ≤ q) s.heap H locs) (hl : lv_has ls 8 [(4, .int iv), (3, .ref q2), (2, .ref q1), (1, .ref q0), (0, .ref b)])
    (KK : ∀ (th : Int32) (up lo le : Int64) (f : Nat → Int64) (H : Heap) (locs : List Loc) (ls : Array Slot), va_P (dC, dI) classes (WX q0 q1 q2 cA th up lo le f) H → va_D (fun q : Nat => s.heap.size ≤ q) (WX q0 q1 q2 cA th up lo le f) → va_S (fun q : Nat => s.heap.size ≤ q) s.heap H locs → lv_has ls 8 [(4, .int iv), (3, .ref q2), (2, .ref q1), (1, .ref q0), (0, .ref b)] → W p l e room_1 s m #[Value.ref b] below meth c H locs (4 + tt) (11 + 6 * tt) (lw_Z below #[Value.ref b] s) (F0 m 758 ls [])) :
    W p l e room_1 s m #[Value.ref b] below meth c H locs (3 + tt) (5 + 6 * tt) (lw_Z below #[Value.ref b] s) (F0 m 401 ls []) := by
  obtain ⟨hx, hb, hr, hml, hown, hts, hX, hbl, hlocks, hgv⟩ := C0
  have hown : s.vm.findClass R_L = some m.cls := hown
  have hA : ∀ q : Nat, s.heap.size ≤ q → (fun q : Nat => s.heap.size ≤ q) q := fun _ h => h
  obtain ⟨X1, hX1⟩ : ∃ y, y = xs (7 * tt + 1) := ⟨_, rfl⟩
  obtain ⟨X2, hX2⟩ : ∃ y, y = xs (7 * tt + 2) := ⟨_, rfl⟩
  obtain ⟨X3, hX3⟩ : ∃ y, y = xs (7 * tt + 3) := ⟨_, rfl⟩
  obtain ⟨X4, hX4⟩ : ∃ y, y = xs (7 * tt + 4) := ⟨_, rfl⟩
  obtain ⟨X5, hX5⟩ : ∃ y, y = xs (7 * tt + 5) := ⟨_, rfl⟩
  obtain ⟨X6, hX6⟩ : ∃ y, y = xs (7 * tt + 6) := ⟨_, rfl⟩
  have hP : va_P (dC, dI) classes [(q0, .inr (0, [])), (q1, .inr (1, [.int th, .long up, .long lo, .long le])), (q2, .inl (cA, 1, .inr (.inl f)))] H := hP
  have hD : va_D (fun q : Nat => s.heap.size ≤ q) [(q0, .inr (0, [])), (q1, .inr (1, [.int th, .long up, .long lo, .long le])), (q2, .inl (cA, 1, .inr (.inl f)))] := hD
  refine lv_aload_n hx hb d_law_401 rfl (lv_at hl 3 rfl) ?_
  refine lv_aload_n hx hb d_law_402 rfl (lv_at hl 4 rfl) ?_
  refine lv_iload hx hb d_law_403 (lv_at hl 0 rfl) ?_
  refine lv_iconst (v := 1) hx hb d_law_405 (by decide) ?_
  refine lv_iadd hx hb d_law_406 ?_
  refine lv_topi (fun v406 e406 => ?_)
  refine lw_ld hx hb hX hbl hS hL (j := 7 * tt + 1) (by omega) (by rw [e406, hi]; exact nI_add _ _) hX1 d_law_407 ?_
  refine lv_aload_n hx hb d_law_408 rfl (lv_at hl 4 rfl) ?_
  refine lv_iload hx hb d_law_409 (lv_at hl 0 rfl) ?_
  refine lv_iconst (v := 2) hx hb d_law_411 (by decide) ?_
  refine lv_iadd hx hb d_law_412 ?_
  refine lv_topi (fun v412 e412 => ?_)
  refine lw_ld hx hb hX hbl hS hL (j := 7 * tt + 2) (by omega) (by rw [e412, hi]; exact nI_add _ _) hX2 d_law_413 ?_
  refine lv_aload_n hx hb d_law_414 rfl (lv_at hl 4 rfl) ?_
  refine lv_iload hx hb d_law_415 (lv_at hl 0 rfl) ?_
  refine lv_iconst (v := 3) hx hb d_law_417 (by decide) ?_
  refine lv_iadd hx hb d_law_418 ?_
  refine lv_topi (fun v418 e418 => ?_)
  refine lw_ld hx hb hX hbl hS hL (j := 7 * tt + 3) (by omega) (by rw [e418, hi]; exact nI_add _ _) hX3 d_law_419 ?_
  refine lv_i2l hx hb d_law_420 rfl ?_
  refine lv_topl (fun v420 e420 => ?_)
  refine lv_bipush (v := 32) hx hb d_law_421 (by decide) ?_
  refine lv_lshl hx hb d_law_423 rfl ?_
  refine lv_topl (fun v423 e423 => ?_)
  refine lv_aload_n hx hb d_law_424 rfl (lv_at hl 4 rfl) ?_
  refine lv_iload hx hb d_law_425 (lv_at hl 0 rfl) ?_
  refine lv_iconst (v := 4) hx hb d_law_427 (by decide) ?_
  refine lv_iadd hx hb d_law_428 ?_
  refine lv_topi (fun v428 e428 => ?_)
  refine lw_ld hx hb hX hbl hS hL (j := 7 * tt + 4) (by omega) (by rw [e428, hi]; exact nI_add _ _) hX4 d_law_429 ?_
  refine lv_i2l hx hb d_law_430 rfl ?_
  refine lv_topl (fun v430 e430 => ?_)
  refine lv_ldc2 (v := 4294967295) hx hb hown (hts (.constantLong R_L 49 4294967295) (by decide +kernel)) d_law_431 ?_
  refine lv_land hx hb d_law_434 ?_
  refine lv_topl (fun v434 e434 => ?_)
  refine lv_lor hx hb d_law_435 ?_
  refine lv_topl (fun v435 e435 => ?_)
  obtain rfl : v435 = lw_j X3 X4 := by rw [e435, e423, e420, e434, e430]; rfl
  refine lv_aload_n hx hb d_law_436 rfl (lv_at hl 4 rfl) ?_
  refine lv_iload hx hb d_law_437 (lv_at hl 0 rfl) ?_
  refine lv_iconst (v := 5) hx hb d_law_439 (by decide) ?_
  refine lv_iadd hx hb d_law_440 ?_
  refine lv_topi (fun v440 e440 => ?_)
  refine lw_ld hx hb hX hbl hS hL (j := 7 * tt + 5) (by omega) (by rw [e440, hi]; exact nI_add _ _) hX5 d_law_441 ?_
  refine lv_i2l hx hb d_law_442 rfl ?_
  refine lv_topl (fun v442 e442 => ?_)
  refine lv_bipush (v := 32) hx hb d_law_443 (by decide) ?_
  refine lv_lshl hx hb d_law_445 rfl ?_
  refine lv_topl (fun v445 e445 => ?_)
  refine lv_aload_n hx hb d_law_446 rfl (lv_at hl 4 rfl) ?_
  refine lv_iload hx hb d_law_447 (lv_at hl 0 rfl) ?_
  refine lv_bipush (v := 6) hx hb d_law_449 (by decide) ?_
  refine lv_iadd hx hb d_law_451 ?_
  refine lv_topi (fun v451 e451 => ?_)
  refine lw_ld hx hb hX hbl hS hL (j := 7 * tt + 6) (by omega) (by rw [e451, hi]; exact nI_add _ _) hX6 d_law_452 ?_
  refine lv_i2l hx hb d_law_453 rfl ?_
  refine lv_topl (fun v453 e453 => ?_)
  refine lv_ldc2 (v := 4294967295) hx hb hown (hts (.constantLong R_L 49 4294967295) (by decide +kernel)) d_law_454 ?_
  refine lv_land hx hb d_law_457 ?_
  refine lv_topl (fun v457 e457 => ?_)
  refine lv_lor hx hb d_law_458 ?_
  refine lv_topl (fun v458 e458 => ?_)
  obtain rfl : v458 = lw_j X5 X6 := by rw [e458, e445, e442, e457, e453]; rfl
  refine lv_aload_n hx hb d_law_459 rfl (lv_at hl 1 rfl) ?_
  have hPc := hP.sub (ws' := [(q0, .inr (0, [])), (q2, .inl (cA, 1, .inr (.inl f)))]) [0, 2] rfl
  have hDc := hD.sub (ws' := [(q0, .inr (0, [])), (q2, .inl (cA, 1, .inr (.inl f)))]) [0, 2] (by decide) rfl
  have hFc := va_free (wc := [(q0, .inr (0, [])), (q2, .inl (cA, 1, .inr (.inl f)))]) hD hS hA [0, 2] rfl
  have hcw9 := th_cwSW (R := room_1) (rm := { frames := 7, cells := 1, slots := 6, locals := 140 }) (mc := 1) (ms := 6) 6 hts g_law_61 rfl rfl rfl (by decide +kernel) ⟨Nat.le_of_ble_eq_true rfl, Nat.le_of_ble_eq_true rfl⟩
  refine va_calli (th_runSW (As := [.ref q0, .int X1, .int X2, .long (lw_j X3 X4), .long (lw_j X5 X6), .ref q2]) (rest := []) ⟨hx, hb, hml, hown, hts⟩ (c_L_between l hfl dC dI s.heap.size q0 q2 H.size cA f X1 X2 (lw_j X3 X4) (lw_j X5 X6)) hcw9.1 hcw9.2 ⟨fun a U g mk q => by obtain ⟨q0, q1, qP, qK, qD, qZ⟩ := q; exact ⟨q0, q1, qP, va_K.moved (u := U) (U := U.calling g mk a) (Vm.Alike.refl U.vm) qK, qD, th_Z.call qZ⟩, fun U hU hW => ⟨rfl, by rw [hU], by rw [hU]; exact hPc, va_K.moved hW.alike hK, hDc.weaken (fun _ _ _ _ => trivial), th_Z.to hZ hW (fun q h1 h2 => by rw [hU]; exact hS.2.1 q h1 h2)⟩⟩ rfl rfl hl.1 rfl (lv_room (Nat.le_of_ble_eq_true rfl)) d_law_460 ⟨by show _ ≤ 1034; omega, by show _ ≤ 8239; omega⟩) hS (fun q _ h => hFc q h) hFc (fun v460 g460 t H1 locs ht hvm hw hB hz1 hk1 hS => ?_)
  obtain ⟨hP1, hK1, hD1⟩ := hB
  rw [ht] at hP1
  have e460 := hw
  try dsimp only at e460
  obtain ⟨hP, hD⟩ := va_join (wr := [(q1, .inr (1, [.int th, .long up, .long lo, .long le]))]) (w1 := [(q0, .inr (0, [])), (q2, .inl (cA, 1, .inr (.inl g460)))]) hP hD [0, 2] [1] rfl rfl (by decide) (by decide) hk1 hFc hP1 hD1
  generalize H1 = H at hP hS ⊢
  have hP := hP.sub (ws' := [(q0, .inr (0, [])), (q1, .inr (1, [.int th, .long up, .long lo, .long le])), (q2, .inl (cA, 1, .inr (.inl g460)))]) [1, 0, 2] rfl
  have hD := hD.sub (ws' := [(q0, .inr (0, [])), (q1, .inr (1, [.int th, .long up, .long lo, .long le])), (q2, .inl (cA, 1, .inr (.inl g460)))]) [1, 0, 2] (by decide) rfl
  refine lv_istore (lv' := [(5, .int v460), (4, .int iv), (3, .ref q2), (2, .ref q1), (1, .ref q0), (0, .ref b)]) hx hb d_law_463 hl (by decide) rfl (fun ls hl => ?_)
  refine lv_aload_n hx hb d_law_465 rfl (lv_at hl 3 rfl) ?_
  refine lv_aload_n hx hb d_law_466 rfl (lv_at hl 5 rfl) ?_
  refine lv_iload hx hb d_law_467 (lv_at hl 1 rfl) ?_
  refine lv_iconst (v := 1) hx hb d_law_469 (by decide) ?_
  refine lv_iadd hx hb d_law_470 ?_
  refine lv_topi (fun v470 e470 => ?_)
  refine lw_ld hx hb hX hbl hS hL (j := 7 * tt + 1) (by omega) (by rw [e470, hi]; exact nI_add _ _) hX1 d_law_471 ?_
  refine lv_aload_n hx hb d_law_472 rfl (lv_at hl 5 rfl) ?_
  refine lv_iload hx hb d_law_473 (lv_at hl 1 rfl) ?_
  refine lv_iconst (v := 2) hx hb d_law_475 (by decide) ?_
  refine lv_iadd hx hb d_law_476 ?_
  refine lv_topi (fun v476 e476 => ?_)
  refine lw_ld hx hb hX hbl hS hL (j := 7 * tt + 2) (by omega) (by rw [e476, hi]; exact nI_add _ _) hX2 d_law_477 ?_
  refine lv_aload_n hx hb d_law_478 rfl (lv_at hl 5 rfl) ?_
  refine lv_iload hx hb d_law_479 (lv_at hl 1 rfl) ?_
  refine lv_iconst (v := 3) hx hb d_law_481 (by decide) ?_
  refine lv_iadd hx hb d_law_482 ?_
  refine lv_topi (fun v482 e482 => ?_)
  refine lw_ld hx hb hX hbl hS hL (j := 7 * tt + 3) (by omega) (by rw [e482, hi]; exact nI_add _ _) hX3 d_law_483 ?_
  refine lv_i2l hx hb d_law_484 rfl ?_
  refine lv_topl (fun v484 e484 => ?_)
  refine lv_bipush (v := 32) hx hb d_law_485 (by decide) ?_
  refine lv_lshl hx hb d_law_487 rfl ?_
  refine lv_topl (fun v487 e487 => ?_)
  refine lv_aload_n hx hb d_law_488 rfl (lv_at hl 5 rfl) ?_
  refine lv_iload hx hb d_law_489 (lv_at hl 1 rfl) ?_
  refine lv_iconst (v := 4) hx hb d_law_491 (by decide) ?_
  refine lv_iadd hx hb d_law_492 ?_
  refine lv_topi (fun v492 e492 => ?_)
  refine lw_ld hx hb hX hbl hS hL (j := 7 * tt + 4) (by omega) (by rw [e492, hi]; exact nI_add _ _) hX4 d_law_493 ?_
  refine lv_i2l hx hb d_law_494 rfl ?_
  refine lv_topl (fun v494 e494 => ?_)
  refine lv_ldc2 (v := 4294967295) hx hb hown (hts (.constantLong R_L 49 4294967295) (by decide +kernel)) d_law_495 ?_
  refine lv_land hx hb d_law_498 ?_
  refine lv_topl (fun v498 e498 => ?_)
  refine lv_lor hx hb d_law_499 ?_
  refine lv_topl (fun v499 e499 => ?_)
  obtain rfl : v499 = lw_j X3 X4 := by rw [e499, e487, e484, e498, e494]; rfl
  refine lv_aload_n hx hb d_law_500 rfl (lv_at hl 5 rfl) ?_
  refine lv_iload hx hb d_law_501 (lv_at hl 1 rfl) ?_
  refine lv_iconst (v := 5) hx hb d_law_503 (by decide) ?_
  refine lv_iadd hx hb d_law_504 ?_
  refine lv_topi (fun v504 e504 => ?_)
  refine lw_ld hx hb hX hbl hS hL (j := 7 * tt + 5) (by omega) (by rw [e504, hi]; exact nI_add _ _) hX5 d_law_505 ?_
  refine lv_i2l hx hb d_law_506 rfl ?_
  refine lv_topl (fun v506 e506 => ?_)
  refine lv_bipush (v := 32) hx hb d_law_507 (by decide) ?_
  refine lv_lshl hx hb d_law_509 rfl ?_
  refine lv_topl (fun v509 e509 => ?_)
  refine lv_aload_n hx hb d_law_510 rfl (lv_at hl 5 rfl) ?_
  refine lv_iload hx hb d_law_511 (lv_at hl 1 rfl) ?_
  refine lv_bipush (v := 6) hx hb d_law_513 (by decide) ?_
  refine lv_iadd hx hb d_law_515 ?_
  refine lv_topi (fun v515 e515 => ?_)
  refine lw_ld hx hb hX hbl hS hL (j := 7 * tt + 6) (by omega) (by rw [e515, hi]; exact nI_add _ _) hX6 d_law_516 ?_
  refine lv_i2l hx hb d_law_517 rfl ?_
  refine lv_topl (fun v517 e517 => ?_)
  refine lv_ldc2 (v := 4294967295) hx hb hown (hts (.constantLong R_L 49 4294967295) (by decide +kernel)) d_law_518 ?_
  refine lv_land hx hb d_law_521 ?_
  refine lv_topl (fun v521 e521 => ?_)
  refine lv_lor hx hb d_law_522 ?_
  refine lv_topl (fun v522 e522 => ?_)
  obtain rfl : v522 = lw_j X5 X6 := by rw [e522, e509, e506, e521, e517]; rfl
  have hPc := hP.sub (ws' := [(q1, .inr (1, [.int th, .long up, .long lo, .long le]))]) [1] rfl
  have hDc := hD.sub (ws' := [(q1, .inr (1, [.int th, .long up, .long lo, .long le]))]) [1] (by decide) rfl
  have hFc := va_free (wc := [(q1, .inr (1, [.int th, .long up, .long lo, .long le]))]) hD hS hA [1] rfl
  have hKc := hK.sub (tys' := []) [] rfl
  refine va_calli (va_runV (As := [.int X1, .int X2, .long (lw_j X3 X4), .long (lw_j X5 X6)]) (rest := []) ⟨hx, hb, hml, hown, hts⟩ (c_M_between l dC dI q1 H.size th up lo le X1 X2 (lw_j X3 X4) (lw_j X5 X6)) (cwV 4 hts g_law_64 rfl rfl rfl (by decide +kernel) ⟨Nat.le_of_ble_eq_true rfl, Nat.le_of_ble_eq_true rfl⟩) ⟨fun a U g mk q => by obtain ⟨q0, q1, qP, qK, qD⟩ := q; exact ⟨q0, q1, qP, va_K.moved (u := U) (U := U.calling g mk a) (Vm.Alike.refl U.vm) qK, qD⟩, va_recv hKc hPc (ci := 1) (q0 := 0) rfl rfl, fun U hU hW => ⟨rfl, by rw [hU], by rw [hU]; exact hPc, va_K.moved hW.alike hKc, hDc.weaken (fun _ _ _ _ => trivial)⟩⟩ rfl rfl hl.1 rfl (lv_room (Nat.le_of_ble_eq_true rfl)) d_law_523 ⟨by show _ ≤ 1034; omega, by show _ ≤ 8239; omega⟩) hS (fun q _ h => hFc q h) hFc (fun v523 u t H1 locs ht hvm hw hB hz1 hk1 hS => ?_)
  obtain ⟨th523, up523, lo523, le523⟩ := u
  obtain ⟨hP1, hK1, hD1⟩ := hB
  rw [ht] at hP1
  have e523 := hw
  try dsimp only at e523
  obtain ⟨hP, hD⟩ := va_join (wr := [(q0, .inr (0, [])), (q2, .inl (cA, 1, .inr (.inl g460)))]) (w1 := [(q1, .inr (1, [.int th523, .long up523, .long lo523, .long le523]))]) hP hD [1] [0, 2] rfl rfl (by decide) (by decide) hk1 hFc hP1 hD1
  generalize H1 = H at hP hS ⊢
  have hP := hP.sub (ws' := [(q0, .inr (0, [])), (q1, .inr (1, [.int th523, .long up523, .long lo523, .long le523])), (q2, .inl (cA, 1, .inr (.inl g460)))]) [0, 2, 1] rfl
  have hD := hD.sub (ws' := [(q0, .inr (0, [])), (q1, .inr (1, [.int th523, .long up523, .long lo523, .long le523])), (q2, .inl (cA, 1, .inr (.inl g460)))]) [0, 2, 1] (by decide) rfl
  refine lv_istore (lv' := [(6, .int v523), (5, .int v460), (4, .int iv), (3, .ref q2), (2, .ref q1), (1, .ref q0), (0, .ref b)]) hx hb d_law_526 hl (by decide) rfl (fun ls hl => ?_)
  refine lv_aload_n hx hb d_law_528 rfl (lv_at hl 4 rfl) ?_
  have hPc := hP.sub (ws' := [(q1, .inr (1, [.int th523, .long up523, .long lo523, .long le523]))]) [1] rfl
  have hDc := hD.sub (ws' := [(q1, .inr (1, [.int th523, .long up523, .long lo523, .long le523]))]) [1] (by decide) rfl
  have hFc := va_free (wc := [(q1, .inr (1, [.int th523, .long up523, .long lo523, .long le523]))]) hD hS hA [1] rfl
  have hKc := hK.sub (tys' := []) [] rfl
  refine va_calli (va_runV (As := []) (rest := []) ⟨hx, hb, hml, hown, hts⟩ (c_M_thrown l dC dI q1 H.size th523 up523 lo523 le523 ) (cwV 0 hts g_law_57 rfl rfl rfl (by decide +kernel) ⟨Nat.le_of_ble_eq_true rfl, Nat.le_of_ble_eq_true rfl⟩) ⟨fun a U g mk q => by obtain ⟨q0, q1, qP, qK, qD⟩ := q; exact ⟨q0, q1, qP, va_K.moved (u := U) (U := U.calling g mk a) (Vm.Alike.refl U.vm) qK, qD⟩, va_recv hKc hPc (ci := 1) (q0 := 0) rfl rfl, fun U hU hW => ⟨rfl, by rw [hU], by rw [hU]; exact hPc, va_K.moved hW.alike hKc, hDc.weaken (fun _ _ _ _ => trivial)⟩⟩ rfl rfl hl.1 rfl (lv_room (Nat.le_of_ble_eq_true rfl)) d_law_529 ⟨by show _ ≤ 1034; omega, by show _ ≤ 8239; omega⟩) hS (fun q _ h => hFc q h) hFc (fun v529 u t H1 locs ht hvm hw hB hz1 hk1 hS => ?_)
  obtain ⟨th529, up529, lo529, le529⟩ := u
  obtain ⟨hP1, hK1, hD1⟩ := hB
  rw [ht] at hP1
  have e529 := hw
  try dsimp only at e529
  obtain ⟨hP, hD⟩ := va_join (wr := [(q0, .inr (0, [])), (q2, .inl (cA, 1, .inr (.inl g460)))]) (w1 := [(q1, .inr (1, [.int th529, .long up529, .long lo529, .long le529]))]) hP hD [1] [0, 2] rfl rfl (by decide) (by decide) hk1 hFc hP1 hD1
  generalize H1 = H at hP hS ⊢
  have hP := hP.sub (ws' := [(q0, .inr (0, [])), (q1, .inr (1, [.int th529, .long up529, .long lo529, .long le529])), (q2, .inl (cA, 1, .inr (.inl g460)))]) [0, 2, 1] rfl
  have hD := hD.sub (ws' := [(q0, .inr (0, [])), (q1, .inr (1, [.int th529, .long up529, .long lo529, .long le529])), (q2, .inl (cA, 1, .inr (.inl g460)))]) [0, 2, 1] (by decide) rfl
  refine lv_iload hx hb d_law_532 (lv_at hl 1 rfl) ?_
  refine lv_icmp_eq (tgt := 539) hx hb d_law_534 (by decide) (fun c534 => ?_) (fun c534 => absurd (lw_k e460 e523 (fun z => by obtain ⟨v, z, -⟩ := z; exact lw_b0 z.1) (fun z => lw_b0 z.1) e529.1) c534)
  refine lv_iload hx hb d_law_539 (lv_at hl 1 rfl) ?_
  refine lv_if_ne (tgt := 556) hx hb d_law_541 (by decide) (fun c541 => ?_) (fun c541 => ?_)
  · skip
    refine lv_goto (tgt := 758) hx hb d_law_556 (by decide) ?_
    refine W.widen (k := 4 + tt) (n := 11 + 6 * tt) (by omega) (by omega) ?_
    exact KK th529 up529 lo529 le529 g460 _ _ _ hP hD hS (lv_sub hl [2, 3, 4, 5, 6] rfl)
  · skip
    refine lv_aload_n hx hb d_law_544 rfl (lv_at hl 3 rfl) ?_
    refine lv_iconst (v := 0) hx hb d_law_545 (by decide) ?_
    refine va_lald hx hb hK hP 2 0 rfl rfl (i := 0) (pk_in 0 1 (by decide)) d_law_546 ?_
    refine lv_topl (fun v546 e546 => ?_)
    refine lv_iload hx hb d_law_547 (lv_at hl 0 rfl) ?_
    refine lv_i2l hx hb d_law_549 rfl ?_
    refine lv_topl (fun v549 e549 => ?_)
    refine W.lcmp hx hb d_law_550 ?_
    refine lv_if_eq (tgt := 556) hx hb d_law_551 (by decide) (fun c551 => ?_) (fun c551 => absurd ((lg_cmp_eq _ _).mpr (lw_v e460 e523 (fun x y hx hy => Int32.toInt_inj.mp (hx.2.trans hy.2.symm)) (fun x hx => lw_b0 hx.1) c541 e546 e549)) c551)
    refine lv_goto (tgt := 758) hx hb d_law_556 (by decide) ?_
    refine W.widen (k := 4 + tt) (n := 11 + 6 * tt) (by omega) (by omega) ?_
    exact KK th529 up529 lo529 le529 g460 _ _ _ hP hD hS (lv_sub hl [2, 3, 4, 5, 6] rfl)
set_option maxHeartbeats 8000000 in
set_option maxRecDepth 100000 in
theorem lc_7 {p : Program} {l : Launch} {e : Env} {s : State} {m : MethodId} {below : List Frame} {meth : Method} {c : Code} {dC : Nat → ClassId} {dI : Nat → Nat → Nat} {b L : Nat} {xs : Nat → Int32} (hfl : l.flags = flags0) (hL : L ≤ 3584) (C0 : lw_At p s m meth c b L xs) (hZ : th_Z s.heap.size s) {tt : Nat} (htt : 7 * tt + 7 ≤ L) {q0 q1 q2 : Nat} {cA : ClassId} {th : Int32} {up lo le : Int64} {f : Nat → Int64} {H : Heap} {locs : List Loc} {ls : Array Slot} {iv : Int32} (hi : iv = nI (7 * tt)) (hK : va_K (dC, dI) classes [(cA, .long)] s) (hP : va_P (dC, dI) classes (WX q0 q1 q2 cA th up lo le f) H) (hD : va_D (fun q : Nat => s.heap.size ≤ q) (WX q0 q1 q2 cA th up lo le f)) (hS : va_S (fun q : Nat => s.heap.size ≤ q) s.heap H locs) (hl : lv_has ls 8 [(4, .int iv), (3, .ref q2), (2, .ref q1), (1, .ref q0), (0, .ref b)])
    (KK : ∀ (th : Int32) (up lo le : Int64) (f : Nat → Int64) (H : Heap) (locs : List Loc) (ls : Array Slot), va_P (dC, dI) classes (WX q0 q1 q2 cA th up lo le f) H → va_D (fun q : Nat => s.heap.size ≤ q) (WX q0 q1 q2 cA th up lo le f) → va_S (fun q : Nat => s.heap.size ≤ q) s.heap H locs → lv_has ls 8 [(4, .int iv), (3, .ref q2), (2, .ref q1), (1, .ref q0), (0, .ref b)] → W p l e room_1 s m #[Value.ref b] below meth c H locs (4 + tt) (11 + 6 * tt) (lw_Z below #[Value.ref b] s) (F0 m 758 ls [])) :
    W p l e room_1 s m #[Value.ref b] below meth c H locs (3 + tt) (5 + 6 * tt) (lw_Z below #[Value.ref b] s) (F0 m 584 ls []) := by
  obtain ⟨hx, hb, hr, hml, hown, hts, hX, hbl, hlocks, hgv⟩ := C0
  have hown : s.vm.findClass R_L = some m.cls := hown
  have hA : ∀ q : Nat, s.heap.size ≤ q → (fun q : Nat => s.heap.size ≤ q) q := fun _ h => h
  obtain ⟨X1, hX1⟩ : ∃ y, y = xs (7 * tt + 1) := ⟨_, rfl⟩
  have hP : va_P (dC, dI) classes [(q0, .inr (0, [])), (q1, .inr (1, [.int th, .long up, .long lo, .long le])), (q2, .inl (cA, 1, .inr (.inl f)))] H := hP
  have hD : va_D (fun q : Nat => s.heap.size ≤ q) [(q0, .inr (0, [])), (q1, .inr (1, [.int th, .long up, .long lo, .long le])), (q2, .inl (cA, 1, .inr (.inl f)))] := hD
  refine lv_aload_n hx hb d_law_584 rfl (lv_at hl 3 rfl) ?_
  refine lv_aload_n hx hb d_law_585 rfl (lv_at hl 4 rfl) ?_
  refine lv_iload hx hb d_law_586 (lv_at hl 0 rfl) ?_
  refine lv_iconst (v := 1) hx hb d_law_588 (by decide) ?_
  refine lv_iadd hx hb d_law_589 ?_
  refine lv_topi (fun v589 e589 => ?_)
  refine lw_ld hx hb hX hbl hS hL (j := 7 * tt + 1) (by omega) (by rw [e589, hi]; exact nI_add _ _) hX1 d_law_590 ?_
  refine lv_aload_n hx hb d_law_591 rfl (lv_at hl 1 rfl) ?_
  have hPc := hP.sub (ws' := [(q0, .inr (0, [])), (q2, .inl (cA, 1, .inr (.inl f)))]) [0, 2] rfl
  have hDc := hD.sub (ws' := [(q0, .inr (0, [])), (q2, .inl (cA, 1, .inr (.inl f)))]) [0, 2] (by decide) rfl
  have hFc := va_free (wc := [(q0, .inr (0, [])), (q2, .inl (cA, 1, .inr (.inl f)))]) hD hS hA [0, 2] rfl
  have hcw9 := th_cwSW (R := room_1) (rm := { frames := 7, cells := 1, slots := 6, locals := 140 }) (mc := 1) (ms := 6) 3 hts g_law_69 rfl rfl rfl (by decide +kernel) ⟨Nat.le_of_ble_eq_true rfl, Nat.le_of_ble_eq_true rfl⟩
  refine va_calli (th_runSW (As := [.ref q0, .int X1, .ref q2]) (rest := []) ⟨hx, hb, hml, hown, hts⟩ (c_L_fixed l hfl dC dI s.heap.size q0 q2 H.size cA f X1) hcw9.1 hcw9.2 ⟨fun a U g mk q => by obtain ⟨q0, q1, qP, qK, qD, qZ⟩ := q; exact ⟨q0, q1, qP, va_K.moved (u := U) (U := U.calling g mk a) (Vm.Alike.refl U.vm) qK, qD, th_Z.call qZ⟩, fun U hU hW => ⟨rfl, by rw [hU], by rw [hU]; exact hPc, va_K.moved hW.alike hK, hDc.weaken (fun _ _ _ _ => trivial), th_Z.to hZ hW (fun q h1 h2 => by rw [hU]; exact hS.2.1 q h1 h2)⟩⟩ rfl rfl hl.1 rfl (lv_room (Nat.le_of_ble_eq_true rfl)) d_law_592 ⟨by show _ ≤ 1034; omega, by show _ ≤ 8239; omega⟩) hS (fun q _ h => hFc q h) hFc (fun v592 g592 t H1 locs ht hvm hw hB hz1 hk1 hS => ?_)
  obtain ⟨hP1, hK1, hD1⟩ := hB
  rw [ht] at hP1
  have e592 := hw
  try dsimp only at e592
  obtain ⟨hP, hD⟩ := va_join (wr := [(q1, .inr (1, [.int th, .long up, .long lo, .long le]))]) (w1 := [(q0, .inr (0, [])), (q2, .inl (cA, 1, .inr (.inl g592)))]) hP hD [0, 2] [1] rfl rfl (by decide) (by decide) hk1 hFc hP1 hD1
  generalize H1 = H at hP hS ⊢
  have hP := hP.sub (ws' := [(q0, .inr (0, [])), (q1, .inr (1, [.int th, .long up, .long lo, .long le])), (q2, .inl (cA, 1, .inr (.inl g592)))]) [1, 0, 2] rfl
  have hD := hD.sub (ws' := [(q0, .inr (0, [])), (q1, .inr (1, [.int th, .long up, .long lo, .long le])), (q2, .inl (cA, 1, .inr (.inl g592)))]) [1, 0, 2] (by decide) rfl
  refine lv_istore (lv' := [(5, .int v592), (4, .int iv), (3, .ref q2), (2, .ref q1), (1, .ref q0), (0, .ref b)]) hx hb d_law_595 hl (by decide) rfl (fun ls hl => ?_)
  refine lv_aload_n hx hb d_law_597 rfl (lv_at hl 3 rfl) ?_
  refine lv_aload_n hx hb d_law_598 rfl (lv_at hl 5 rfl) ?_
  refine lv_iload hx hb d_law_599 (lv_at hl 1 rfl) ?_
  refine lv_iconst (v := 1) hx hb d_law_601 (by decide) ?_
  refine lv_iadd hx hb d_law_602 ?_
  refine lv_topi (fun v602 e602 => ?_)
  refine lw_ld hx hb hX hbl hS hL (j := 7 * tt + 1) (by omega) (by rw [e602, hi]; exact nI_add _ _) hX1 d_law_603 ?_
  have hPc := hP.sub (ws' := [(q1, .inr (1, [.int th, .long up, .long lo, .long le]))]) [1] rfl
  have hDc := hD.sub (ws' := [(q1, .inr (1, [.int th, .long up, .long lo, .long le]))]) [1] (by decide) rfl
  have hFc := va_free (wc := [(q1, .inr (1, [.int th, .long up, .long lo, .long le]))]) hD hS hA [1] rfl
  have hKc := hK.sub (tys' := []) [] rfl
  refine va_calli (va_runV (As := [.int X1]) (rest := []) ⟨hx, hb, hml, hown, hts⟩ (c_M_fixed l dC dI q1 H.size th up lo le X1) (cwV 1 hts g_law_72 rfl rfl rfl (by decide +kernel) ⟨Nat.le_of_ble_eq_true rfl, Nat.le_of_ble_eq_true rfl⟩) ⟨fun a U g mk q => by obtain ⟨q0, q1, qP, qK, qD⟩ := q; exact ⟨q0, q1, qP, va_K.moved (u := U) (U := U.calling g mk a) (Vm.Alike.refl U.vm) qK, qD⟩, va_recv hKc hPc (ci := 1) (q0 := 0) rfl rfl, fun U hU hW => ⟨rfl, by rw [hU], by rw [hU]; exact hPc, va_K.moved hW.alike hKc, hDc.weaken (fun _ _ _ _ => trivial)⟩⟩ rfl rfl hl.1 rfl (lv_room (Nat.le_of_ble_eq_true rfl)) d_law_604 ⟨by show _ ≤ 1034; omega, by show _ ≤ 8239; omega⟩) hS (fun q _ h => hFc q h) hFc (fun v604 u t H1 locs ht hvm hw hB hz1 hk1 hS => ?_)
  obtain ⟨th604, up604, lo604, le604⟩ := u
  obtain ⟨hP1, hK1, hD1⟩ := hB
  rw [ht] at hP1
  have e604 := hw
  try dsimp only at e604
  obtain ⟨hP, hD⟩ := va_join (wr := [(q0, .inr (0, [])), (q2, .inl (cA, 1, .inr (.inl g592)))]) (w1 := [(q1, .inr (1, [.int th604, .long up604, .long lo604, .long le604]))]) hP hD [1] [0, 2] rfl rfl (by decide) (by decide) hk1 hFc hP1 hD1
  generalize H1 = H at hP hS ⊢
  have hP := hP.sub (ws' := [(q0, .inr (0, [])), (q1, .inr (1, [.int th604, .long up604, .long lo604, .long le604])), (q2, .inl (cA, 1, .inr (.inl g592)))]) [0, 2, 1] rfl
  have hD := hD.sub (ws' := [(q0, .inr (0, [])), (q1, .inr (1, [.int th604, .long up604, .long lo604, .long le604])), (q2, .inl (cA, 1, .inr (.inl g592)))]) [0, 2, 1] (by decide) rfl
  refine lv_istore (lv' := [(6, .int v604), (5, .int v592), (4, .int iv), (3, .ref q2), (2, .ref q1), (1, .ref q0), (0, .ref b)]) hx hb d_law_607 hl (by decide) rfl (fun ls hl => ?_)
  refine lv_aload_n hx hb d_law_609 rfl (lv_at hl 4 rfl) ?_
  have hPc := hP.sub (ws' := [(q1, .inr (1, [.int th604, .long up604, .long lo604, .long le604]))]) [1] rfl
  have hDc := hD.sub (ws' := [(q1, .inr (1, [.int th604, .long up604, .long lo604, .long le604]))]) [1] (by decide) rfl
  have hFc := va_free (wc := [(q1, .inr (1, [.int th604, .long up604, .long lo604, .long le604]))]) hD hS hA [1] rfl
  have hKc := hK.sub (tys' := []) [] rfl
  refine va_calli (va_runV (As := []) (rest := []) ⟨hx, hb, hml, hown, hts⟩ (c_M_thrown l dC dI q1 H.size th604 up604 lo604 le604 ) (cwV 0 hts g_law_57 rfl rfl rfl (by decide +kernel) ⟨Nat.le_of_ble_eq_true rfl, Nat.le_of_ble_eq_true rfl⟩) ⟨fun a U g mk q => by obtain ⟨q0, q1, qP, qK, qD⟩ := q; exact ⟨q0, q1, qP, va_K.moved (u := U) (U := U.calling g mk a) (Vm.Alike.refl U.vm) qK, qD⟩, va_recv hKc hPc (ci := 1) (q0 := 0) rfl rfl, fun U hU hW => ⟨rfl, by rw [hU], by rw [hU]; exact hPc, va_K.moved hW.alike hKc, hDc.weaken (fun _ _ _ _ => trivial)⟩⟩ rfl rfl hl.1 rfl (lv_room (Nat.le_of_ble_eq_true rfl)) d_law_610 ⟨by show _ ≤ 1034; omega, by show _ ≤ 8239; omega⟩) hS (fun q _ h => hFc q h) hFc (fun v610 u t H1 locs ht hvm hw hB hz1 hk1 hS => ?_)
  obtain ⟨th610, up610, lo610, le610⟩ := u
  obtain ⟨hP1, hK1, hD1⟩ := hB
  rw [ht] at hP1
  have e610 := hw
  try dsimp only at e610
  obtain ⟨hP, hD⟩ := va_join (wr := [(q0, .inr (0, [])), (q2, .inl (cA, 1, .inr (.inl g592)))]) (w1 := [(q1, .inr (1, [.int th610, .long up610, .long lo610, .long le610]))]) hP hD [1] [0, 2] rfl rfl (by decide) (by decide) hk1 hFc hP1 hD1
  generalize H1 = H at hP hS ⊢
  have hP := hP.sub (ws' := [(q0, .inr (0, [])), (q1, .inr (1, [.int th610, .long up610, .long lo610, .long le610])), (q2, .inl (cA, 1, .inr (.inl g592)))]) [0, 2, 1] rfl
  have hD := hD.sub (ws' := [(q0, .inr (0, [])), (q1, .inr (1, [.int th610, .long up610, .long lo610, .long le610])), (q2, .inl (cA, 1, .inr (.inl g592)))]) [0, 2, 1] (by decide) rfl
  refine lv_iload hx hb d_law_613 (lv_at hl 1 rfl) ?_
  refine lv_icmp_eq (tgt := 620) hx hb d_law_615 (by decide) (fun c615 => ?_) (fun c615 => absurd (lw_k e592 e604 (fun z w => by obtain ⟨v, z, -⟩ := z; exact w z.1) (fun z w => w z.1) e610.1) c615)
  refine lv_iload hx hb d_law_620 (lv_at hl 1 rfl) ?_
  refine lv_if_ne (tgt := 637) hx hb d_law_622 (by decide) (fun c622 => ?_) (fun c622 => ?_)
  · skip
    refine lv_goto (tgt := 758) hx hb d_law_637 (by decide) ?_
    refine W.widen (k := 4 + tt) (n := 11 + 6 * tt) (by omega) (by omega) ?_
    exact KK th610 up610 lo610 le610 g592 _ _ _ hP hD hS (lv_sub hl [2, 3, 4, 5, 6] rfl)
  · skip
    refine lv_aload_n hx hb d_law_625 rfl (lv_at hl 3 rfl) ?_
    refine lv_iconst (v := 0) hx hb d_law_626 (by decide) ?_
    refine va_lald hx hb hK hP 2 0 rfl rfl (i := 0) (pk_in 0 1 (by decide)) d_law_627 ?_
    refine lv_topl (fun v627 e627 => ?_)
    refine lv_iload hx hb d_law_628 (lv_at hl 0 rfl) ?_
    refine lv_i2l hx hb d_law_630 rfl ?_
    refine lv_topl (fun v630 e630 => ?_)
    refine W.lcmp hx hb d_law_631 ?_
    refine lv_if_eq (tgt := 637) hx hb d_law_632 (by decide) (fun c632 => ?_) (fun c632 => absurd ((lg_cmp_eq _ _).mpr (lw_v e592 e604 (fun x y hx hy => Int32.toInt_inj.mp (hx.2.trans hy.2.symm)) (fun x hx w => w hx.1) c622 e627 e630)) c632)
    refine lv_goto (tgt := 758) hx hb d_law_637 (by decide) ?_
    refine W.widen (k := 4 + tt) (n := 11 + 6 * tt) (by omega) (by omega) ?_
    exact KK th610 up610 lo610 le610 g592 _ _ _ hP hD hS (lv_sub hl [2, 3, 4, 5, 6] rfl)
set_option maxHeartbeats 8000000 in
set_option maxRecDepth 100000 in
theorem lc_8 {p : Program} {l : Launch} {e : Env} {s : State} {m : MethodId} {below : List Frame} {meth : Method} {c : Code} {dC : Nat → ClassId} {dI : Nat → Nat → Nat} {b L : Nat} {xs : Nat → Int32} (hfl : l.flags = flags0) (hL : L ≤ 3584) (C0 : lw_At p s m meth c b L xs) (hZ : th_Z s.heap.size s) {tt : Nat} (htt : 7 * tt + 7 ≤ L) {q0 q1 q2 : Nat} {cA : ClassId} {th : Int32} {up lo le : Int64} {f : Nat → Int64} {H : Heap} {locs : List Loc} {ls : Array Slot} {iv : Int32} (hi : iv = nI (7 * tt)) (hK : va_K (dC, dI) classes [(cA, .long)] s) (hP : va_P (dC, dI) classes (WX q0 q1 q2 cA th up lo le f) H) (hD : va_D (fun q : Nat => s.heap.size ≤ q) (WX q0 q1 q2 cA th up lo le f)) (hS : va_S (fun q : Nat => s.heap.size ≤ q) s.heap H locs) (hl : lv_has ls 8 [(4, .int iv), (3, .ref q2), (2, .ref q1), (1, .ref q0), (0, .ref b)])
    (KK : ∀ (th : Int32) (up lo le : Int64) (f : Nat → Int64) (H : Heap) (locs : List Loc) (ls : Array Slot), va_P (dC, dI) classes (WX q0 q1 q2 cA th up lo le f) H → va_D (fun q : Nat => s.heap.size ≤ q) (WX q0 q1 q2 cA th up lo le f) → va_S (fun q : Nat => s.heap.size ≤ q) s.heap H locs → lv_has ls 8 [(4, .int iv), (3, .ref q2), (2, .ref q1), (1, .ref q0), (0, .ref b)] → W p l e room_1 s m #[Value.ref b] below meth c H locs (4 + tt) (11 + 6 * tt) (lw_Z below #[Value.ref b] s) (F0 m 758 ls [])) :
    W p l e room_1 s m #[Value.ref b] below meth c H locs (3 + tt) (5 + 6 * tt) (lw_Z below #[Value.ref b] s) (F0 m 640 ls []) := by
  obtain ⟨hx, hb, hr, hml, hown, hts, hX, hbl, hlocks, hgv⟩ := C0
  have hown : s.vm.findClass R_L = some m.cls := hown
  have hA : ∀ q : Nat, s.heap.size ≤ q → (fun q : Nat => s.heap.size ≤ q) q := fun _ h => h
  obtain ⟨X1, hX1⟩ : ∃ y, y = xs (7 * tt + 1) := ⟨_, rfl⟩
  obtain ⟨X2, hX2⟩ : ∃ y, y = xs (7 * tt + 2) := ⟨_, rfl⟩
  have hP : va_P (dC, dI) classes [(q0, .inr (0, [])), (q1, .inr (1, [.int th, .long up, .long lo, .long le])), (q2, .inl (cA, 1, .inr (.inl f)))] H := hP
  have hD : va_D (fun q : Nat => s.heap.size ≤ q) [(q0, .inr (0, [])), (q1, .inr (1, [.int th, .long up, .long lo, .long le])), (q2, .inl (cA, 1, .inr (.inl f)))] := hD
  refine lv_aload_n hx hb d_law_640 rfl (lv_at hl 3 rfl) ?_
  refine lv_aload_n hx hb d_law_641 rfl (lv_at hl 4 rfl) ?_
  refine lv_iload hx hb d_law_642 (lv_at hl 0 rfl) ?_
  refine lv_iconst (v := 1) hx hb d_law_644 (by decide) ?_
  refine lv_iadd hx hb d_law_645 ?_
  refine lv_topi (fun v645 e645 => ?_)
  refine lw_ld hx hb hX hbl hS hL (j := 7 * tt + 1) (by omega) (by rw [e645, hi]; exact nI_add _ _) hX1 d_law_646 ?_
  refine lv_aload_n hx hb d_law_647 rfl (lv_at hl 4 rfl) ?_
  refine lv_iload hx hb d_law_648 (lv_at hl 0 rfl) ?_
  refine lv_iconst (v := 2) hx hb d_law_650 (by decide) ?_
  refine lv_iadd hx hb d_law_651 ?_
  refine lv_topi (fun v651 e651 => ?_)
  refine lw_ld hx hb hX hbl hS hL (j := 7 * tt + 2) (by omega) (by rw [e651, hi]; exact nI_add _ _) hX2 d_law_652 ?_
  refine lv_aload_n hx hb d_law_653 rfl (lv_at hl 1 rfl) ?_
  have hPc := hP.sub (ws' := [(q0, .inr (0, [])), (q2, .inl (cA, 1, .inr (.inl f)))]) [0, 2] rfl
  have hDc := hD.sub (ws' := [(q0, .inr (0, [])), (q2, .inl (cA, 1, .inr (.inl f)))]) [0, 2] (by decide) rfl
  have hFc := va_free (wc := [(q0, .inr (0, [])), (q2, .inl (cA, 1, .inr (.inl f)))]) hD hS hA [0, 2] rfl
  have hcw9 := th_cwSW (R := room_1) (rm := { frames := 7, cells := 1, slots := 6, locals := 140 }) (mc := 1) (ms := 6) 4 hts g_law_73 rfl rfl rfl (by decide +kernel) ⟨Nat.le_of_ble_eq_true rfl, Nat.le_of_ble_eq_true rfl⟩
  refine va_calli (th_runSW (As := [.ref q0, .int X1, .int X2, .ref q2]) (rest := []) ⟨hx, hb, hml, hown, hts⟩ (c_L_shade l hfl dC dI s.heap.size q0 q2 H.size cA f X1 X2) hcw9.1 hcw9.2 ⟨fun a U g mk q => by obtain ⟨q0, q1, qP, qK, qD, qZ⟩ := q; exact ⟨q0, q1, qP, va_K.moved (u := U) (U := U.calling g mk a) (Vm.Alike.refl U.vm) qK, qD, th_Z.call qZ⟩, fun U hU hW => ⟨rfl, by rw [hU], by rw [hU]; exact hPc, va_K.moved hW.alike hK, hDc.weaken (fun _ _ _ _ => trivial), th_Z.to hZ hW (fun q h1 h2 => by rw [hU]; exact hS.2.1 q h1 h2)⟩⟩ rfl rfl hl.1 rfl (lv_room (Nat.le_of_ble_eq_true rfl)) d_law_654 ⟨by show _ ≤ 1034; omega, by show _ ≤ 8239; omega⟩) hS (fun q _ h => hFc q h) hFc (fun v654 g654 t H1 locs ht hvm hw hB hz1 hk1 hS => ?_)
  obtain ⟨hP1, hK1, hD1⟩ := hB
  rw [ht] at hP1
  have e654 := hw
  try dsimp only at e654
  obtain ⟨hP, hD⟩ := va_join (wr := [(q1, .inr (1, [.int th, .long up, .long lo, .long le]))]) (w1 := [(q0, .inr (0, [])), (q2, .inl (cA, 1, .inr (.inl g654)))]) hP hD [0, 2] [1] rfl rfl (by decide) (by decide) hk1 hFc hP1 hD1
  generalize H1 = H at hP hS ⊢
  have hP := hP.sub (ws' := [(q0, .inr (0, [])), (q1, .inr (1, [.int th, .long up, .long lo, .long le])), (q2, .inl (cA, 1, .inr (.inl g654)))]) [1, 0, 2] rfl
  have hD := hD.sub (ws' := [(q0, .inr (0, [])), (q1, .inr (1, [.int th, .long up, .long lo, .long le])), (q2, .inl (cA, 1, .inr (.inl g654)))]) [1, 0, 2] (by decide) rfl
  refine lv_istore (lv' := [(5, .int v654), (4, .int iv), (3, .ref q2), (2, .ref q1), (1, .ref q0), (0, .ref b)]) hx hb d_law_657 hl (by decide) rfl (fun ls hl => ?_)
  refine lv_aload_n hx hb d_law_659 rfl (lv_at hl 3 rfl) ?_
  refine lv_aload_n hx hb d_law_660 rfl (lv_at hl 5 rfl) ?_
  refine lv_iload hx hb d_law_661 (lv_at hl 1 rfl) ?_
  refine lv_iconst (v := 1) hx hb d_law_663 (by decide) ?_
  refine lv_iadd hx hb d_law_664 ?_
  refine lv_topi (fun v664 e664 => ?_)
  refine lw_ld hx hb hX hbl hS hL (j := 7 * tt + 1) (by omega) (by rw [e664, hi]; exact nI_add _ _) hX1 d_law_665 ?_
  refine lv_aload_n hx hb d_law_666 rfl (lv_at hl 5 rfl) ?_
  refine lv_iload hx hb d_law_667 (lv_at hl 1 rfl) ?_
  refine lv_iconst (v := 2) hx hb d_law_669 (by decide) ?_
  refine lv_iadd hx hb d_law_670 ?_
  refine lv_topi (fun v670 e670 => ?_)
  refine lw_ld hx hb hX hbl hS hL (j := 7 * tt + 2) (by omega) (by rw [e670, hi]; exact nI_add _ _) hX2 d_law_671 ?_
  have hPc := hP.sub (ws' := [(q1, .inr (1, [.int th, .long up, .long lo, .long le]))]) [1] rfl
  have hDc := hD.sub (ws' := [(q1, .inr (1, [.int th, .long up, .long lo, .long le]))]) [1] (by decide) rfl
  have hFc := va_free (wc := [(q1, .inr (1, [.int th, .long up, .long lo, .long le]))]) hD hS hA [1] rfl
  have hKc := hK.sub (tys' := []) [] rfl
  refine va_calli (va_runV (As := [.int X1, .int X2]) (rest := []) ⟨hx, hb, hml, hown, hts⟩ (c_M_shade l dC dI q1 H.size th up lo le X1 X2) (cwV 2 hts g_law_76 rfl rfl rfl (by decide +kernel) ⟨Nat.le_of_ble_eq_true rfl, Nat.le_of_ble_eq_true rfl⟩) ⟨fun a U g mk q => by obtain ⟨q0, q1, qP, qK, qD⟩ := q; exact ⟨q0, q1, qP, va_K.moved (u := U) (U := U.calling g mk a) (Vm.Alike.refl U.vm) qK, qD⟩, va_recv hKc hPc (ci := 1) (q0 := 0) rfl rfl, fun U hU hW => ⟨rfl, by rw [hU], by rw [hU]; exact hPc, va_K.moved hW.alike hKc, hDc.weaken (fun _ _ _ _ => trivial)⟩⟩ rfl rfl hl.1 rfl (lv_room (Nat.le_of_ble_eq_true rfl)) d_law_672 ⟨by show _ ≤ 1034; omega, by show _ ≤ 8239; omega⟩) hS (fun q _ h => hFc q h) hFc (fun v672 u t H1 locs ht hvm hw hB hz1 hk1 hS => ?_)
  obtain ⟨th672, up672, lo672, le672⟩ := u
  obtain ⟨hP1, hK1, hD1⟩ := hB
  rw [ht] at hP1
  have e672 := hw
  try dsimp only at e672
  obtain ⟨hP, hD⟩ := va_join (wr := [(q0, .inr (0, [])), (q2, .inl (cA, 1, .inr (.inl g654)))]) (w1 := [(q1, .inr (1, [.int th672, .long up672, .long lo672, .long le672]))]) hP hD [1] [0, 2] rfl rfl (by decide) (by decide) hk1 hFc hP1 hD1
  generalize H1 = H at hP hS ⊢
  have hP := hP.sub (ws' := [(q0, .inr (0, [])), (q1, .inr (1, [.int th672, .long up672, .long lo672, .long le672])), (q2, .inl (cA, 1, .inr (.inl g654)))]) [0, 2, 1] rfl
  have hD := hD.sub (ws' := [(q0, .inr (0, [])), (q1, .inr (1, [.int th672, .long up672, .long lo672, .long le672])), (q2, .inl (cA, 1, .inr (.inl g654)))]) [0, 2, 1] (by decide) rfl
  refine lv_istore (lv' := [(6, .int v672), (5, .int v654), (4, .int iv), (3, .ref q2), (2, .ref q1), (1, .ref q0), (0, .ref b)]) hx hb d_law_675 hl (by decide) rfl (fun ls hl => ?_)
  refine lv_aload_n hx hb d_law_677 rfl (lv_at hl 4 rfl) ?_
  have hPc := hP.sub (ws' := [(q1, .inr (1, [.int th672, .long up672, .long lo672, .long le672]))]) [1] rfl
  have hDc := hD.sub (ws' := [(q1, .inr (1, [.int th672, .long up672, .long lo672, .long le672]))]) [1] (by decide) rfl
  have hFc := va_free (wc := [(q1, .inr (1, [.int th672, .long up672, .long lo672, .long le672]))]) hD hS hA [1] rfl
  have hKc := hK.sub (tys' := []) [] rfl
  refine va_calli (va_runV (As := []) (rest := []) ⟨hx, hb, hml, hown, hts⟩ (c_M_thrown l dC dI q1 H.size th672 up672 lo672 le672 ) (cwV 0 hts g_law_57 rfl rfl rfl (by decide +kernel) ⟨Nat.le_of_ble_eq_true rfl, Nat.le_of_ble_eq_true rfl⟩) ⟨fun a U g mk q => by obtain ⟨q0, q1, qP, qK, qD⟩ := q; exact ⟨q0, q1, qP, va_K.moved (u := U) (U := U.calling g mk a) (Vm.Alike.refl U.vm) qK, qD⟩, va_recv hKc hPc (ci := 1) (q0 := 0) rfl rfl, fun U hU hW => ⟨rfl, by rw [hU], by rw [hU]; exact hPc, va_K.moved hW.alike hKc, hDc.weaken (fun _ _ _ _ => trivial)⟩⟩ rfl rfl hl.1 rfl (lv_room (Nat.le_of_ble_eq_true rfl)) d_law_678 ⟨by show _ ≤ 1034; omega, by show _ ≤ 8239; omega⟩) hS (fun q _ h => hFc q h) hFc (fun v678 u t H1 locs ht hvm hw hB hz1 hk1 hS => ?_)
  obtain ⟨th678, up678, lo678, le678⟩ := u
  obtain ⟨hP1, hK1, hD1⟩ := hB
  rw [ht] at hP1
  have e678 := hw
  try dsimp only at e678
  obtain ⟨hP, hD⟩ := va_join (wr := [(q0, .inr (0, [])), (q2, .inl (cA, 1, .inr (.inl g654)))]) (w1 := [(q1, .inr (1, [.int th678, .long up678, .long lo678, .long le678]))]) hP hD [1] [0, 2] rfl rfl (by decide) (by decide) hk1 hFc hP1 hD1
  generalize H1 = H at hP hS ⊢
  have hP := hP.sub (ws' := [(q0, .inr (0, [])), (q1, .inr (1, [.int th678, .long up678, .long lo678, .long le678])), (q2, .inl (cA, 1, .inr (.inl g654)))]) [0, 2, 1] rfl
  have hD := hD.sub (ws' := [(q0, .inr (0, [])), (q1, .inr (1, [.int th678, .long up678, .long lo678, .long le678])), (q2, .inl (cA, 1, .inr (.inl g654)))]) [0, 2, 1] (by decide) rfl
  refine lv_iload hx hb d_law_681 (lv_at hl 1 rfl) ?_
  refine lv_icmp_eq (tgt := 688) hx hb d_law_683 (by decide) (fun c683 => ?_) (fun c683 => absurd (lw_k e654 e672 (fun z w => by obtain ⟨v, z, -⟩ := z; exact w.elim (fun w => w z.1) (fun w => w z.2.1)) (fun z w => w.elim (fun w => w z.1) (fun w => w z.2.1)) e678.1) c683)
  refine lv_iload hx hb d_law_688 (lv_at hl 1 rfl) ?_
  refine lv_if_ne (tgt := 705) hx hb d_law_690 (by decide) (fun c690 => ?_) (fun c690 => ?_)
  · skip
    refine lv_goto (tgt := 758) hx hb d_law_705 (by decide) ?_
    refine W.widen (k := 4 + tt) (n := 11 + 6 * tt) (by omega) (by omega) ?_
    exact KK th678 up678 lo678 le678 g654 _ _ _ hP hD hS (lv_sub hl [2, 3, 4, 5, 6] rfl)
  · skip
    refine lv_aload_n hx hb d_law_693 rfl (lv_at hl 3 rfl) ?_
    refine lv_iconst (v := 0) hx hb d_law_694 (by decide) ?_
    refine va_lald hx hb hK hP 2 0 rfl rfl (i := 0) (pk_in 0 1 (by decide)) d_law_695 ?_
    refine lv_topl (fun v695 e695 => ?_)
    refine lv_iload hx hb d_law_696 (lv_at hl 0 rfl) ?_
    refine lv_i2l hx hb d_law_698 rfl ?_
    refine lv_topl (fun v698 e698 => ?_)
    refine W.lcmp hx hb d_law_699 ?_
    refine lv_if_eq (tgt := 705) hx hb d_law_700 (by decide) (fun c700 => ?_) (fun c700 => absurd ((lg_cmp_eq _ _).mpr (lw_v e654 e672 (fun x y hx hy => Int32.toInt_inj.mp (hx.2.2.trans hy.2.2.symm)) (fun x hx w => w.elim (fun w => w hx.1) (fun w => w hx.2.1)) c690 e695 e698)) c700)
    refine lv_goto (tgt := 758) hx hb d_law_705 (by decide) ?_
    refine W.widen (k := 4 + tt) (n := 11 + 6 * tt) (by omega) (by omega) ?_
    exact KK th678 up678 lo678 le678 g654 _ _ _ hP hD hS (lv_sub hl [2, 3, 4, 5, 6] rfl)
