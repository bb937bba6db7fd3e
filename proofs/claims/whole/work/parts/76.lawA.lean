/-! THE LAW, printed by program: its calls 0 to 19 -/
/-- behind a call the loop goes on -/
def LKont (p : Program) (l : Launch) (e : Env) (s : State) (m : MethodId) (b : Nat) (below : List Frame) (meth : Method) (c : Code) (Q : State → Prop) (G : Gd) (ay : Nat → Nat) (rx : Nat) (ls : Array Slot) (cells slots : Nat) : Prop := ∀ (ax : Nat → Nat) (I : Nat → Nat → Int32) (X : Nat → Nat → Option Nat) (S : Sta) (J : Nat → Nat → Int32) (nc ns nt : Nat) (H : Heap) (locs : List Loc) (cells1 slots1 : Nat), ax 0 = rx → Sm I X S J nc ns nt → LW G (fun q => s.heap.size ≤ q) ax ay s.heap (I, X, S) (J, YZ) H locs → cells1 ≤ cells + 2 → slots1 ≤ slots + 99 → W p l e room_1 s m #[Value.ref b] below meth c H locs cells1 slots1 Q (F0 m 1398 ls [])
section LawA
variable {p : Program} {l : Launch} {e : Env} {s : State} {m : MethodId} {below : List Frame} {meth : Method} {c : Code} {H : Heap} {locs : List Loc} {cells slots : Nat} {Q : State → Prop} {G : Gd} {ax ay : Nat → Nat} {ls : Array Slot} {b L j : Nat} {xs : Nat → Int32} {I : Nat → Nat → Int32} {X : Nat → Nat → Option Nat} {S : Sta} {J : Nat → Nat → Int32} {nc ns nt : Nat}
theorem lawc_0 (C : Cx G (fun q => s.heap.size ≤ q) p s m #[Value.ref b] meth c R_law cL_law 4 (some .boolean)) (hX : va_X b L xs s s.heap) (hbl : b < s.heap.size) (hL : L ≤ 384) (hj : j + 6 ≤ L) (h : Sm I X S J nc ns nt) (hw : LW G (fun q => s.heap.size ≤ q) ax ay s.heap (I, X, S) (J, YZ) H locs) (hl : lv_has ls 4 [(3, .int (nI j)), (0, .ref b), (1, .ref (ax 0)), (2, .ref (ay 0))]) (hc : cells + 2 ≤ 600000) (hs : slots + 99 ≤ 7302250) (KK : LKont p l e s m b below meth c Q G ay (ax 0) ls cells slots) : W p l e room_1 s m #[Value.ref b] below meth c H locs cells slots Q (F0 m 208 ls []) := by
  have hbA : ¬ (fun q : Nat => s.heap.size ≤ q) b := Nat.not_le.mpr hbl
  refine lv_aload_n C.1 C.2.1 dL_law_208 rfl (lv_at hl 2 rfl) ?_
  refine law_arg (k := 1) C hw hX hbl hbA hl (by decide) (by omega) hL dL_law_209 dL_law_210 dL_law_211 dL_law_212 dL_law_213 ?_
  refine law_arg (k := 2) C hw hX hbl hbA hl (by decide) (by omega) hL dL_law_214 dL_law_215 dL_law_216 dL_law_217 dL_law_218 ?_
  refine law_arg (k := 3) C hw hX hbl hbA hl (by decide) (by omega) hL dL_law_219 dL_law_220 dL_law_221 dL_law_222 dL_law_223 ?_
  refine law_arg (k := 4) C hw hX hbl hbA hl (by decide) (by omega) hL dL_law_224 dL_law_225 dL_law_226 dL_law_227 dL_law_228 ?_
  obtain ⟨r, I1, X1, S1, J1, nc1, ns1, nt1, e1, e2, h1⟩ := op_chimney h (xs (j + 1)) (xs (j + 2)) (xs (j + 3)) (xs (j + 4))
  refine law_call C hw mf_X9_chimney mv_X9_chimney ml_L_13 cf9 (xT0 h.rs.la) (fun A => c_X9_chimney l G A ax e1) (As := [.int (xs (j + 1)), .int (xs (j + 2)), .int (xs (j + 3)), .int (xs (j + 4))]) (rest := []) hl.1 rfl rfl (Nat.le_of_ble_eq_true rfl) ⟨rfl, rfl, Nat.le_of_ble_eq_true rfl, Nat.le_of_ble_eq_true rfl⟩ ⟨by show cells ≤ 600000; omega, by show slots ≤ 7302250; omega⟩ dL_law_229 (fun H locs hw => ?_)
  refine lv_aload_n C.1 C.2.1 dL_law_232 rfl (lv_at hl 3 rfl) ?_
  refine law_arg (k := 1) C hw hX hbl hbA hl (by decide) (by omega) hL dL_law_233 dL_law_234 dL_law_235 dL_law_236 dL_law_237 ?_
  refine law_arg (k := 2) C hw hX hbl hbA hl (by decide) (by omega) hL dL_law_238 dL_law_239 dL_law_240 dL_law_241 dL_law_242 ?_
  refine law_arg (k := 3) C hw hX hbl hbA hl (by decide) (by omega) hL dL_law_243 dL_law_244 dL_law_245 dL_law_246 dL_law_247 ?_
  refine law_arg (k := 4) C hw hX hbl hbA hl (by decide) (by omega) hL dL_law_248 dL_law_249 dL_law_250 dL_law_251 dL_law_252 ?_
  refine law_call C hw.swap mf_X10_chimney mv_X10_chimney ml_L_17 cf10 (yT0 _) (fun A => c_X10_chimney l G A ay e2) (As := [.int (xs (j + 1)), .int (xs (j + 2)), .int (xs (j + 3)), .int (xs (j + 4))]) (rest := [.int r]) hl.1 rfl rfl (Nat.le_of_ble_eq_true rfl) ⟨rfl, rfl, Nat.le_of_ble_eq_true rfl, Nat.le_of_ble_eq_true rfl⟩ ⟨by show _ ≤ 600000; omega, by show _ ≤ 7302250; omega⟩ dL_law_253 (fun H locs hw => ?_)
  refine lv_icmp_eq (tgt := 1398) C.1 C.2.1 dL_law_256 (by decide) (fun _ => ?_) (fun hne => absurd rfl hne)
  exact KK ax I1 X1 S1 J1 nc1 ns1 nt1 H locs _ _ rfl h1 hw.swap (by omega) (by omega)
theorem lawc_1 (C : Cx G (fun q => s.heap.size ≤ q) p s m #[Value.ref b] meth c R_law cL_law 4 (some .boolean)) (hX : va_X b L xs s s.heap) (hbl : b < s.heap.size) (hL : L ≤ 384) (hj : j + 6 ≤ L) (h : Sm I X S J nc ns nt) (hw : LW G (fun q => s.heap.size ≤ q) ax ay s.heap (I, X, S) (J, YZ) H locs) (hl : lv_has ls 4 [(3, .int (nI j)), (0, .ref b), (1, .ref (ax 0)), (2, .ref (ay 0))]) (hc : cells + 2 ≤ 600000) (hs : slots + 99 ≤ 7302250) (KK : LKont p l e s m b below meth c Q G ay (ax 0) ls cells slots) : W p l e room_1 s m #[Value.ref b] below meth c H locs cells slots Q (F0 m 261 ls []) := by
  have hbA : ¬ (fun q : Nat => s.heap.size ≤ q) b := Nat.not_le.mpr hbl
  refine lv_aload_n C.1 C.2.1 dL_law_261 rfl (lv_at hl 2 rfl) ?_
  refine law_arg (k := 1) C hw hX hbl hbA hl (by decide) (by omega) hL dL_law_262 dL_law_263 dL_law_264 dL_law_265 dL_law_266 ?_
  refine law_arg (k := 2) C hw hX hbl hbA hl (by decide) (by omega) hL dL_law_267 dL_law_268 dL_law_269 dL_law_270 dL_law_271 ?_
  obtain ⟨r, I1, X1, S1, J1, nc1, ns1, nt1, e1, e2, h1⟩ := op_told h (xs (j + 1)) (xs (j + 2))
  refine law_call C hw mf_X9_told mv_X9_told ml_L_18 cf9 (xT0 h.rs.la) (fun A => c_X9_told l G A ax e1) (As := [.int (xs (j + 1)), .int (xs (j + 2))]) (rest := []) hl.1 rfl rfl (Nat.le_of_ble_eq_true rfl) ⟨rfl, rfl, Nat.le_of_ble_eq_true rfl, Nat.le_of_ble_eq_true rfl⟩ ⟨by show cells ≤ 600000; omega, by show slots ≤ 7302250; omega⟩ dL_law_272 (fun H locs hw => ?_)
  refine lv_aload_n C.1 C.2.1 dL_law_275 rfl (lv_at hl 3 rfl) ?_
  refine law_arg (k := 1) C hw hX hbl hbA hl (by decide) (by omega) hL dL_law_276 dL_law_277 dL_law_278 dL_law_279 dL_law_280 ?_
  refine law_arg (k := 2) C hw hX hbl hbA hl (by decide) (by omega) hL dL_law_281 dL_law_282 dL_law_283 dL_law_284 dL_law_285 ?_
  refine law_call C hw.swap mf_X10_told mv_X10_told ml_L_22 cf10 (yT0 _) (fun A => c_X10_told l G A ay e2) (As := [.int (xs (j + 1)), .int (xs (j + 2))]) (rest := [.int r]) hl.1 rfl rfl (Nat.le_of_ble_eq_true rfl) ⟨rfl, rfl, Nat.le_of_ble_eq_true rfl, Nat.le_of_ble_eq_true rfl⟩ ⟨by show _ ≤ 600000; omega, by show _ ≤ 7302250; omega⟩ dL_law_286 (fun H locs hw => ?_)
  refine lv_icmp_eq (tgt := 1398) C.1 C.2.1 dL_law_289 (by decide) (fun _ => ?_) (fun hne => absurd rfl hne)
  exact KK ax I1 X1 S1 J1 nc1 ns1 nt1 H locs _ _ rfl h1 hw.swap (by omega) (by omega)
theorem lawc_2 (C : Cx G (fun q => s.heap.size ≤ q) p s m #[Value.ref b] meth c R_law cL_law 4 (some .boolean)) (hX : va_X b L xs s s.heap) (hbl : b < s.heap.size) (hL : L ≤ 384) (hj : j + 6 ≤ L) (h : Sm I X S J nc ns nt) (hw : LW G (fun q => s.heap.size ≤ q) ax ay s.heap (I, X, S) (J, YZ) H locs) (hl : lv_has ls 4 [(3, .int (nI j)), (0, .ref b), (1, .ref (ax 0)), (2, .ref (ay 0))]) (hc : cells + 2 ≤ 600000) (hs : slots + 99 ≤ 7302250) (KK : LKont p l e s m b below meth c Q G ay (ax 0) ls cells slots) : W p l e room_1 s m #[Value.ref b] below meth c H locs cells slots Q (F0 m 294 ls []) := by
  have hbA : ¬ (fun q : Nat => s.heap.size ≤ q) b := Nat.not_le.mpr hbl
  refine lv_aload_n C.1 C.2.1 dL_law_294 rfl (lv_at hl 2 rfl) ?_
  refine law_arg (k := 1) C hw hX hbl hbA hl (by decide) (by omega) hL dL_law_295 dL_law_296 dL_law_297 dL_law_298 dL_law_299 ?_
  refine law_arg (k := 2) C hw hX hbl hbA hl (by decide) (by omega) hL dL_law_300 dL_law_301 dL_law_302 dL_law_303 dL_law_304 ?_
  obtain ⟨r, I1, X1, S1, J1, nc1, ns1, nt1, e1, e2, h1⟩ := op_as h (xs (j + 1)) (xs (j + 2))
  refine law_call C hw mf_X9_as mv_X9_as ml_L_23 cf9 (xT0 h.rs.la) (fun A => c_X9_as l G A ax e1) (As := [.int (xs (j + 1)), .int (xs (j + 2))]) (rest := []) hl.1 rfl rfl (Nat.le_of_ble_eq_true rfl) ⟨rfl, rfl, Nat.le_of_ble_eq_true rfl, Nat.le_of_ble_eq_true rfl⟩ ⟨by show cells ≤ 600000; omega, by show slots ≤ 7302250; omega⟩ dL_law_305 (fun H locs hw => ?_)
  refine lv_aload_n C.1 C.2.1 dL_law_308 rfl (lv_at hl 3 rfl) ?_
  refine law_arg (k := 1) C hw hX hbl hbA hl (by decide) (by omega) hL dL_law_309 dL_law_310 dL_law_311 dL_law_312 dL_law_313 ?_
  refine law_arg (k := 2) C hw hX hbl hbA hl (by decide) (by omega) hL dL_law_314 dL_law_315 dL_law_316 dL_law_317 dL_law_318 ?_
  refine law_call C hw.swap mf_X10_as mv_X10_as ml_L_26 cf10 (yT0 _) (fun A => c_X10_as l G A ay e2) (As := [.int (xs (j + 1)), .int (xs (j + 2))]) (rest := [.int r]) hl.1 rfl rfl (Nat.le_of_ble_eq_true rfl) ⟨rfl, rfl, Nat.le_of_ble_eq_true rfl, Nat.le_of_ble_eq_true rfl⟩ ⟨by show _ ≤ 600000; omega, by show _ ≤ 7302250; omega⟩ dL_law_319 (fun H locs hw => ?_)
  refine lv_icmp_eq (tgt := 1398) C.1 C.2.1 dL_law_322 (by decide) (fun _ => ?_) (fun hne => absurd rfl hne)
  exact KK ax I1 X1 S1 J1 nc1 ns1 nt1 H locs _ _ rfl h1 hw.swap (by omega) (by omega)
theorem lawc_3 (C : Cx G (fun q => s.heap.size ≤ q) p s m #[Value.ref b] meth c R_law cL_law 4 (some .boolean)) (hX : va_X b L xs s s.heap) (hbl : b < s.heap.size) (hL : L ≤ 384) (hj : j + 6 ≤ L) (h : Sm I X S J nc ns nt) (hw : LW G (fun q => s.heap.size ≤ q) ax ay s.heap (I, X, S) (J, YZ) H locs) (hl : lv_has ls 4 [(3, .int (nI j)), (0, .ref b), (1, .ref (ax 0)), (2, .ref (ay 0))]) (hc : cells + 2 ≤ 600000) (hs : slots + 99 ≤ 7302250) (KK : LKont p l e s m b below meth c Q G ay (ax 0) ls cells slots) : W p l e room_1 s m #[Value.ref b] below meth c H locs cells slots Q (F0 m 327 ls []) := by
  have hbA : ¬ (fun q : Nat => s.heap.size ≤ q) b := Nat.not_le.mpr hbl
  refine lv_aload_n C.1 C.2.1 dL_law_327 rfl (lv_at hl 2 rfl) ?_
  refine law_arg (k := 1) C hw hX hbl hbA hl (by decide) (by omega) hL dL_law_328 dL_law_329 dL_law_330 dL_law_331 dL_law_332 ?_
  refine law_arg (k := 2) C hw hX hbl hbA hl (by decide) (by omega) hL dL_law_333 dL_law_334 dL_law_335 dL_law_336 dL_law_337 ?_
  obtain ⟨r, I1, X1, S1, J1, nc1, ns1, nt1, e1, e2, h1⟩ := op_turns h (xs (j + 1)) (xs (j + 2))
  refine law_call C hw mf_X9_turns mv_X9_turns ml_L_27 cf9 (xT0 h.rs.la) (fun A => c_X9_turns l G A ax e1) (As := [.int (xs (j + 1)), .int (xs (j + 2))]) (rest := []) hl.1 rfl rfl (Nat.le_of_ble_eq_true rfl) ⟨rfl, rfl, Nat.le_of_ble_eq_true rfl, Nat.le_of_ble_eq_true rfl⟩ ⟨by show cells ≤ 600000; omega, by show slots ≤ 7302250; omega⟩ dL_law_338 (fun H locs hw => ?_)
  refine lv_aload_n C.1 C.2.1 dL_law_341 rfl (lv_at hl 3 rfl) ?_
  refine law_arg (k := 1) C hw hX hbl hbA hl (by decide) (by omega) hL dL_law_342 dL_law_343 dL_law_344 dL_law_345 dL_law_346 ?_
  refine law_arg (k := 2) C hw hX hbl hbA hl (by decide) (by omega) hL dL_law_347 dL_law_348 dL_law_349 dL_law_350 dL_law_351 ?_
  refine law_call C hw.swap mf_X10_turns mv_X10_turns ml_L_30 cf10 (yT0 _) (fun A => c_X10_turns l G A ay e2) (As := [.int (xs (j + 1)), .int (xs (j + 2))]) (rest := [.int r]) hl.1 rfl rfl (Nat.le_of_ble_eq_true rfl) ⟨rfl, rfl, Nat.le_of_ble_eq_true rfl, Nat.le_of_ble_eq_true rfl⟩ ⟨by show _ ≤ 600000; omega, by show _ ≤ 7302250; omega⟩ dL_law_352 (fun H locs hw => ?_)
  refine lv_icmp_eq (tgt := 1398) C.1 C.2.1 dL_law_355 (by decide) (fun _ => ?_) (fun hne => absurd rfl hne)
  exact KK ax I1 X1 S1 J1 nc1 ns1 nt1 H locs _ _ rfl h1 hw.swap (by omega) (by omega)
theorem lawc_4 (C : Cx G (fun q => s.heap.size ≤ q) p s m #[Value.ref b] meth c R_law cL_law 4 (some .boolean)) (hX : va_X b L xs s s.heap) (hbl : b < s.heap.size) (hL : L ≤ 384) (hj : j + 6 ≤ L) (h : Sm I X S J nc ns nt) (hw : LW G (fun q => s.heap.size ≤ q) ax ay s.heap (I, X, S) (J, YZ) H locs) (hl : lv_has ls 4 [(3, .int (nI j)), (0, .ref b), (1, .ref (ax 0)), (2, .ref (ay 0))]) (hc : cells + 2 ≤ 600000) (hs : slots + 99 ≤ 7302250) (KK : LKont p l e s m b below meth c Q G ay (ax 0) ls cells slots) : W p l e room_1 s m #[Value.ref b] below meth c H locs cells slots Q (F0 m 360 ls []) := by
  have hbA : ¬ (fun q : Nat => s.heap.size ≤ q) b := Nat.not_le.mpr hbl
  refine lv_aload_n C.1 C.2.1 dL_law_360 rfl (lv_at hl 2 rfl) ?_
  refine law_arg (k := 1) C hw hX hbl hbA hl (by decide) (by omega) hL dL_law_361 dL_law_362 dL_law_363 dL_law_364 dL_law_365 ?_
  refine law_arg (k := 2) C hw hX hbl hbA hl (by decide) (by omega) hL dL_law_366 dL_law_367 dL_law_368 dL_law_369 dL_law_370 ?_
  refine law_arg (k := 3) C hw hX hbl hbA hl (by decide) (by omega) hL dL_law_371 dL_law_372 dL_law_373 dL_law_374 dL_law_375 ?_
  obtain ⟨r, I1, X1, S1, J1, nc1, ns1, nt1, e1, e2, h1⟩ := op_set h (xs (j + 1)) (xs (j + 2)) (xs (j + 3))
  refine law_call C hw mf_X9_set mv_X9_set ml_L_31 cf9 (xT0 h.rs.la) (fun A => c_X9_set l G A ax e1) (As := [.int (xs (j + 1)), .int (xs (j + 2)), .int (xs (j + 3))]) (rest := []) hl.1 rfl rfl (Nat.le_of_ble_eq_true rfl) ⟨rfl, rfl, Nat.le_of_ble_eq_true rfl, Nat.le_of_ble_eq_true rfl⟩ ⟨by show cells ≤ 600000; omega, by show slots ≤ 7302250; omega⟩ dL_law_376 (fun H locs hw => ?_)
  refine lv_aload_n C.1 C.2.1 dL_law_379 rfl (lv_at hl 3 rfl) ?_
  refine law_arg (k := 1) C hw hX hbl hbA hl (by decide) (by omega) hL dL_law_380 dL_law_381 dL_law_382 dL_law_383 dL_law_384 ?_
  refine law_arg (k := 2) C hw hX hbl hbA hl (by decide) (by omega) hL dL_law_385 dL_law_386 dL_law_387 dL_law_388 dL_law_389 ?_
  refine law_arg (k := 3) C hw hX hbl hbA hl (by decide) (by omega) hL dL_law_390 dL_law_391 dL_law_392 dL_law_393 dL_law_394 ?_
  refine law_call C hw.swap mf_X10_set mv_X10_set ml_L_35 cf10 (yT0 _) (fun A => c_X10_set l G A ay e2) (As := [.int (xs (j + 1)), .int (xs (j + 2)), .int (xs (j + 3))]) (rest := [.int r]) hl.1 rfl rfl (Nat.le_of_ble_eq_true rfl) ⟨rfl, rfl, Nat.le_of_ble_eq_true rfl, Nat.le_of_ble_eq_true rfl⟩ ⟨by show _ ≤ 600000; omega, by show _ ≤ 7302250; omega⟩ dL_law_395 (fun H locs hw => ?_)
  refine lv_icmp_eq (tgt := 1398) C.1 C.2.1 dL_law_398 (by decide) (fun _ => ?_) (fun hne => absurd rfl hne)
  exact KK ax I1 X1 S1 J1 nc1 ns1 nt1 H locs _ _ rfl h1 hw.swap (by omega) (by omega)
theorem lawc_5 (C : Cx G (fun q => s.heap.size ≤ q) p s m #[Value.ref b] meth c R_law cL_law 4 (some .boolean)) (hX : va_X b L xs s s.heap) (hbl : b < s.heap.size) (hL : L ≤ 384) (hj : j + 6 ≤ L) (h : Sm I X S J nc ns nt) (hw : LW G (fun q => s.heap.size ≤ q) ax ay s.heap (I, X, S) (J, YZ) H locs) (hl : lv_has ls 4 [(3, .int (nI j)), (0, .ref b), (1, .ref (ax 0)), (2, .ref (ay 0))]) (hc : cells + 2 ≤ 600000) (hs : slots + 99 ≤ 7302250) (KK : LKont p l e s m b below meth c Q G ay (ax 0) ls cells slots) : W p l e room_1 s m #[Value.ref b] below meth c H locs cells slots Q (F0 m 403 ls []) := by
  have hbA : ¬ (fun q : Nat => s.heap.size ≤ q) b := Nat.not_le.mpr hbl
  refine lv_aload_n C.1 C.2.1 dL_law_403 rfl (lv_at hl 2 rfl) ?_
  refine law_arg (k := 1) C hw hX hbl hbA hl (by decide) (by omega) hL dL_law_404 dL_law_405 dL_law_406 dL_law_407 dL_law_408 ?_
  refine law_arg (k := 2) C hw hX hbl hbA hl (by decide) (by omega) hL dL_law_409 dL_law_410 dL_law_411 dL_law_412 dL_law_413 ?_
  obtain ⟨r, I1, X1, S1, J1, nc1, ns1, nt1, e1, e2, h1⟩ := op_stork h (xs (j + 1)) (xs (j + 2))
  refine law_call C hw mf_X9_stork mv_X9_stork ml_L_36 cf9 (xT0 h.rs.la) (fun A => c_X9_stork l G A ax e1) (As := [.int (xs (j + 1)), .int (xs (j + 2))]) (rest := []) hl.1 rfl rfl (Nat.le_of_ble_eq_true rfl) ⟨rfl, rfl, Nat.le_of_ble_eq_true rfl, Nat.le_of_ble_eq_true rfl⟩ ⟨by show cells ≤ 600000; omega, by show slots ≤ 7302250; omega⟩ dL_law_414 (fun H locs hw => ?_)
  refine lv_aload_n C.1 C.2.1 dL_law_417 rfl (lv_at hl 3 rfl) ?_
  refine law_arg (k := 1) C hw hX hbl hbA hl (by decide) (by omega) hL dL_law_418 dL_law_419 dL_law_420 dL_law_421 dL_law_422 ?_
  refine law_arg (k := 2) C hw hX hbl hbA hl (by decide) (by omega) hL dL_law_423 dL_law_424 dL_law_425 dL_law_426 dL_law_427 ?_
  refine law_call C hw.swap mf_X10_stork mv_X10_stork ml_L_39 cf10 (yT0 _) (fun A => c_X10_stork l G A ay e2) (As := [.int (xs (j + 1)), .int (xs (j + 2))]) (rest := [.int r]) hl.1 rfl rfl (Nat.le_of_ble_eq_true rfl) ⟨rfl, rfl, Nat.le_of_ble_eq_true rfl, Nat.le_of_ble_eq_true rfl⟩ ⟨by show _ ≤ 600000; omega, by show _ ≤ 7302250; omega⟩ dL_law_428 (fun H locs hw => ?_)
  refine lv_icmp_eq (tgt := 1398) C.1 C.2.1 dL_law_431 (by decide) (fun _ => ?_) (fun hne => absurd rfl hne)
  exact KK ax I1 X1 S1 J1 nc1 ns1 nt1 H locs _ _ rfl h1 hw.swap (by omega) (by omega)
theorem lawc_6 (C : Cx G (fun q => s.heap.size ≤ q) p s m #[Value.ref b] meth c R_law cL_law 4 (some .boolean)) (hX : va_X b L xs s s.heap) (hbl : b < s.heap.size) (hL : L ≤ 384) (hj : j + 6 ≤ L) (h : Sm I X S J nc ns nt) (hw : LW G (fun q => s.heap.size ≤ q) ax ay s.heap (I, X, S) (J, YZ) H locs) (hl : lv_has ls 4 [(3, .int (nI j)), (0, .ref b), (1, .ref (ax 0)), (2, .ref (ay 0))]) (hc : cells + 2 ≤ 600000) (hs : slots + 99 ≤ 7302250) (KK : LKont p l e s m b below meth c Q G ay (ax 0) ls cells slots) : W p l e room_1 s m #[Value.ref b] below meth c H locs cells slots Q (F0 m 436 ls []) := by
  have hbA : ¬ (fun q : Nat => s.heap.size ≤ q) b := Nat.not_le.mpr hbl
  refine lv_aload_n C.1 C.2.1 dL_law_436 rfl (lv_at hl 2 rfl) ?_
  refine law_arg (k := 1) C hw hX hbl hbA hl (by decide) (by omega) hL dL_law_437 dL_law_438 dL_law_439 dL_law_440 dL_law_441 ?_
  refine law_arg (k := 2) C hw hX hbl hbA hl (by decide) (by omega) hL dL_law_442 dL_law_443 dL_law_444 dL_law_445 dL_law_446 ?_
  obtain ⟨r, I1, X1, S1, J1, nc1, ns1, nt1, e1, e2, h1⟩ := op_storkTold h (xs (j + 1)) (xs (j + 2))
  refine law_call C hw mf_X9_storkTold mv_X9_storkTold ml_L_40 cf9 (xT0 h.rs.la) (fun A => c_X9_storkTold l G A ax e1) (As := [.int (xs (j + 1)), .int (xs (j + 2))]) (rest := []) hl.1 rfl rfl (Nat.le_of_ble_eq_true rfl) ⟨rfl, rfl, Nat.le_of_ble_eq_true rfl, Nat.le_of_ble_eq_true rfl⟩ ⟨by show cells ≤ 600000; omega, by show slots ≤ 7302250; omega⟩ dL_law_447 (fun H locs hw => ?_)
  refine lv_aload_n C.1 C.2.1 dL_law_450 rfl (lv_at hl 3 rfl) ?_
  refine law_arg (k := 1) C hw hX hbl hbA hl (by decide) (by omega) hL dL_law_451 dL_law_452 dL_law_453 dL_law_454 dL_law_455 ?_
  refine law_arg (k := 2) C hw hX hbl hbA hl (by decide) (by omega) hL dL_law_456 dL_law_457 dL_law_458 dL_law_459 dL_law_460 ?_
  refine law_call C hw.swap mf_X10_storkTold mv_X10_storkTold ml_L_43 cf10 (yT0 _) (fun A => c_X10_storkTold l G A ay e2) (As := [.int (xs (j + 1)), .int (xs (j + 2))]) (rest := [.int r]) hl.1 rfl rfl (Nat.le_of_ble_eq_true rfl) ⟨rfl, rfl, Nat.le_of_ble_eq_true rfl, Nat.le_of_ble_eq_true rfl⟩ ⟨by show _ ≤ 600000; omega, by show _ ≤ 7302250; omega⟩ dL_law_461 (fun H locs hw => ?_)
  refine lv_icmp_eq (tgt := 1398) C.1 C.2.1 dL_law_464 (by decide) (fun _ => ?_) (fun hne => absurd rfl hne)
  exact KK ax I1 X1 S1 J1 nc1 ns1 nt1 H locs _ _ rfl h1 hw.swap (by omega) (by omega)
theorem lawc_7 (C : Cx G (fun q => s.heap.size ≤ q) p s m #[Value.ref b] meth c R_law cL_law 4 (some .boolean)) (hX : va_X b L xs s s.heap) (hbl : b < s.heap.size) (hL : L ≤ 384) (hj : j + 6 ≤ L) (h : Sm I X S J nc ns nt) (hw : LW G (fun q => s.heap.size ≤ q) ax ay s.heap (I, X, S) (J, YZ) H locs) (hl : lv_has ls 4 [(3, .int (nI j)), (0, .ref b), (1, .ref (ax 0)), (2, .ref (ay 0))]) (hc : cells + 2 ≤ 600000) (hs : slots + 99 ≤ 7302250) (KK : LKont p l e s m b below meth c Q G ay (ax 0) ls cells slots) : W p l e room_1 s m #[Value.ref b] below meth c H locs cells slots Q (F0 m 469 ls []) := by
  have hbA : ¬ (fun q : Nat => s.heap.size ≤ q) b := Nat.not_le.mpr hbl
  refine lv_aload_n C.1 C.2.1 dL_law_469 rfl (lv_at hl 2 rfl) ?_
  refine law_arg (k := 1) C hw hX hbl hbA hl (by decide) (by omega) hL dL_law_470 dL_law_471 dL_law_472 dL_law_473 dL_law_474 ?_
  refine law_arg (k := 2) C hw hX hbl hbA hl (by decide) (by omega) hL dL_law_475 dL_law_476 dL_law_477 dL_law_478 dL_law_479 ?_
  obtain ⟨r, I1, X1, S1, J1, nc1, ns1, nt1, e1, e2, h1⟩ := op_away h (xs (j + 1)) (xs (j + 2))
  refine law_call C hw mf_X9_away mv_X9_away ml_L_44 cf9 (xT0 h.rs.la) (fun A => c_X9_away l G A ax e1) (As := [.int (xs (j + 1)), .int (xs (j + 2))]) (rest := []) hl.1 rfl rfl (Nat.le_of_ble_eq_true rfl) ⟨rfl, rfl, Nat.le_of_ble_eq_true rfl, Nat.le_of_ble_eq_true rfl⟩ ⟨by show cells ≤ 600000; omega, by show slots ≤ 7302250; omega⟩ dL_law_480 (fun H locs hw => ?_)
  refine lv_aload_n C.1 C.2.1 dL_law_483 rfl (lv_at hl 3 rfl) ?_
  refine law_arg (k := 1) C hw hX hbl hbA hl (by decide) (by omega) hL dL_law_484 dL_law_485 dL_law_486 dL_law_487 dL_law_488 ?_
  refine law_arg (k := 2) C hw hX hbl hbA hl (by decide) (by omega) hL dL_law_489 dL_law_490 dL_law_491 dL_law_492 dL_law_493 ?_
  refine law_call C hw.swap mf_X10_away mv_X10_away ml_L_47 cf10 (yT0 _) (fun A => c_X10_away l G A ay e2) (As := [.int (xs (j + 1)), .int (xs (j + 2))]) (rest := [.int r]) hl.1 rfl rfl (Nat.le_of_ble_eq_true rfl) ⟨rfl, rfl, Nat.le_of_ble_eq_true rfl, Nat.le_of_ble_eq_true rfl⟩ ⟨by show _ ≤ 600000; omega, by show _ ≤ 7302250; omega⟩ dL_law_494 (fun H locs hw => ?_)
  refine lv_icmp_eq (tgt := 1398) C.1 C.2.1 dL_law_497 (by decide) (fun _ => ?_) (fun hne => absurd rfl hne)
  exact KK ax I1 X1 S1 J1 nc1 ns1 nt1 H locs _ _ rfl h1 hw.swap (by omega) (by omega)
theorem lawc_8 (C : Cx G (fun q => s.heap.size ≤ q) p s m #[Value.ref b] meth c R_law cL_law 4 (some .boolean)) (hX : va_X b L xs s s.heap) (hbl : b < s.heap.size) (hL : L ≤ 384) (hj : j + 6 ≤ L) (h : Sm I X S J nc ns nt) (hw : LW G (fun q => s.heap.size ≤ q) ax ay s.heap (I, X, S) (J, YZ) H locs) (hl : lv_has ls 4 [(3, .int (nI j)), (0, .ref b), (1, .ref (ax 0)), (2, .ref (ay 0))]) (hc : cells + 2 ≤ 600000) (hs : slots + 99 ≤ 7302250) (KK : LKont p l e s m b below meth c Q G ay (ax 0) ls cells slots) : W p l e room_1 s m #[Value.ref b] below meth c H locs cells slots Q (F0 m 502 ls []) := by
  have hbA : ¬ (fun q : Nat => s.heap.size ≤ q) b := Nat.not_le.mpr hbl
  refine lv_aload_n C.1 C.2.1 dL_law_502 rfl (lv_at hl 2 rfl) ?_
  refine law_arg (k := 1) C hw hX hbl hbA hl (by decide) (by omega) hL dL_law_503 dL_law_504 dL_law_505 dL_law_506 dL_law_507 ?_
  refine law_arg (k := 2) C hw hX hbl hbA hl (by decide) (by omega) hL dL_law_508 dL_law_509 dL_law_510 dL_law_511 dL_law_512 ?_
  obtain ⟨r, I1, X1, S1, J1, nc1, ns1, nt1, e1, e2, h1⟩ := op_likes h (xs (j + 1)) (xs (j + 2))
  refine law_call C hw mf_X9_likes mv_X9_likes ml_L_48 cf9 (xT0 h.rs.la) (fun A => c_X9_likes l G A ax e1) (As := [.int (xs (j + 1)), .int (xs (j + 2))]) (rest := []) hl.1 rfl rfl (Nat.le_of_ble_eq_true rfl) ⟨rfl, rfl, Nat.le_of_ble_eq_true rfl, Nat.le_of_ble_eq_true rfl⟩ ⟨by show cells ≤ 600000; omega, by show slots ≤ 7302250; omega⟩ dL_law_513 (fun H locs hw => ?_)
  refine lv_aload_n C.1 C.2.1 dL_law_516 rfl (lv_at hl 3 rfl) ?_
  refine law_arg (k := 1) C hw hX hbl hbA hl (by decide) (by omega) hL dL_law_517 dL_law_518 dL_law_519 dL_law_520 dL_law_521 ?_
  refine law_arg (k := 2) C hw hX hbl hbA hl (by decide) (by omega) hL dL_law_522 dL_law_523 dL_law_524 dL_law_525 dL_law_526 ?_
  refine law_call C hw.swap mf_X10_likes mv_X10_likes ml_L_51 cf10 (yT0 _) (fun A => c_X10_likes l G A ay e2) (As := [.int (xs (j + 1)), .int (xs (j + 2))]) (rest := [.int r]) hl.1 rfl rfl (Nat.le_of_ble_eq_true rfl) ⟨rfl, rfl, Nat.le_of_ble_eq_true rfl, Nat.le_of_ble_eq_true rfl⟩ ⟨by show _ ≤ 600000; omega, by show _ ≤ 7302250; omega⟩ dL_law_527 (fun H locs hw => ?_)
  refine lv_icmp_eq (tgt := 1398) C.1 C.2.1 dL_law_530 (by decide) (fun _ => ?_) (fun hne => absurd rfl hne)
  exact KK ax I1 X1 S1 J1 nc1 ns1 nt1 H locs _ _ rfl h1 hw.swap (by omega) (by omega)
theorem lawc_9 (C : Cx G (fun q => s.heap.size ≤ q) p s m #[Value.ref b] meth c R_law cL_law 4 (some .boolean)) (hX : va_X b L xs s s.heap) (hbl : b < s.heap.size) (hL : L ≤ 384) (hj : j + 6 ≤ L) (h : Sm I X S J nc ns nt) (hw : LW G (fun q => s.heap.size ≤ q) ax ay s.heap (I, X, S) (J, YZ) H locs) (hl : lv_has ls 4 [(3, .int (nI j)), (0, .ref b), (1, .ref (ax 0)), (2, .ref (ay 0))]) (hc : cells + 2 ≤ 600000) (hs : slots + 99 ≤ 7302250) (KK : LKont p l e s m b below meth c Q G ay (ax 0) ls cells slots) : W p l e room_1 s m #[Value.ref b] below meth c H locs cells slots Q (F0 m 535 ls []) := by
  have hbA : ¬ (fun q : Nat => s.heap.size ≤ q) b := Nat.not_le.mpr hbl
  refine lv_aload_n C.1 C.2.1 dL_law_535 rfl (lv_at hl 2 rfl) ?_
  refine law_arg (k := 1) C hw hX hbl hbA hl (by decide) (by omega) hL dL_law_536 dL_law_537 dL_law_538 dL_law_539 dL_law_540 ?_
  refine law_arg (k := 2) C hw hX hbl hbA hl (by decide) (by omega) hL dL_law_541 dL_law_542 dL_law_543 dL_law_544 dL_law_545 ?_
  obtain ⟨r, I1, X1, S1, J1, nc1, ns1, nt1, e1, e2, h1⟩ := op_rule h (xs (j + 1)) (xs (j + 2))
  refine law_call C hw mf_X9_rule mv_X9_rule ml_L_52 cf9 (xT0 h.rs.la) (fun A => c_X9_rule l G A ax e1) (As := [.int (xs (j + 1)), .int (xs (j + 2))]) (rest := []) hl.1 rfl rfl (Nat.le_of_ble_eq_true rfl) ⟨rfl, rfl, Nat.le_of_ble_eq_true rfl, Nat.le_of_ble_eq_true rfl⟩ ⟨by show cells ≤ 600000; omega, by show slots ≤ 7302250; omega⟩ dL_law_546 (fun H locs hw => ?_)
  refine lv_aload_n C.1 C.2.1 dL_law_549 rfl (lv_at hl 3 rfl) ?_
  refine law_arg (k := 1) C hw hX hbl hbA hl (by decide) (by omega) hL dL_law_550 dL_law_551 dL_law_552 dL_law_553 dL_law_554 ?_
  refine law_arg (k := 2) C hw hX hbl hbA hl (by decide) (by omega) hL dL_law_555 dL_law_556 dL_law_557 dL_law_558 dL_law_559 ?_
  refine law_call C hw.swap mf_X10_rule mv_X10_rule ml_L_55 cf10 (yT0 _) (fun A => c_X10_rule l G A ay e2) (As := [.int (xs (j + 1)), .int (xs (j + 2))]) (rest := [.int r]) hl.1 rfl rfl (Nat.le_of_ble_eq_true rfl) ⟨rfl, rfl, Nat.le_of_ble_eq_true rfl, Nat.le_of_ble_eq_true rfl⟩ ⟨by show _ ≤ 600000; omega, by show _ ≤ 7302250; omega⟩ dL_law_560 (fun H locs hw => ?_)
  refine lv_icmp_eq (tgt := 1398) C.1 C.2.1 dL_law_563 (by decide) (fun _ => ?_) (fun hne => absurd rfl hne)
  exact KK ax I1 X1 S1 J1 nc1 ns1 nt1 H locs _ _ rfl h1 hw.swap (by omega) (by omega)
theorem lawc_10 (C : Cx G (fun q => s.heap.size ≤ q) p s m #[Value.ref b] meth c R_law cL_law 4 (some .boolean)) (hX : va_X b L xs s s.heap) (hbl : b < s.heap.size) (hL : L ≤ 384) (hj : j + 6 ≤ L) (h : Sm I X S J nc ns nt) (hw : LW G (fun q => s.heap.size ≤ q) ax ay s.heap (I, X, S) (J, YZ) H locs) (hl : lv_has ls 4 [(3, .int (nI j)), (0, .ref b), (1, .ref (ax 0)), (2, .ref (ay 0))]) (hc : cells + 2 ≤ 600000) (hs : slots + 99 ≤ 7302250) (KK : LKont p l e s m b below meth c Q G ay (ax 0) ls cells slots) : W p l e room_1 s m #[Value.ref b] below meth c H locs cells slots Q (F0 m 568 ls []) := by
  have hbA : ¬ (fun q : Nat => s.heap.size ≤ q) b := Nat.not_le.mpr hbl
  refine lv_aload_n C.1 C.2.1 dL_law_568 rfl (lv_at hl 2 rfl) ?_
  refine law_arg (k := 1) C hw hX hbl hbA hl (by decide) (by omega) hL dL_law_569 dL_law_570 dL_law_571 dL_law_572 dL_law_573 ?_
  obtain ⟨r, I1, X1, S1, J1, nc1, ns1, nt1, e1, e2, h1⟩ := op_deal h (xs (j + 1))
  refine law_call C hw mf_X9_deal mv_X9_deal ml_L_56 cf9 (xT0 h.rs.la) (fun A => c_X9_deal l G A ax e1) (As := [.int (xs (j + 1))]) (rest := []) hl.1 rfl rfl (Nat.le_of_ble_eq_true rfl) ⟨rfl, rfl, Nat.le_of_ble_eq_true rfl, Nat.le_of_ble_eq_true rfl⟩ ⟨by show cells ≤ 600000; omega, by show slots ≤ 7302250; omega⟩ dL_law_574 (fun H locs hw => ?_)
  refine lv_aload_n C.1 C.2.1 dL_law_577 rfl (lv_at hl 3 rfl) ?_
  refine law_arg (k := 1) C hw hX hbl hbA hl (by decide) (by omega) hL dL_law_578 dL_law_579 dL_law_580 dL_law_581 dL_law_582 ?_
  refine law_call C hw.swap mf_X10_deal mv_X10_deal ml_L_60 cf10 (yT0 _) (fun A => c_X10_deal l G A ay e2) (As := [.int (xs (j + 1))]) (rest := [.int r]) hl.1 rfl rfl (Nat.le_of_ble_eq_true rfl) ⟨rfl, rfl, Nat.le_of_ble_eq_true rfl, Nat.le_of_ble_eq_true rfl⟩ ⟨by show _ ≤ 600000; omega, by show _ ≤ 7302250; omega⟩ dL_law_583 (fun H locs hw => ?_)
  refine lv_icmp_eq (tgt := 1398) C.1 C.2.1 dL_law_586 (by decide) (fun _ => ?_) (fun hne => absurd rfl hne)
  exact KK ax I1 X1 S1 J1 nc1 ns1 nt1 H locs _ _ rfl h1 hw.swap (by omega) (by omega)
theorem lawc_11 (C : Cx G (fun q => s.heap.size ≤ q) p s m #[Value.ref b] meth c R_law cL_law 4 (some .boolean)) (hX : va_X b L xs s s.heap) (hbl : b < s.heap.size) (hL : L ≤ 384) (hj : j + 6 ≤ L) (h : Sm I X S J nc ns nt) (hw : LW G (fun q => s.heap.size ≤ q) ax ay s.heap (I, X, S) (J, YZ) H locs) (hl : lv_has ls 4 [(3, .int (nI j)), (0, .ref b), (1, .ref (ax 0)), (2, .ref (ay 0))]) (hc : cells + 2 ≤ 600000) (hs : slots + 99 ≤ 7302250) (KK : LKont p l e s m b below meth c Q G ay (ax 0) ls cells slots) : W p l e room_1 s m #[Value.ref b] below meth c H locs cells slots Q (F0 m 591 ls []) := by
  have hbA : ¬ (fun q : Nat => s.heap.size ≤ q) b := Nat.not_le.mpr hbl
  refine lv_aload_n C.1 C.2.1 dL_law_591 rfl (lv_at hl 2 rfl) ?_
  refine law_arg (k := 1) C hw hX hbl hbA hl (by decide) (by omega) hL dL_law_592 dL_law_593 dL_law_594 dL_law_595 dL_law_596 ?_
  obtain ⟨r, I1, X1, S1, J1, nc1, ns1, nt1, e1, e2, h1⟩ := op_seed h (xs (j + 1))
  refine law_call C hw mf_X9_seed mv_X9_seed ml_L_61 cf9 (xT0 h.rs.la) (fun A => c_X9_seed l G A ax e1) (As := [.int (xs (j + 1))]) (rest := []) hl.1 rfl rfl (Nat.le_of_ble_eq_true rfl) ⟨rfl, rfl, Nat.le_of_ble_eq_true rfl, Nat.le_of_ble_eq_true rfl⟩ ⟨by show cells ≤ 600000; omega, by show slots ≤ 7302250; omega⟩ dL_law_597 (fun H locs hw => ?_)
  refine lv_aload_n C.1 C.2.1 dL_law_600 rfl (lv_at hl 3 rfl) ?_
  refine law_arg (k := 1) C hw hX hbl hbA hl (by decide) (by omega) hL dL_law_601 dL_law_602 dL_law_603 dL_law_604 dL_law_605 ?_
  refine law_call C hw.swap mf_X10_seed mv_X10_seed ml_L_64 cf10 (yT0 _) (fun A => c_X10_seed l G A ay e2) (As := [.int (xs (j + 1))]) (rest := [.int r]) hl.1 rfl rfl (Nat.le_of_ble_eq_true rfl) ⟨rfl, rfl, Nat.le_of_ble_eq_true rfl, Nat.le_of_ble_eq_true rfl⟩ ⟨by show _ ≤ 600000; omega, by show _ ≤ 7302250; omega⟩ dL_law_606 (fun H locs hw => ?_)
  refine lv_icmp_eq (tgt := 1398) C.1 C.2.1 dL_law_609 (by decide) (fun _ => ?_) (fun hne => absurd rfl hne)
  exact KK ax I1 X1 S1 J1 nc1 ns1 nt1 H locs _ _ rfl h1 hw.swap (by omega) (by omega)
theorem lawc_12 (C : Cx G (fun q => s.heap.size ≤ q) p s m #[Value.ref b] meth c R_law cL_law 4 (some .boolean)) (hX : va_X b L xs s s.heap) (hbl : b < s.heap.size) (hL : L ≤ 384) (hj : j + 6 ≤ L) (h : Sm I X S J nc ns nt) (hw : LW G (fun q => s.heap.size ≤ q) ax ay s.heap (I, X, S) (J, YZ) H locs) (hl : lv_has ls 4 [(3, .int (nI j)), (0, .ref b), (1, .ref (ax 0)), (2, .ref (ay 0))]) (hc : cells + 2 ≤ 600000) (hs : slots + 99 ≤ 7302250) (KK : LKont p l e s m b below meth c Q G ay (ax 0) ls cells slots) : W p l e room_1 s m #[Value.ref b] below meth c H locs cells slots Q (F0 m 614 ls []) := by
  have hbA : ¬ (fun q : Nat => s.heap.size ≤ q) b := Nat.not_le.mpr hbl
  refine lv_aload_n C.1 C.2.1 dL_law_614 rfl (lv_at hl 2 rfl) ?_
  refine law_arg (k := 1) C hw hX hbl hbA hl (by decide) (by omega) hL dL_law_615 dL_law_616 dL_law_617 dL_law_618 dL_law_619 ?_
  refine law_arg (k := 2) C hw hX hbl hbA hl (by decide) (by omega) hL dL_law_620 dL_law_621 dL_law_622 dL_law_623 dL_law_624 ?_
  obtain ⟨r, I1, X1, S1, J1, nc1, ns1, nt1, e1, e2, h1⟩ := op_ward h (xs (j + 1)) (xs (j + 2))
  refine law_call C hw mf_X9_ward mv_X9_ward ml_L_65 cf9 (xT0 h.rs.la) (fun A => c_X9_ward l G A ax e1) (As := [.int (xs (j + 1)), .int (xs (j + 2))]) (rest := []) hl.1 rfl rfl (Nat.le_of_ble_eq_true rfl) ⟨rfl, rfl, Nat.le_of_ble_eq_true rfl, Nat.le_of_ble_eq_true rfl⟩ ⟨by show cells ≤ 600000; omega, by show slots ≤ 7302250; omega⟩ dL_law_625 (fun H locs hw => ?_)
  refine lv_aload_n C.1 C.2.1 dL_law_628 rfl (lv_at hl 3 rfl) ?_
  refine law_arg (k := 1) C hw hX hbl hbA hl (by decide) (by omega) hL dL_law_629 dL_law_630 dL_law_631 dL_law_632 dL_law_633 ?_
  refine law_arg (k := 2) C hw hX hbl hbA hl (by decide) (by omega) hL dL_law_634 dL_law_635 dL_law_636 dL_law_637 dL_law_638 ?_
  refine law_call C hw.swap mf_X10_ward mv_X10_ward ml_L_68 cf10 (yT0 _) (fun A => c_X10_ward l G A ay e2) (As := [.int (xs (j + 1)), .int (xs (j + 2))]) (rest := [.int r]) hl.1 rfl rfl (Nat.le_of_ble_eq_true rfl) ⟨rfl, rfl, Nat.le_of_ble_eq_true rfl, Nat.le_of_ble_eq_true rfl⟩ ⟨by show _ ≤ 600000; omega, by show _ ≤ 7302250; omega⟩ dL_law_639 (fun H locs hw => ?_)
  refine lv_icmp_eq (tgt := 1398) C.1 C.2.1 dL_law_642 (by decide) (fun _ => ?_) (fun hne => absurd rfl hne)
  exact KK ax I1 X1 S1 J1 nc1 ns1 nt1 H locs _ _ rfl h1 hw.swap (by omega) (by omega)
theorem lawc_13 (C : Cx G (fun q => s.heap.size ≤ q) p s m #[Value.ref b] meth c R_law cL_law 4 (some .boolean)) (hX : va_X b L xs s s.heap) (hbl : b < s.heap.size) (hL : L ≤ 384) (hj : j + 6 ≤ L) (h : Sm I X S J nc ns nt) (hw : LW G (fun q => s.heap.size ≤ q) ax ay s.heap (I, X, S) (J, YZ) H locs) (hl : lv_has ls 4 [(3, .int (nI j)), (0, .ref b), (1, .ref (ax 0)), (2, .ref (ay 0))]) (hc : cells + 2 ≤ 600000) (hs : slots + 99 ≤ 7302250) (KK : LKont p l e s m b below meth c Q G ay (ax 0) ls cells slots) : W p l e room_1 s m #[Value.ref b] below meth c H locs cells slots Q (F0 m 647 ls []) := by
  have hbA : ¬ (fun q : Nat => s.heap.size ≤ q) b := Nat.not_le.mpr hbl
  refine lv_aload_n C.1 C.2.1 dL_law_647 rfl (lv_at hl 2 rfl) ?_
  obtain ⟨r, I1, X1, S1, J1, nc1, ns1, nt1, e1, e2, h1⟩ := op_elected h 
  refine law_call C hw mf_X9_elected mv_X9_elected ml_L_69 cf9 (xT0 h.rs.la) (fun A => c_X9_elected l G A ax e1) (As := []) (rest := []) hl.1 rfl rfl (Nat.le_of_ble_eq_true rfl) ⟨rfl, rfl, Nat.le_of_ble_eq_true rfl, Nat.le_of_ble_eq_true rfl⟩ ⟨by show cells ≤ 600000; omega, by show slots ≤ 7302250; omega⟩ dL_law_648 (fun H locs hw => ?_)
  refine lv_aload_n C.1 C.2.1 dL_law_651 rfl (lv_at hl 3 rfl) ?_
  refine law_call C hw.swap mf_X10_elected mv_X10_elected ml_L_73 cf10 (yT0 _) (fun A => c_X10_elected l G A ay e2) (As := []) (rest := [.int r]) hl.1 rfl rfl (Nat.le_of_ble_eq_true rfl) ⟨rfl, rfl, Nat.le_of_ble_eq_true rfl, Nat.le_of_ble_eq_true rfl⟩ ⟨by show _ ≤ 600000; omega, by show _ ≤ 7302250; omega⟩ dL_law_652 (fun H locs hw => ?_)
  refine lv_icmp_eq (tgt := 1398) C.1 C.2.1 dL_law_655 (by decide) (fun _ => ?_) (fun hne => absurd rfl hne)
  exact KK ax I1 X1 S1 J1 nc1 ns1 nt1 H locs _ _ rfl h1 hw.swap (by omega) (by omega)
theorem lawc_14 (C : Cx G (fun q => s.heap.size ≤ q) p s m #[Value.ref b] meth c R_law cL_law 4 (some .boolean)) (hX : va_X b L xs s s.heap) (hbl : b < s.heap.size) (hL : L ≤ 384) (hj : j + 6 ≤ L) (h : Sm I X S J nc ns nt) (hw : LW G (fun q => s.heap.size ≤ q) ax ay s.heap (I, X, S) (J, YZ) H locs) (hl : lv_has ls 4 [(3, .int (nI j)), (0, .ref b), (1, .ref (ax 0)), (2, .ref (ay 0))]) (hc : cells + 2 ≤ 600000) (hs : slots + 99 ≤ 7302250) (KK : LKont p l e s m b below meth c Q G ay (ax 0) ls cells slots) : W p l e room_1 s m #[Value.ref b] below meth c H locs cells slots Q (F0 m 660 ls []) := by
  have hbA : ¬ (fun q : Nat => s.heap.size ≤ q) b := Nat.not_le.mpr hbl
  refine lv_aload_n C.1 C.2.1 dL_law_660 rfl (lv_at hl 2 rfl) ?_
  refine law_arg (k := 1) C hw hX hbl hbA hl (by decide) (by omega) hL dL_law_661 dL_law_662 dL_law_663 dL_law_664 dL_law_665 ?_
  obtain ⟨r, I1, X1, S1, J1, nc1, ns1, nt1, e1, e2, h1⟩ := op_years h (xs (j + 1))
  refine law_call C hw mf_X9_years mv_X9_years ml_L_74 cf9 (xT0 h.rs.la) (fun A => c_X9_years l G A ax e1) (As := [.int (xs (j + 1))]) (rest := []) hl.1 rfl rfl (Nat.le_of_ble_eq_true rfl) ⟨rfl, rfl, Nat.le_of_ble_eq_true rfl, Nat.le_of_ble_eq_true rfl⟩ ⟨by show cells ≤ 600000; omega, by show slots ≤ 7302250; omega⟩ dL_law_666 (fun H locs hw => ?_)
  refine lv_aload_n C.1 C.2.1 dL_law_669 rfl (lv_at hl 3 rfl) ?_
  refine law_arg (k := 1) C hw hX hbl hbA hl (by decide) (by omega) hL dL_law_670 dL_law_671 dL_law_672 dL_law_673 dL_law_674 ?_
  refine law_call C hw.swap mf_X10_years mv_X10_years ml_L_77 cf10 (yT0 _) (fun A => c_X10_years l G A ay e2) (As := [.int (xs (j + 1))]) (rest := [.int r]) hl.1 rfl rfl (Nat.le_of_ble_eq_true rfl) ⟨rfl, rfl, Nat.le_of_ble_eq_true rfl, Nat.le_of_ble_eq_true rfl⟩ ⟨by show _ ≤ 600000; omega, by show _ ≤ 7302250; omega⟩ dL_law_675 (fun H locs hw => ?_)
  refine lv_icmp_eq (tgt := 1398) C.1 C.2.1 dL_law_678 (by decide) (fun _ => ?_) (fun hne => absurd rfl hne)
  exact KK ax I1 X1 S1 J1 nc1 ns1 nt1 H locs _ _ rfl h1 hw.swap (by omega) (by omega)
theorem lawc_15 (C : Cx G (fun q => s.heap.size ≤ q) p s m #[Value.ref b] meth c R_law cL_law 4 (some .boolean)) (hX : va_X b L xs s s.heap) (hbl : b < s.heap.size) (hL : L ≤ 384) (hj : j + 6 ≤ L) (h : Sm I X S J nc ns nt) (hw : LW G (fun q => s.heap.size ≤ q) ax ay s.heap (I, X, S) (J, YZ) H locs) (hl : lv_has ls 4 [(3, .int (nI j)), (0, .ref b), (1, .ref (ax 0)), (2, .ref (ay 0))]) (hc : cells + 2 ≤ 600000) (hs : slots + 99 ≤ 7302250) (KK : LKont p l e s m b below meth c Q G ay (ax 0) ls cells slots) : W p l e room_1 s m #[Value.ref b] below meth c H locs cells slots Q (F0 m 683 ls []) := by
  have hbA : ¬ (fun q : Nat => s.heap.size ≤ q) b := Nat.not_le.mpr hbl
  refine lv_aload_n C.1 C.2.1 dL_law_683 rfl (lv_at hl 2 rfl) ?_
  refine law_arg (k := 1) C hw hX hbl hbA hl (by decide) (by omega) hL dL_law_684 dL_law_685 dL_law_686 dL_law_687 dL_law_688 ?_
  refine law_arg (k := 2) C hw hX hbl hbA hl (by decide) (by omega) hL dL_law_689 dL_law_690 dL_law_691 dL_law_692 dL_law_693 ?_
  obtain ⟨r, I1, X1, S1, J1, nc1, ns1, nt1, e1, e2, h1⟩ := op_frogs h (xs (j + 1)) (xs (j + 2))
  refine law_call C hw mf_X9_frogs mv_X9_frogs ml_L_78 cf9 (xT0 h.rs.la) (fun A => c_X9_frogs l G A ax e1) (As := [.int (xs (j + 1)), .int (xs (j + 2))]) (rest := []) hl.1 rfl rfl (Nat.le_of_ble_eq_true rfl) ⟨rfl, rfl, Nat.le_of_ble_eq_true rfl, Nat.le_of_ble_eq_true rfl⟩ ⟨by show cells ≤ 600000; omega, by show slots ≤ 7302250; omega⟩ dL_law_694 (fun H locs hw => ?_)
  refine lv_aload_n C.1 C.2.1 dL_law_697 rfl (lv_at hl 3 rfl) ?_
  refine law_arg (k := 1) C hw hX hbl hbA hl (by decide) (by omega) hL dL_law_698 dL_law_699 dL_law_700 dL_law_701 dL_law_702 ?_
  refine law_arg (k := 2) C hw hX hbl hbA hl (by decide) (by omega) hL dL_law_703 dL_law_704 dL_law_705 dL_law_706 dL_law_707 ?_
  refine law_call C hw.swap mf_X10_frogs mv_X10_frogs ml_L_81 cf10 (yT0 _) (fun A => c_X10_frogs l G A ay e2) (As := [.int (xs (j + 1)), .int (xs (j + 2))]) (rest := [.int r]) hl.1 rfl rfl (Nat.le_of_ble_eq_true rfl) ⟨rfl, rfl, Nat.le_of_ble_eq_true rfl, Nat.le_of_ble_eq_true rfl⟩ ⟨by show _ ≤ 600000; omega, by show _ ≤ 7302250; omega⟩ dL_law_708 (fun H locs hw => ?_)
  refine lv_icmp_eq (tgt := 1398) C.1 C.2.1 dL_law_711 (by decide) (fun _ => ?_) (fun hne => absurd rfl hne)
  exact KK ax I1 X1 S1 J1 nc1 ns1 nt1 H locs _ _ rfl h1 hw.swap (by omega) (by omega)
theorem lawc_16 (C : Cx G (fun q => s.heap.size ≤ q) p s m #[Value.ref b] meth c R_law cL_law 4 (some .boolean)) (hX : va_X b L xs s s.heap) (hbl : b < s.heap.size) (hL : L ≤ 384) (hj : j + 6 ≤ L) (h : Sm I X S J nc ns nt) (hw : LW G (fun q => s.heap.size ≤ q) ax ay s.heap (I, X, S) (J, YZ) H locs) (hl : lv_has ls 4 [(3, .int (nI j)), (0, .ref b), (1, .ref (ax 0)), (2, .ref (ay 0))]) (hc : cells + 2 ≤ 600000) (hs : slots + 99 ≤ 7302250) (KK : LKont p l e s m b below meth c Q G ay (ax 0) ls cells slots) : W p l e room_1 s m #[Value.ref b] below meth c H locs cells slots Q (F0 m 716 ls []) := by
  have hbA : ¬ (fun q : Nat => s.heap.size ≤ q) b := Nat.not_le.mpr hbl
  refine lv_aload_n C.1 C.2.1 dL_law_716 rfl (lv_at hl 2 rfl) ?_
  refine law_arg (k := 1) C hw hX hbl hbA hl (by decide) (by omega) hL dL_law_717 dL_law_718 dL_law_719 dL_law_720 dL_law_721 ?_
  obtain ⟨r, I1, X1, S1, J1, nc1, ns1, nt1, e1, e2, h1⟩ := op_driven h (xs (j + 1))
  refine law_call C hw mf_X9_driven mv_X9_driven ml_L_82 cf9 (xT0 h.rs.la) (fun A => c_X9_driven l G A ax e1) (As := [.int (xs (j + 1))]) (rest := []) hl.1 rfl rfl (Nat.le_of_ble_eq_true rfl) ⟨rfl, rfl, Nat.le_of_ble_eq_true rfl, Nat.le_of_ble_eq_true rfl⟩ ⟨by show cells ≤ 600000; omega, by show slots ≤ 7302250; omega⟩ dL_law_722 (fun H locs hw => ?_)
  refine lv_aload_n C.1 C.2.1 dL_law_725 rfl (lv_at hl 3 rfl) ?_
  refine law_arg (k := 1) C hw hX hbl hbA hl (by decide) (by omega) hL dL_law_726 dL_law_727 dL_law_728 dL_law_729 dL_law_730 ?_
  refine law_call C hw.swap mf_X10_driven mv_X10_driven ml_L_85 cf10 (yT0 _) (fun A => c_X10_driven l G A ay e2) (As := [.int (xs (j + 1))]) (rest := [.int r]) hl.1 rfl rfl (Nat.le_of_ble_eq_true rfl) ⟨rfl, rfl, Nat.le_of_ble_eq_true rfl, Nat.le_of_ble_eq_true rfl⟩ ⟨by show _ ≤ 600000; omega, by show _ ≤ 7302250; omega⟩ dL_law_731 (fun H locs hw => ?_)
  refine lv_icmp_eq (tgt := 1398) C.1 C.2.1 dL_law_734 (by decide) (fun _ => ?_) (fun hne => absurd rfl hne)
  exact KK ax I1 X1 S1 J1 nc1 ns1 nt1 H locs _ _ rfl h1 hw.swap (by omega) (by omega)
theorem lawc_17 (C : Cx G (fun q => s.heap.size ≤ q) p s m #[Value.ref b] meth c R_law cL_law 4 (some .boolean)) (hX : va_X b L xs s s.heap) (hbl : b < s.heap.size) (hL : L ≤ 384) (hj : j + 6 ≤ L) (h : Sm I X S J nc ns nt) (hw : LW G (fun q => s.heap.size ≤ q) ax ay s.heap (I, X, S) (J, YZ) H locs) (hl : lv_has ls 4 [(3, .int (nI j)), (0, .ref b), (1, .ref (ax 0)), (2, .ref (ay 0))]) (hc : cells + 2 ≤ 600000) (hs : slots + 99 ≤ 7302250) (KK : LKont p l e s m b below meth c Q G ay (ax 0) ls cells slots) : W p l e room_1 s m #[Value.ref b] below meth c H locs cells slots Q (F0 m 739 ls []) := by
  have hbA : ¬ (fun q : Nat => s.heap.size ≤ q) b := Nat.not_le.mpr hbl
  refine lv_aload_n C.1 C.2.1 dL_law_739 rfl (lv_at hl 2 rfl) ?_
  refine law_arg (k := 1) C hw hX hbl hbA hl (by decide) (by omega) hL dL_law_740 dL_law_741 dL_law_742 dL_law_743 dL_law_744 ?_
  obtain ⟨r, I1, X1, S1, J1, nc1, ns1, nt1, e1, e2, h1⟩ := op_brings h (xs (j + 1))
  refine law_call C hw mf_X9_brings mv_X9_brings ml_L_86 cf9 (xT0 h.rs.la) (fun A => c_X9_brings l G A ax e1) (As := [.int (xs (j + 1))]) (rest := []) hl.1 rfl rfl (Nat.le_of_ble_eq_true rfl) ⟨rfl, rfl, Nat.le_of_ble_eq_true rfl, Nat.le_of_ble_eq_true rfl⟩ ⟨by show cells ≤ 600000; omega, by show slots ≤ 7302250; omega⟩ dL_law_745 (fun H locs hw => ?_)
  refine lv_aload_n C.1 C.2.1 dL_law_748 rfl (lv_at hl 3 rfl) ?_
  refine law_arg (k := 1) C hw hX hbl hbA hl (by decide) (by omega) hL dL_law_749 dL_law_750 dL_law_751 dL_law_752 dL_law_753 ?_
  refine law_call C hw.swap mf_X10_brings mv_X10_brings ml_L_89 cf10 (yT0 _) (fun A => c_X10_brings l G A ay e2) (As := [.int (xs (j + 1))]) (rest := [.int r]) hl.1 rfl rfl (Nat.le_of_ble_eq_true rfl) ⟨rfl, rfl, Nat.le_of_ble_eq_true rfl, Nat.le_of_ble_eq_true rfl⟩ ⟨by show _ ≤ 600000; omega, by show _ ≤ 7302250; omega⟩ dL_law_754 (fun H locs hw => ?_)
  refine lv_icmp_eq (tgt := 1398) C.1 C.2.1 dL_law_757 (by decide) (fun _ => ?_) (fun hne => absurd rfl hne)
  exact KK ax I1 X1 S1 J1 nc1 ns1 nt1 H locs _ _ rfl h1 hw.swap (by omega) (by omega)
theorem lawc_18 (C : Cx G (fun q => s.heap.size ≤ q) p s m #[Value.ref b] meth c R_law cL_law 4 (some .boolean)) (hX : va_X b L xs s s.heap) (hbl : b < s.heap.size) (hL : L ≤ 384) (hj : j + 6 ≤ L) (h : Sm I X S J nc ns nt) (hw : LW G (fun q => s.heap.size ≤ q) ax ay s.heap (I, X, S) (J, YZ) H locs) (hl : lv_has ls 4 [(3, .int (nI j)), (0, .ref b), (1, .ref (ax 0)), (2, .ref (ay 0))]) (hc : cells + 2 ≤ 600000) (hs : slots + 99 ≤ 7302250) (KK : LKont p l e s m b below meth c Q G ay (ax 0) ls cells slots) : W p l e room_1 s m #[Value.ref b] below meth c H locs cells slots Q (F0 m 762 ls []) := by
  have hbA : ¬ (fun q : Nat => s.heap.size ≤ q) b := Nat.not_le.mpr hbl
  refine lv_aload_n C.1 C.2.1 dL_law_762 rfl (lv_at hl 2 rfl) ?_
  refine law_arg (k := 1) C hw hX hbl hbA hl (by decide) (by omega) hL dL_law_763 dL_law_764 dL_law_765 dL_law_766 dL_law_767 ?_
  refine law_arg (k := 2) C hw hX hbl hbA hl (by decide) (by omega) hL dL_law_768 dL_law_769 dL_law_770 dL_law_771 dL_law_772 ?_
  obtain ⟨r, I1, X1, S1, J1, nc1, ns1, nt1, e1, e2, h1⟩ := op_behind h (xs (j + 1)) (xs (j + 2))
  refine law_call C hw mf_X9_behind mv_X9_behind ml_L_90 cf9 (xT0 h.rs.la) (fun A => c_X9_behind l G A ax e1) (As := [.int (xs (j + 1)), .int (xs (j + 2))]) (rest := []) hl.1 rfl rfl (Nat.le_of_ble_eq_true rfl) ⟨rfl, rfl, Nat.le_of_ble_eq_true rfl, Nat.le_of_ble_eq_true rfl⟩ ⟨by show cells ≤ 600000; omega, by show slots ≤ 7302250; omega⟩ dL_law_773 (fun H locs hw => ?_)
  refine lv_aload_n C.1 C.2.1 dL_law_776 rfl (lv_at hl 3 rfl) ?_
  refine law_arg (k := 1) C hw hX hbl hbA hl (by decide) (by omega) hL dL_law_777 dL_law_778 dL_law_779 dL_law_780 dL_law_781 ?_
  refine law_arg (k := 2) C hw hX hbl hbA hl (by decide) (by omega) hL dL_law_782 dL_law_783 dL_law_784 dL_law_785 dL_law_786 ?_
  refine law_call C hw.swap mf_X10_behind mv_X10_behind ml_L_93 cf10 (yT0 _) (fun A => c_X10_behind l G A ay e2) (As := [.int (xs (j + 1)), .int (xs (j + 2))]) (rest := [.int r]) hl.1 rfl rfl (Nat.le_of_ble_eq_true rfl) ⟨rfl, rfl, Nat.le_of_ble_eq_true rfl, Nat.le_of_ble_eq_true rfl⟩ ⟨by show _ ≤ 600000; omega, by show _ ≤ 7302250; omega⟩ dL_law_787 (fun H locs hw => ?_)
  refine lv_icmp_eq (tgt := 1398) C.1 C.2.1 dL_law_790 (by decide) (fun _ => ?_) (fun hne => absurd rfl hne)
  exact KK ax I1 X1 S1 J1 nc1 ns1 nt1 H locs _ _ rfl h1 hw.swap (by omega) (by omega)
theorem lawc_19 (C : Cx G (fun q => s.heap.size ≤ q) p s m #[Value.ref b] meth c R_law cL_law 4 (some .boolean)) (hX : va_X b L xs s s.heap) (hbl : b < s.heap.size) (hL : L ≤ 384) (hj : j + 6 ≤ L) (h : Sm I X S J nc ns nt) (hw : LW G (fun q => s.heap.size ≤ q) ax ay s.heap (I, X, S) (J, YZ) H locs) (hl : lv_has ls 4 [(3, .int (nI j)), (0, .ref b), (1, .ref (ax 0)), (2, .ref (ay 0))]) (hc : cells + 2 ≤ 600000) (hs : slots + 99 ≤ 7302250) (KK : LKont p l e s m b below meth c Q G ay (ax 0) ls cells slots) : W p l e room_1 s m #[Value.ref b] below meth c H locs cells slots Q (F0 m 795 ls []) := by
  have hbA : ¬ (fun q : Nat => s.heap.size ≤ q) b := Nat.not_le.mpr hbl
  refine lv_aload_n C.1 C.2.1 dL_law_795 rfl (lv_at hl 2 rfl) ?_
  refine law_arg (k := 1) C hw hX hbl hbA hl (by decide) (by omega) hL dL_law_796 dL_law_797 dL_law_798 dL_law_799 dL_law_800 ?_
  obtain ⟨r, I1, X1, S1, J1, nc1, ns1, nt1, e1, e2, h1⟩ := op_rather h (xs (j + 1))
  refine law_call C hw mf_X9_rather mv_X9_rather ml_L_94 cf9 (xT0 h.rs.la) (fun A => c_X9_rather l G A ax e1) (As := [.int (xs (j + 1))]) (rest := []) hl.1 rfl rfl (Nat.le_of_ble_eq_true rfl) ⟨rfl, rfl, Nat.le_of_ble_eq_true rfl, Nat.le_of_ble_eq_true rfl⟩ ⟨by show cells ≤ 600000; omega, by show slots ≤ 7302250; omega⟩ dL_law_801 (fun H locs hw => ?_)
  refine lv_aload_n C.1 C.2.1 dL_law_804 rfl (lv_at hl 3 rfl) ?_
  refine law_arg (k := 1) C hw hX hbl hbA hl (by decide) (by omega) hL dL_law_805 dL_law_806 dL_law_807 dL_law_808 dL_law_809 ?_
  refine law_call C hw.swap mf_X10_rather mv_X10_rather ml_L_97 cf10 (yT0 _) (fun A => c_X10_rather l G A ay e2) (As := [.int (xs (j + 1))]) (rest := [.int r]) hl.1 rfl rfl (Nat.le_of_ble_eq_true rfl) ⟨rfl, rfl, Nat.le_of_ble_eq_true rfl, Nat.le_of_ble_eq_true rfl⟩ ⟨by show _ ≤ 600000; omega, by show _ ≤ 7302250; omega⟩ dL_law_810 (fun H locs hw => ?_)
  refine lv_icmp_eq (tgt := 1398) C.1 C.2.1 dL_law_813 (by decide) (fun _ => ?_) (fun hne => absurd rfl hne)
  exact KK ax I1 X1 S1 J1 nc1 ns1 nt1 H locs _ _ rfl h1 hw.swap (by omega) (by omega)
end LawA
