/-! ===== THE LAW: a call on both sides, its switch, its loop (printed by wip/tools/gen_law.py) ===== -/
section LWP
variable {K : xG} {p : Program} {l : Launch} {e : Env} {s : State} {m : MethodId} {below : List Frame} {meth : Method} {c : Code} {b L x y i cells slots h : Nat} {G : xHp} {xs : Nat → Int32}
set_option maxRecDepth 100000 in
set_option maxHeartbeats 4000000 in
theorem law_c0 (hL : L ≤ 3072) (C : lC K p s m meth c b L xs) (hi : i + 6 ≤ L) (hI : LI G h x y) (hc : cells + 17 ≤ 600000) (hs : slots + 887 ≤ 7302250) (next : ∀ cells2 slots2 h2 G2, LI G2 h2 x y → cells2 ≤ cells + 17 → slots2 ≤ slots + 887 → lV K p l e s m below meth c b cells2 slots2 h2 G2 1042 [(3, .int (nI i)), (2, .ref y), (1, .ref x), (0, .ref b)] []) : lV K p l e s m below meth c b cells slots h G 33 [(3, .int (nI i)), (2, .ref y), (1, .ref x), (0, .ref b)] [.int (nI 0)] := by
  obtain ⟨fs0, hx⟩ := hI.cx
  refine l_tableIn (off := 143) (tgt := 176) C dL_law_33 (by decide) (by decide) rfl (by decide) ?_
  refine l_aload_n C dL_law_176 2 rfl ?_
  refine l_ld (k := 1) C hL hi (by decide) dL_law_177 dL_law_178 dL_law_179 dL_law_180 dL_law_181 ?_
  refine l_ld (k := 2) C hL hi (by decide) dL_law_182 dL_law_183 dL_law_184 dL_law_185 dL_law_186 ?_
  refine l_ld (k := 3) C hL hi (by decide) dL_law_187 dL_law_188 dL_law_189 dL_law_190 dL_law_191 ?_
  refine l_ld (k := 4) C hL hi (by decide) dL_law_192 dL_law_193 dL_law_194 dL_law_195 dL_law_196 ?_
  refine l_ld (k := 5) C hL hi (by decide) dL_law_197 dL_law_198 dL_law_199 dL_law_200 dL_law_201 ?_
  refine l_callV (N := mX11_feed) (d' := 1) (mc := 0) (ms := 0) (As := [.int (xs (i + 1)), .int (xs (i + 2)), .int (xs (i + 3)), .int (xs (i + 4)), .int (xs (i + 5))]) (st := []) C dL_law_202 mX11_feed_v lL_13 (ci := 11) rfl rfl hx rfl (by decide) (by decide) trivial (by omega) (by omega) (P_feed hI) rfl (fun v1 h1 G1 q1 => ?_)
  obtain ⟨a, rfl, ⟨fs, hy⟩, q2⟩ := q1
  refine l_aload_n C dL_law_205 1 rfl ?_
  refine l_ld (k := 1) C hL hi (by decide) dL_law_206 dL_law_207 dL_law_208 dL_law_209 dL_law_210 ?_
  refine l_ld (k := 2) C hL hi (by decide) dL_law_211 dL_law_212 dL_law_213 dL_law_214 dL_law_215 ?_
  refine l_ld (k := 3) C hL hi (by decide) dL_law_216 dL_law_217 dL_law_218 dL_law_219 dL_law_220 ?_
  refine l_ld (k := 4) C hL hi (by decide) dL_law_221 dL_law_222 dL_law_223 dL_law_224 dL_law_225 ?_
  refine l_ld (k := 5) C hL hi (by decide) dL_law_226 dL_law_227 dL_law_228 dL_law_229 dL_law_230 ?_
  refine l_callV (N := mX12_feed) (d' := 1) (mc := 0) (ms := 0) (As := [.int (xs (i + 1)), .int (xs (i + 2)), .int (xs (i + 3)), .int (xs (i + 4)), .int (xs (i + 5))]) (st := [.int a]) C dL_law_231 mX12_feed_v lL_17 (ci := 12) rfl rfl hy rfl (by decide) (Nat.le_of_ble_eq_true rfl) trivial (by omega) (by omega) q2 rfl (fun v2 h2 G2 q3 => ?_)
  obtain ⟨rfl, hI2⟩ := q3
  refine l_icmp_eq (tgt := 1042) C dL_law_234 (by decide) (fun _ => ?_) (fun z => absurd rfl z)
  exact next _ _ h2 G2 hI2 (by omega) (by omega)
set_option maxRecDepth 100000 in
set_option maxHeartbeats 4000000 in
theorem law_c1 (hL : L ≤ 3072) (C : lC K p s m meth c b L xs) (hi : i + 6 ≤ L) (hI : LI G h x y) (hc : cells + 17 ≤ 600000) (hs : slots + 887 ≤ 7302250) (next : ∀ cells2 slots2 h2 G2, LI G2 h2 x y → cells2 ≤ cells + 17 → slots2 ≤ slots + 887 → lV K p l e s m below meth c b cells2 slots2 h2 G2 1042 [(3, .int (nI i)), (2, .ref y), (1, .ref x), (0, .ref b)] []) : lV K p l e s m below meth c b cells slots h G 33 [(3, .int (nI i)), (2, .ref y), (1, .ref x), (0, .ref b)] [.int (nI 1)] := by
  obtain ⟨fs0, hx⟩ := hI.cx
  refine l_tableIn (off := 206) (tgt := 239) C dL_law_33 (by decide) (by decide) rfl (by decide) ?_
  refine l_aload_n C dL_law_239 2 rfl ?_
  refine l_ld (k := 1) C hL hi (by decide) dL_law_240 dL_law_241 dL_law_242 dL_law_243 dL_law_244 ?_
  refine l_callV (N := mX11_end) (d' := 0) (mc := 0) (ms := 0) (As := [.int (xs (i + 1))]) (st := []) C dL_law_245 mX11_end_v lL_18 (ci := 11) rfl rfl hx rfl (by decide) (by decide) trivial (by omega) (by omega) (P_end hI) rfl (fun v1 h1 G1 q1 => ?_)
  obtain ⟨a, rfl, ⟨fs, hy⟩, q2⟩ := q1
  refine l_aload_n C dL_law_248 1 rfl ?_
  refine l_ld (k := 1) C hL hi (by decide) dL_law_249 dL_law_250 dL_law_251 dL_law_252 dL_law_253 ?_
  refine l_callV (N := mX12_end) (d' := 0) (mc := 0) (ms := 0) (As := [.int (xs (i + 1))]) (st := [.int a]) C dL_law_254 mX12_end_v lL_22 (ci := 12) rfl rfl hy rfl (by decide) (Nat.le_of_ble_eq_true rfl) trivial (by omega) (by omega) q2 rfl (fun v2 h2 G2 q3 => ?_)
  obtain ⟨rfl, hI2⟩ := q3
  refine l_icmp_eq (tgt := 1042) C dL_law_257 (by decide) (fun _ => ?_) (fun z => absurd rfl z)
  exact next _ _ h2 G2 hI2 (by omega) (by omega)
set_option maxRecDepth 100000 in
set_option maxHeartbeats 4000000 in
theorem law_c2 (hL : L ≤ 3072) (C : lC K p s m meth c b L xs) (hi : i + 6 ≤ L) (hI : LI G h x y) (hc : cells + 17 ≤ 600000) (hs : slots + 887 ≤ 7302250) (next : ∀ cells2 slots2 h2 G2, LI G2 h2 x y → cells2 ≤ cells + 17 → slots2 ≤ slots + 887 → lV K p l e s m below meth c b cells2 slots2 h2 G2 1042 [(3, .int (nI i)), (2, .ref y), (1, .ref x), (0, .ref b)] []) : lV K p l e s m below meth c b cells slots h G 33 [(3, .int (nI i)), (2, .ref y), (1, .ref x), (0, .ref b)] [.int (nI 2)] := by
  obtain ⟨fs0, hx⟩ := hI.cx
  refine l_tableIn (off := 229) (tgt := 262) C dL_law_33 (by decide) (by decide) rfl (by decide) ?_
  refine l_aload_n C dL_law_262 2 rfl ?_
  refine l_callV (N := mX11_hall) (d' := 7) (mc := 0) (ms := 0) (As := []) (st := []) C dL_law_263 mX11_hall_v lL_23 (ci := 11) rfl rfl hx rfl (by decide) (by decide) trivial (by omega) (by omega) (P_hall hI) rfl (fun v1 h1 G1 q1 => ?_)
  obtain ⟨a, rfl, ⟨fs, hy⟩, q2⟩ := q1
  refine l_aload_n C dL_law_266 1 rfl ?_
  refine l_callV (N := mX12_hall) (d' := 8) (mc := 0) (ms := 0) (As := []) (st := [.int a]) C dL_law_267 mX12_hall_v lL_27 (ci := 12) rfl rfl hy rfl (by decide) (Nat.le_of_ble_eq_true rfl) trivial (by omega) (by omega) q2 rfl (fun v2 h2 G2 q3 => ?_)
  obtain ⟨rfl, hI2⟩ := q3
  refine l_icmp_eq (tgt := 1042) C dL_law_270 (by decide) (fun _ => ?_) (fun z => absurd rfl z)
  exact next _ _ h2 G2 hI2 (by omega) (by omega)
set_option maxRecDepth 100000 in
set_option maxHeartbeats 4000000 in
theorem law_c3 (hL : L ≤ 3072) (C : lC K p s m meth c b L xs) (hi : i + 6 ≤ L) (hI : LI G h x y) (hc : cells + 17 ≤ 600000) (hs : slots + 887 ≤ 7302250) (next : ∀ cells2 slots2 h2 G2, LI G2 h2 x y → cells2 ≤ cells + 17 → slots2 ≤ slots + 887 → lV K p l e s m below meth c b cells2 slots2 h2 G2 1042 [(3, .int (nI i)), (2, .ref y), (1, .ref x), (0, .ref b)] []) : lV K p l e s m below meth c b cells slots h G 33 [(3, .int (nI i)), (2, .ref y), (1, .ref x), (0, .ref b)] [.int (nI 3)] := by
  obtain ⟨fs0, hx⟩ := hI.cx
  refine l_tableIn (off := 242) (tgt := 275) C dL_law_33 (by decide) (by decide) rfl (by decide) ?_
  refine l_aload_n C dL_law_275 2 rfl ?_
  refine l_callV (N := mX11_rule) (d' := 31) (mc := 2) (ms := 401) (As := []) (st := []) C dL_law_276 mX11_rule_v lL_28 (ci := 11) rfl rfl hx rfl (by decide) (by decide) trivial (by omega) (by omega) (P_rule hI) rfl (fun v1 h1 G1 q1 => ?_)
  obtain ⟨a, rfl, ⟨fs, hy⟩, q2⟩ := q1
  refine l_aload_n C dL_law_279 1 rfl ?_
  refine l_callV (N := mX12_rule) (d' := 12) (mc := 0) (ms := 0) (As := []) (st := [.int a]) C dL_law_280 mX12_rule_v lL_31 (ci := 12) rfl rfl hy rfl (by decide) (Nat.le_of_ble_eq_true rfl) trivial (by omega) (by omega) q2 rfl (fun v2 h2 G2 q3 => ?_)
  obtain ⟨rfl, hI2⟩ := q3
  refine l_icmp_eq (tgt := 1042) C dL_law_283 (by decide) (fun _ => ?_) (fun z => absurd rfl z)
  exact next _ _ h2 G2 hI2 (by omega) (by omega)
set_option maxRecDepth 100000 in
set_option maxHeartbeats 4000000 in
theorem law_c4 (hL : L ≤ 3072) (C : lC K p s m meth c b L xs) (hi : i + 6 ≤ L) (hI : LI G h x y) (hc : cells + 17 ≤ 600000) (hs : slots + 887 ≤ 7302250) (next : ∀ cells2 slots2 h2 G2, LI G2 h2 x y → cells2 ≤ cells + 17 → slots2 ≤ slots + 887 → lV K p l e s m below meth c b cells2 slots2 h2 G2 1042 [(3, .int (nI i)), (2, .ref y), (1, .ref x), (0, .ref b)] []) : lV K p l e s m below meth c b cells slots h G 33 [(3, .int (nI i)), (2, .ref y), (1, .ref x), (0, .ref b)] [.int (nI 4)] := by
  obtain ⟨fs0, hx⟩ := hI.cx
  refine l_tableIn (off := 255) (tgt := 288) C dL_law_33 (by decide) (by decide) rfl (by decide) ?_
  refine l_aload_n C dL_law_288 2 rfl ?_
  refine l_ld (k := 1) C hL hi (by decide) dL_law_289 dL_law_290 dL_law_291 dL_law_292 dL_law_293 ?_
  refine l_callV (N := mX11_force) (d' := 1) (mc := 0) (ms := 0) (As := [.int (xs (i + 1))]) (st := []) C dL_law_294 mX11_force_v lL_32 (ci := 11) rfl rfl hx rfl (by decide) (by decide) trivial (by omega) (by omega) (P_force hI) rfl (fun v1 h1 G1 q1 => ?_)
  obtain ⟨a, rfl, ⟨fs, hy⟩, q2⟩ := q1
  refine l_aload_n C dL_law_297 1 rfl ?_
  refine l_ld (k := 1) C hL hi (by decide) dL_law_298 dL_law_299 dL_law_300 dL_law_301 dL_law_302 ?_
  refine l_callV (N := mX12_force) (d' := 1) (mc := 0) (ms := 0) (As := [.int (xs (i + 1))]) (st := [.int a]) C dL_law_303 mX12_force_v lL_35 (ci := 12) rfl rfl hy rfl (by decide) (Nat.le_of_ble_eq_true rfl) trivial (by omega) (by omega) q2 rfl (fun v2 h2 G2 q3 => ?_)
  obtain ⟨rfl, hI2⟩ := q3
  refine l_icmp_eq (tgt := 1042) C dL_law_306 (by decide) (fun _ => ?_) (fun z => absurd rfl z)
  exact next _ _ h2 G2 hI2 (by omega) (by omega)
set_option maxRecDepth 100000 in
set_option maxHeartbeats 4000000 in
theorem law_c5 (hL : L ≤ 3072) (C : lC K p s m meth c b L xs) (hi : i + 6 ≤ L) (hI : LI G h x y) (hc : cells + 17 ≤ 600000) (hs : slots + 887 ≤ 7302250) (next : ∀ cells2 slots2 h2 G2, LI G2 h2 x y → cells2 ≤ cells + 17 → slots2 ≤ slots + 887 → lV K p l e s m below meth c b cells2 slots2 h2 G2 1042 [(3, .int (nI i)), (2, .ref y), (1, .ref x), (0, .ref b)] []) : lV K p l e s m below meth c b cells slots h G 33 [(3, .int (nI i)), (2, .ref y), (1, .ref x), (0, .ref b)] [.int (nI 5)] := by
  obtain ⟨fs0, hx⟩ := hI.cx
  refine l_tableIn (off := 278) (tgt := 311) C dL_law_33 (by decide) (by decide) rfl (by decide) ?_
  refine l_aload_n C dL_law_311 2 rfl ?_
  refine l_ld (k := 1) C hL hi (by decide) dL_law_312 dL_law_313 dL_law_314 dL_law_315 dL_law_316 ?_
  refine l_ld (k := 2) C hL hi (by decide) dL_law_317 dL_law_318 dL_law_319 dL_law_320 dL_law_321 ?_
  refine l_callV (N := mX11_thing) (d' := 1) (mc := 0) (ms := 0) (As := [.int (xs (i + 1)), .int (xs (i + 2))]) (st := []) C dL_law_322 mX11_thing_v lL_36 (ci := 11) rfl rfl hx rfl (by decide) (by decide) trivial (by omega) (by omega) (P_thing hI) rfl (fun v1 h1 G1 q1 => ?_)
  obtain ⟨a, rfl, ⟨fs, hy⟩, q2⟩ := q1
  refine l_aload_n C dL_law_325 1 rfl ?_
  refine l_ld (k := 1) C hL hi (by decide) dL_law_326 dL_law_327 dL_law_328 dL_law_329 dL_law_330 ?_
  refine l_ld (k := 2) C hL hi (by decide) dL_law_331 dL_law_332 dL_law_333 dL_law_334 dL_law_335 ?_
  refine l_callV (N := mX12_thing) (d' := 2) (mc := 0) (ms := 0) (As := [.int (xs (i + 1)), .int (xs (i + 2))]) (st := [.int a]) C dL_law_336 mX12_thing_v lL_40 (ci := 12) rfl rfl hy rfl (by decide) (Nat.le_of_ble_eq_true rfl) trivial (by omega) (by omega) q2 rfl (fun v2 h2 G2 q3 => ?_)
  obtain ⟨rfl, hI2⟩ := q3
  refine l_icmp_eq (tgt := 1042) C dL_law_339 (by decide) (fun _ => ?_) (fun z => absurd rfl z)
  exact next _ _ h2 G2 hI2 (by omega) (by omega)
set_option maxRecDepth 100000 in
set_option maxHeartbeats 4000000 in
theorem law_c6 (hL : L ≤ 3072) (C : lC K p s m meth c b L xs) (hi : i + 6 ≤ L) (hI : LI G h x y) (hc : cells + 17 ≤ 600000) (hs : slots + 887 ≤ 7302250) (next : ∀ cells2 slots2 h2 G2, LI G2 h2 x y → cells2 ≤ cells + 17 → slots2 ≤ slots + 887 → lV K p l e s m below meth c b cells2 slots2 h2 G2 1042 [(3, .int (nI i)), (2, .ref y), (1, .ref x), (0, .ref b)] []) : lV K p l e s m below meth c b cells slots h G 33 [(3, .int (nI i)), (2, .ref y), (1, .ref x), (0, .ref b)] [.int (nI 6)] := by
  obtain ⟨fs0, hx⟩ := hI.cx
  refine l_tableIn (off := 311) (tgt := 344) C dL_law_33 (by decide) (by decide) rfl (by decide) ?_
  refine l_aload_n C dL_law_344 2 rfl ?_
  refine l_ld (k := 1) C hL hi (by decide) dL_law_345 dL_law_346 dL_law_347 dL_law_348 dL_law_349 ?_
  refine l_ld (k := 2) C hL hi (by decide) dL_law_350 dL_law_351 dL_law_352 dL_law_353 dL_law_354 ?_
  refine l_callV (N := mX11_mender) (d' := 1) (mc := 0) (ms := 0) (As := [.int (xs (i + 1)), .int (xs (i + 2))]) (st := []) C dL_law_355 mX11_mender_v lL_41 (ci := 11) rfl rfl hx rfl (by decide) (by decide) trivial (by omega) (by omega) (P_mender hI) rfl (fun v1 h1 G1 q1 => ?_)
  obtain ⟨a, rfl, ⟨fs, hy⟩, q2⟩ := q1
  refine l_aload_n C dL_law_358 1 rfl ?_
  refine l_ld (k := 1) C hL hi (by decide) dL_law_359 dL_law_360 dL_law_361 dL_law_362 dL_law_363 ?_
  refine l_ld (k := 2) C hL hi (by decide) dL_law_364 dL_law_365 dL_law_366 dL_law_367 dL_law_368 ?_
  refine l_callV (N := mX12_mender) (d' := 2) (mc := 0) (ms := 0) (As := [.int (xs (i + 1)), .int (xs (i + 2))]) (st := [.int a]) C dL_law_369 mX12_mender_v lL_44 (ci := 12) rfl rfl hy rfl (by decide) (Nat.le_of_ble_eq_true rfl) trivial (by omega) (by omega) q2 rfl (fun v2 h2 G2 q3 => ?_)
  obtain ⟨rfl, hI2⟩ := q3
  refine l_icmp_eq (tgt := 1042) C dL_law_372 (by decide) (fun _ => ?_) (fun z => absurd rfl z)
  exact next _ _ h2 G2 hI2 (by omega) (by omega)
set_option maxRecDepth 100000 in
set_option maxHeartbeats 4000000 in
theorem law_c7 (hL : L ≤ 3072) (C : lC K p s m meth c b L xs) (hi : i + 6 ≤ L) (hI : LI G h x y) (hc : cells + 17 ≤ 600000) (hs : slots + 887 ≤ 7302250) (next : ∀ cells2 slots2 h2 G2, LI G2 h2 x y → cells2 ≤ cells + 17 → slots2 ≤ slots + 887 → lV K p l e s m below meth c b cells2 slots2 h2 G2 1042 [(3, .int (nI i)), (2, .ref y), (1, .ref x), (0, .ref b)] []) : lV K p l e s m below meth c b cells slots h G 33 [(3, .int (nI i)), (2, .ref y), (1, .ref x), (0, .ref b)] [.int (nI 7)] := by
  obtain ⟨fs0, hx⟩ := hI.cx
  refine l_tableIn (off := 344) (tgt := 377) C dL_law_33 (by decide) (by decide) rfl (by decide) ?_
  refine l_aload_n C dL_law_377 2 rfl ?_
  refine l_ld (k := 1) C hL hi (by decide) dL_law_378 dL_law_379 dL_law_380 dL_law_381 dL_law_382 ?_
  refine l_ld (k := 2) C hL hi (by decide) dL_law_383 dL_law_384 dL_law_385 dL_law_386 dL_law_387 ?_
  refine l_callV (N := mX11_sort) (d' := 1) (mc := 0) (ms := 0) (As := [.int (xs (i + 1)), .int (xs (i + 2))]) (st := []) C dL_law_388 mX11_sort_v lL_45 (ci := 11) rfl rfl hx rfl (by decide) (by decide) trivial (by omega) (by omega) (P_sort hI) rfl (fun v1 h1 G1 q1 => ?_)
  obtain ⟨a, rfl, ⟨fs, hy⟩, q2⟩ := q1
  refine l_aload_n C dL_law_391 1 rfl ?_
  refine l_ld (k := 1) C hL hi (by decide) dL_law_392 dL_law_393 dL_law_394 dL_law_395 dL_law_396 ?_
  refine l_ld (k := 2) C hL hi (by decide) dL_law_397 dL_law_398 dL_law_399 dL_law_400 dL_law_401 ?_
  refine l_callV (N := mX12_sort) (d' := 2) (mc := 0) (ms := 0) (As := [.int (xs (i + 1)), .int (xs (i + 2))]) (st := [.int a]) C dL_law_402 mX12_sort_v lL_48 (ci := 12) rfl rfl hy rfl (by decide) (Nat.le_of_ble_eq_true rfl) trivial (by omega) (by omega) q2 rfl (fun v2 h2 G2 q3 => ?_)
  obtain ⟨rfl, hI2⟩ := q3
  refine l_icmp_eq (tgt := 1042) C dL_law_405 (by decide) (fun _ => ?_) (fun z => absurd rfl z)
  exact next _ _ h2 G2 hI2 (by omega) (by omega)
set_option maxRecDepth 100000 in
set_option maxHeartbeats 4000000 in
theorem law_c8 (hL : L ≤ 3072) (C : lC K p s m meth c b L xs) (hi : i + 6 ≤ L) (hI : LI G h x y) (hc : cells + 17 ≤ 600000) (hs : slots + 887 ≤ 7302250) (next : ∀ cells2 slots2 h2 G2, LI G2 h2 x y → cells2 ≤ cells + 17 → slots2 ≤ slots + 887 → lV K p l e s m below meth c b cells2 slots2 h2 G2 1042 [(3, .int (nI i)), (2, .ref y), (1, .ref x), (0, .ref b)] []) : lV K p l e s m below meth c b cells slots h G 33 [(3, .int (nI i)), (2, .ref y), (1, .ref x), (0, .ref b)] [.int (nI 8)] := by
  obtain ⟨fs0, hx⟩ := hI.cx
  refine l_tableIn (off := 377) (tgt := 410) C dL_law_33 (by decide) (by decide) rfl (by decide) ?_
  refine l_aload_n C dL_law_410 2 rfl ?_
  refine l_callV (N := mX11_minute) (d' := 4) (mc := 0) (ms := 0) (As := []) (st := []) C dL_law_411 mX11_minute_v lL_49 (ci := 11) rfl rfl hx rfl (by decide) (by decide) trivial (by omega) (by omega) (P_minute hI) rfl (fun v1 h1 G1 q1 => ?_)
  obtain ⟨a, rfl, ⟨fs, hy⟩, q2⟩ := q1
  refine l_aload_n C dL_law_414 1 rfl ?_
  refine l_callV (N := mX12_minute) (d' := 8) (mc := 0) (ms := 0) (As := []) (st := [.int a]) C dL_law_415 mX12_minute_v lL_52 (ci := 12) rfl rfl hy rfl (by decide) (Nat.le_of_ble_eq_true rfl) trivial (by omega) (by omega) q2 rfl (fun v2 h2 G2 q3 => ?_)
  obtain ⟨rfl, hI2⟩ := q3
  refine l_icmp_eq (tgt := 1042) C dL_law_418 (by decide) (fun _ => ?_) (fun z => absurd rfl z)
  exact next _ _ h2 G2 hI2 (by omega) (by omega)
set_option maxRecDepth 100000 in
set_option maxHeartbeats 4000000 in
theorem law_c9 (hL : L ≤ 3072) (C : lC K p s m meth c b L xs) (hi : i + 6 ≤ L) (hI : LI G h x y) (hc : cells + 17 ≤ 600000) (hs : slots + 887 ≤ 7302250) (next : ∀ cells2 slots2 h2 G2, LI G2 h2 x y → cells2 ≤ cells + 17 → slots2 ≤ slots + 887 → lV K p l e s m below meth c b cells2 slots2 h2 G2 1042 [(3, .int (nI i)), (2, .ref y), (1, .ref x), (0, .ref b)] []) : lV K p l e s m below meth c b cells slots h G 33 [(3, .int (nI i)), (2, .ref y), (1, .ref x), (0, .ref b)] [.int (nI 9)] := by
  obtain ⟨fs0, hx⟩ := hI.cx
  refine l_tableIn (off := 390) (tgt := 423) C dL_law_33 (by decide) (by decide) rfl (by decide) ?_
  refine l_aload_n C dL_law_423 2 rfl ?_
  refine l_ld (k := 1) C hL hi (by decide) dL_law_424 dL_law_425 dL_law_426 dL_law_427 dL_law_428 ?_
  refine l_ld (k := 2) C hL hi (by decide) dL_law_429 dL_law_430 dL_law_431 dL_law_432 dL_law_433 ?_
  refine l_callV (N := mX11_give) (d' := 2) (mc := 0) (ms := 0) (As := [.int (xs (i + 1)), .int (xs (i + 2))]) (st := []) C dL_law_434 mX11_give_v lL_53 (ci := 11) rfl rfl hx rfl (by decide) (by decide) trivial (by omega) (by omega) (P_give hI) rfl (fun v1 h1 G1 q1 => ?_)
  obtain ⟨a, rfl, ⟨fs, hy⟩, q2⟩ := q1
  refine l_aload_n C dL_law_437 1 rfl ?_
  refine l_ld (k := 1) C hL hi (by decide) dL_law_438 dL_law_439 dL_law_440 dL_law_441 dL_law_442 ?_
  refine l_ld (k := 2) C hL hi (by decide) dL_law_443 dL_law_444 dL_law_445 dL_law_446 dL_law_447 ?_
  refine l_callV (N := mX12_give) (d' := 4) (mc := 0) (ms := 0) (As := [.int (xs (i + 1)), .int (xs (i + 2))]) (st := [.int a]) C dL_law_448 mX12_give_v lL_56 (ci := 12) rfl rfl hy rfl (by decide) (Nat.le_of_ble_eq_true rfl) trivial (by omega) (by omega) q2 rfl (fun v2 h2 G2 q3 => ?_)
  obtain ⟨rfl, hI2⟩ := q3
  refine l_icmp_eq (tgt := 1042) C dL_law_451 (by decide) (fun _ => ?_) (fun z => absurd rfl z)
  exact next _ _ h2 G2 hI2 (by omega) (by omega)
set_option maxRecDepth 100000 in
set_option maxHeartbeats 4000000 in
theorem law_c10 (hL : L ≤ 3072) (C : lC K p s m meth c b L xs) (hi : i + 6 ≤ L) (hI : LI G h x y) (hc : cells + 17 ≤ 600000) (hs : slots + 887 ≤ 7302250) (next : ∀ cells2 slots2 h2 G2, LI G2 h2 x y → cells2 ≤ cells + 17 → slots2 ≤ slots + 887 → lV K p l e s m below meth c b cells2 slots2 h2 G2 1042 [(3, .int (nI i)), (2, .ref y), (1, .ref x), (0, .ref b)] []) : lV K p l e s m below meth c b cells slots h G 33 [(3, .int (nI i)), (2, .ref y), (1, .ref x), (0, .ref b)] [.int (nI 10)] := by
  obtain ⟨fs0, hx⟩ := hI.cx
  refine l_tableIn (off := 423) (tgt := 456) C dL_law_33 (by decide) (by decide) rfl (by decide) ?_
  refine l_aload_n C dL_law_456 2 rfl ?_
  refine l_ld (k := 1) C hL hi (by decide) dL_law_457 dL_law_458 dL_law_459 dL_law_460 dL_law_461 ?_
  refine l_callV (N := mX11_putDown) (d' := 2) (mc := 0) (ms := 0) (As := [.int (xs (i + 1))]) (st := []) C dL_law_462 mX11_putDown_v lL_57 (ci := 11) rfl rfl hx rfl (by decide) (by decide) trivial (by omega) (by omega) (P_putDown hI) rfl (fun v1 h1 G1 q1 => ?_)
  obtain ⟨a, rfl, ⟨fs, hy⟩, q2⟩ := q1
  refine l_aload_n C dL_law_465 1 rfl ?_
  refine l_ld (k := 1) C hL hi (by decide) dL_law_466 dL_law_467 dL_law_468 dL_law_469 dL_law_470 ?_
  refine l_callV (N := mX12_putDown) (d' := 4) (mc := 0) (ms := 0) (As := [.int (xs (i + 1))]) (st := [.int a]) C dL_law_471 mX12_putDown_v lL_60 (ci := 12) rfl rfl hy rfl (by decide) (Nat.le_of_ble_eq_true rfl) trivial (by omega) (by omega) q2 rfl (fun v2 h2 G2 q3 => ?_)
  obtain ⟨rfl, hI2⟩ := q3
  refine l_icmp_eq (tgt := 1042) C dL_law_474 (by decide) (fun _ => ?_) (fun z => absurd rfl z)
  exact next _ _ h2 G2 hI2 (by omega) (by omega)
set_option maxRecDepth 100000 in
set_option maxHeartbeats 4000000 in
theorem law_c11 (hL : L ≤ 3072) (C : lC K p s m meth c b L xs) (hi : i + 6 ≤ L) (hI : LI G h x y) (hc : cells + 17 ≤ 600000) (hs : slots + 887 ≤ 7302250) (next : ∀ cells2 slots2 h2 G2, LI G2 h2 x y → cells2 ≤ cells + 17 → slots2 ≤ slots + 887 → lV K p l e s m below meth c b cells2 slots2 h2 G2 1042 [(3, .int (nI i)), (2, .ref y), (1, .ref x), (0, .ref b)] []) : lV K p l e s m below meth c b cells slots h G 33 [(3, .int (nI i)), (2, .ref y), (1, .ref x), (0, .ref b)] [.int (nI 11)] := by
  obtain ⟨fs0, hx⟩ := hI.cx
  refine l_tableIn (off := 446) (tgt := 479) C dL_law_33 (by decide) (by decide) rfl (by decide) ?_
  refine l_aload_n C dL_law_479 2 rfl ?_
  refine l_ld (k := 1) C hL hi (by decide) dL_law_480 dL_law_481 dL_law_482 dL_law_483 dL_law_484 ?_
  refine l_callV (N := mX11_bring) (d' := 2) (mc := 0) (ms := 0) (As := [.int (xs (i + 1))]) (st := []) C dL_law_485 mX11_bring_v lL_61 (ci := 11) rfl rfl hx rfl (by decide) (by decide) trivial (by omega) (by omega) (P_bring hI) rfl (fun v1 h1 G1 q1 => ?_)
  obtain ⟨a, rfl, ⟨fs, hy⟩, q2⟩ := q1
  refine l_aload_n C dL_law_488 1 rfl ?_
  refine l_ld (k := 1) C hL hi (by decide) dL_law_489 dL_law_490 dL_law_491 dL_law_492 dL_law_493 ?_
  refine l_callV (N := mX12_bring) (d' := 4) (mc := 0) (ms := 0) (As := [.int (xs (i + 1))]) (st := [.int a]) C dL_law_494 mX12_bring_v lL_64 (ci := 12) rfl rfl hy rfl (by decide) (Nat.le_of_ble_eq_true rfl) trivial (by omega) (by omega) q2 rfl (fun v2 h2 G2 q3 => ?_)
  obtain ⟨rfl, hI2⟩ := q3
  refine l_icmp_eq (tgt := 1042) C dL_law_497 (by decide) (fun _ => ?_) (fun z => absurd rfl z)
  exact next _ _ h2 G2 hI2 (by omega) (by omega)
set_option maxRecDepth 100000 in
set_option maxHeartbeats 4000000 in
theorem law_c12 (hL : L ≤ 3072) (C : lC K p s m meth c b L xs) (hi : i + 6 ≤ L) (hI : LI G h x y) (hc : cells + 17 ≤ 600000) (hs : slots + 887 ≤ 7302250) (next : ∀ cells2 slots2 h2 G2, LI G2 h2 x y → cells2 ≤ cells + 17 → slots2 ≤ slots + 887 → lV K p l e s m below meth c b cells2 slots2 h2 G2 1042 [(3, .int (nI i)), (2, .ref y), (1, .ref x), (0, .ref b)] []) : lV K p l e s m below meth c b cells slots h G 33 [(3, .int (nI i)), (2, .ref y), (1, .ref x), (0, .ref b)] [.int (nI 12)] := by
  obtain ⟨fs0, hx⟩ := hI.cx
  refine l_tableIn (off := 469) (tgt := 502) C dL_law_33 (by decide) (by decide) rfl (by decide) ?_
  refine l_aload_n C dL_law_502 2 rfl ?_
  refine l_ld (k := 1) C hL hi (by decide) dL_law_503 dL_law_504 dL_law_505 dL_law_506 dL_law_507 ?_
  refine l_ld (k := 2) C hL hi (by decide) dL_law_508 dL_law_509 dL_law_510 dL_law_511 dL_law_512 ?_
  refine l_callV (N := mX11_coffee) (d' := 2) (mc := 0) (ms := 0) (As := [.int (xs (i + 1)), .int (xs (i + 2))]) (st := []) C dL_law_513 mX11_coffee_v lL_65 (ci := 11) rfl rfl hx rfl (by decide) (by decide) trivial (by omega) (by omega) (P_coffee hI) rfl (fun v1 h1 G1 q1 => ?_)
  obtain ⟨a, rfl, ⟨fs, hy⟩, q2⟩ := q1
  refine l_aload_n C dL_law_516 1 rfl ?_
  refine l_ld (k := 1) C hL hi (by decide) dL_law_517 dL_law_518 dL_law_519 dL_law_520 dL_law_521 ?_
  refine l_ld (k := 2) C hL hi (by decide) dL_law_522 dL_law_523 dL_law_524 dL_law_525 dL_law_526 ?_
  refine l_callV (N := mX12_coffee) (d' := 4) (mc := 0) (ms := 0) (As := [.int (xs (i + 1)), .int (xs (i + 2))]) (st := [.int a]) C dL_law_527 mX12_coffee_v lL_68 (ci := 12) rfl rfl hy rfl (by decide) (Nat.le_of_ble_eq_true rfl) trivial (by omega) (by omega) q2 rfl (fun v2 h2 G2 q3 => ?_)
  obtain ⟨rfl, hI2⟩ := q3
  refine l_icmp_eq (tgt := 1042) C dL_law_530 (by decide) (fun _ => ?_) (fun z => absurd rfl z)
  exact next _ _ h2 G2 hI2 (by omega) (by omega)
set_option maxRecDepth 100000 in
set_option maxHeartbeats 4000000 in
theorem law_c13 (hL : L ≤ 3072) (C : lC K p s m meth c b L xs) (hi : i + 6 ≤ L) (hI : LI G h x y) (hc : cells + 17 ≤ 600000) (hs : slots + 887 ≤ 7302250) (next : ∀ cells2 slots2 h2 G2, LI G2 h2 x y → cells2 ≤ cells + 17 → slots2 ≤ slots + 887 → lV K p l e s m below meth c b cells2 slots2 h2 G2 1042 [(3, .int (nI i)), (2, .ref y), (1, .ref x), (0, .ref b)] []) : lV K p l e s m below meth c b cells slots h G 33 [(3, .int (nI i)), (2, .ref y), (1, .ref x), (0, .ref b)] [.int (nI 13)] := by
  obtain ⟨fs0, hx⟩ := hI.cx
  refine l_tableIn (off := 502) (tgt := 535) C dL_law_33 (by decide) (by decide) rfl (by decide) ?_
  refine l_aload_n C dL_law_535 2 rfl ?_
  refine l_callV (N := mX11_undo) (d' := 2) (mc := 0) (ms := 0) (As := []) (st := []) C dL_law_536 mX11_undo_v lL_69 (ci := 11) rfl rfl hx rfl (by decide) (by decide) trivial (by omega) (by omega) (P_undo hI) rfl (fun v1 h1 G1 q1 => ?_)
  obtain ⟨a, rfl, ⟨fs, hy⟩, q2⟩ := q1
  refine l_aload_n C dL_law_539 1 rfl ?_
  refine l_callV (N := mX12_undo) (d' := 3) (mc := 0) (ms := 0) (As := []) (st := [.int a]) C dL_law_540 mX12_undo_v lL_72 (ci := 12) rfl rfl hy rfl (by decide) (Nat.le_of_ble_eq_true rfl) trivial (by omega) (by omega) q2 rfl (fun v2 h2 G2 q3 => ?_)
  obtain ⟨rfl, hI2⟩ := q3
  refine l_icmp_eq (tgt := 1042) C dL_law_543 (by decide) (fun _ => ?_) (fun z => absurd rfl z)
  exact next _ _ h2 G2 hI2 (by omega) (by omega)
set_option maxRecDepth 100000 in
set_option maxHeartbeats 4000000 in
theorem law_c14 (hL : L ≤ 3072) (C : lC K p s m meth c b L xs) (hi : i + 6 ≤ L) (hI : LI G h x y) (hc : cells + 17 ≤ 600000) (hs : slots + 887 ≤ 7302250) (next : ∀ cells2 slots2 h2 G2, LI G2 h2 x y → cells2 ≤ cells + 17 → slots2 ≤ slots + 887 → lV K p l e s m below meth c b cells2 slots2 h2 G2 1042 [(3, .int (nI i)), (2, .ref y), (1, .ref x), (0, .ref b)] []) : lV K p l e s m below meth c b cells slots h G 33 [(3, .int (nI i)), (2, .ref y), (1, .ref x), (0, .ref b)] [.int (nI 14)] := by
  obtain ⟨fs0, hx⟩ := hI.cx
  refine l_tableIn (off := 515) (tgt := 548) C dL_law_33 (by decide) (by decide) rfl (by decide) ?_
  refine l_aload_n C dL_law_548 2 rfl ?_
  refine l_ld (k := 1) C hL hi (by decide) dL_law_549 dL_law_550 dL_law_551 dL_law_552 dL_law_553 ?_
  refine l_ld (k := 2) C hL hi (by decide) dL_law_554 dL_law_555 dL_law_556 dL_law_557 dL_law_558 ?_
  refine l_ld (k := 3) C hL hi (by decide) dL_law_559 dL_law_560 dL_law_561 dL_law_562 dL_law_563 ?_
  refine l_callV (N := mX11_ahead) (d' := 6) (mc := 0) (ms := 0) (As := [.int (xs (i + 1)), .int (xs (i + 2)), .int (xs (i + 3))]) (st := []) C dL_law_564 mX11_ahead_v lL_73 (ci := 11) rfl rfl hx rfl (by decide) (by decide) trivial (by omega) (by omega) (P_ahead hI) rfl (fun v1 h1 G1 q1 => ?_)
  obtain ⟨a, rfl, ⟨fs, hy⟩, q2⟩ := q1
  refine l_aload_n C dL_law_567 1 rfl ?_
  refine l_ld (k := 1) C hL hi (by decide) dL_law_568 dL_law_569 dL_law_570 dL_law_571 dL_law_572 ?_
  refine l_ld (k := 2) C hL hi (by decide) dL_law_573 dL_law_574 dL_law_575 dL_law_576 dL_law_577 ?_
  refine l_ld (k := 3) C hL hi (by decide) dL_law_578 dL_law_579 dL_law_580 dL_law_581 dL_law_582 ?_
  refine l_callV (N := mX12_ahead) (d' := 9) (mc := 0) (ms := 0) (As := [.int (xs (i + 1)), .int (xs (i + 2)), .int (xs (i + 3))]) (st := [.int a]) C dL_law_583 mX12_ahead_v lL_77 (ci := 12) rfl rfl hy rfl (by decide) (Nat.le_of_ble_eq_true rfl) trivial (by omega) (by omega) q2 rfl (fun v2 h2 G2 q3 => ?_)
  obtain ⟨rfl, hI2⟩ := q3
  refine l_icmp_eq (tgt := 1042) C dL_law_586 (by decide) (fun _ => ?_) (fun z => absurd rfl z)
  exact next _ _ h2 G2 hI2 (by omega) (by omega)
set_option maxRecDepth 100000 in
set_option maxHeartbeats 4000000 in
theorem law_c15 (hL : L ≤ 3072) (C : lC K p s m meth c b L xs) (hi : i + 6 ≤ L) (hI : LI G h x y) (hc : cells + 17 ≤ 600000) (hs : slots + 887 ≤ 7302250) (next : ∀ cells2 slots2 h2 G2, LI G2 h2 x y → cells2 ≤ cells + 17 → slots2 ≤ slots + 887 → lV K p l e s m below meth c b cells2 slots2 h2 G2 1042 [(3, .int (nI i)), (2, .ref y), (1, .ref x), (0, .ref b)] []) : lV K p l e s m below meth c b cells slots h G 33 [(3, .int (nI i)), (2, .ref y), (1, .ref x), (0, .ref b)] [.int (nI 15)] := by
  obtain ⟨fs0, hx⟩ := hI.cx
  refine l_tableIn (off := 558) (tgt := 591) C dL_law_33 (by decide) (by decide) rfl (by decide) ?_
  refine l_aload_n C dL_law_591 2 rfl ?_
  refine l_ld (k := 1) C hL hi (by decide) dL_law_592 dL_law_593 dL_law_594 dL_law_595 dL_law_596 ?_
  refine l_callV (N := mX11_done) (d' := 6) (mc := 0) (ms := 0) (As := [.int (xs (i + 1))]) (st := []) C dL_law_597 mX11_done_v lL_78 (ci := 11) rfl rfl hx rfl (by decide) (by decide) trivial (by omega) (by omega) (P_done hI) rfl (fun v1 h1 G1 q1 => ?_)
  obtain ⟨a, rfl, ⟨fs, hy⟩, q2⟩ := q1
  refine l_aload_n C dL_law_600 1 rfl ?_
  refine l_ld (k := 1) C hL hi (by decide) dL_law_601 dL_law_602 dL_law_603 dL_law_604 dL_law_605 ?_
  refine l_callV (N := mX12_done) (d' := 8) (mc := 0) (ms := 0) (As := [.int (xs (i + 1))]) (st := [.int a]) C dL_law_606 mX12_done_v lL_81 (ci := 12) rfl rfl hy rfl (by decide) (Nat.le_of_ble_eq_true rfl) trivial (by omega) (by omega) q2 rfl (fun v2 h2 G2 q3 => ?_)
  obtain ⟨rfl, hI2⟩ := q3
  refine l_icmp_eq (tgt := 1042) C dL_law_609 (by decide) (fun _ => ?_) (fun z => absurd rfl z)
  exact next _ _ h2 G2 hI2 (by omega) (by omega)
set_option maxRecDepth 100000 in
set_option maxHeartbeats 4000000 in
theorem law_c16 (hL : L ≤ 3072) (C : lC K p s m meth c b L xs) (hi : i + 6 ≤ L) (hI : LI G h x y) (hc : cells + 17 ≤ 600000) (hs : slots + 887 ≤ 7302250) (next : ∀ cells2 slots2 h2 G2, LI G2 h2 x y → cells2 ≤ cells + 17 → slots2 ≤ slots + 887 → lV K p l e s m below meth c b cells2 slots2 h2 G2 1042 [(3, .int (nI i)), (2, .ref y), (1, .ref x), (0, .ref b)] []) : lV K p l e s m below meth c b cells slots h G 33 [(3, .int (nI i)), (2, .ref y), (1, .ref x), (0, .ref b)] [.int (nI 16)] := by
  obtain ⟨fs0, hx⟩ := hI.cx
  refine l_tableIn (off := 581) (tgt := 614) C dL_law_33 (by decide) (by decide) rfl (by decide) ?_
  refine l_aload_n C dL_law_614 2 rfl ?_
  refine l_ld (k := 1) C hL hi (by decide) dL_law_615 dL_law_616 dL_law_617 dL_law_618 dL_law_619 ?_
  refine l_callV (N := mX11_waits) (d' := 6) (mc := 0) (ms := 0) (As := [.int (xs (i + 1))]) (st := []) C dL_law_620 mX11_waits_v lL_82 (ci := 11) rfl rfl hx rfl (by decide) (by decide) trivial (by omega) (by omega) (P_waits hI) rfl (fun v1 h1 G1 q1 => ?_)
  obtain ⟨a, rfl, ⟨fs, hy⟩, q2⟩ := q1
  refine l_aload_n C dL_law_623 1 rfl ?_
  refine l_ld (k := 1) C hL hi (by decide) dL_law_624 dL_law_625 dL_law_626 dL_law_627 dL_law_628 ?_
  refine l_callV (N := mX12_waits) (d' := 8) (mc := 0) (ms := 0) (As := [.int (xs (i + 1))]) (st := [.int a]) C dL_law_629 mX12_waits_v lL_85 (ci := 12) rfl rfl hy rfl (by decide) (Nat.le_of_ble_eq_true rfl) trivial (by omega) (by omega) q2 rfl (fun v2 h2 G2 q3 => ?_)
  obtain ⟨rfl, hI2⟩ := q3
  refine l_icmp_eq (tgt := 1042) C dL_law_632 (by decide) (fun _ => ?_) (fun z => absurd rfl z)
  exact next _ _ h2 G2 hI2 (by omega) (by omega)
set_option maxRecDepth 100000 in
set_option maxHeartbeats 4000000 in
theorem law_c17 (hL : L ≤ 3072) (C : lC K p s m meth c b L xs) (hi : i + 6 ≤ L) (hI : LI G h x y) (hc : cells + 17 ≤ 600000) (hs : slots + 887 ≤ 7302250) (next : ∀ cells2 slots2 h2 G2, LI G2 h2 x y → cells2 ≤ cells + 17 → slots2 ≤ slots + 887 → lV K p l e s m below meth c b cells2 slots2 h2 G2 1042 [(3, .int (nI i)), (2, .ref y), (1, .ref x), (0, .ref b)] []) : lV K p l e s m below meth c b cells slots h G 33 [(3, .int (nI i)), (2, .ref y), (1, .ref x), (0, .ref b)] [.int (nI 17)] := by
  obtain ⟨fs0, hx⟩ := hI.cx
  refine l_tableIn (off := 604) (tgt := 637) C dL_law_33 (by decide) (by decide) rfl (by decide) ?_
  refine l_aload_n C dL_law_637 2 rfl ?_
  refine l_ld (k := 1) C hL hi (by decide) dL_law_638 dL_law_639 dL_law_640 dL_law_641 dL_law_642 ?_
  refine l_ld (k := 2) C hL hi (by decide) dL_law_643 dL_law_644 dL_law_645 dL_law_646 dL_law_647 ?_
  refine l_callV (N := mX11_take) (d' := 7) (mc := 0) (ms := 0) (As := [.int (xs (i + 1)), .int (xs (i + 2))]) (st := []) C dL_law_648 mX11_take_v lL_86 (ci := 11) rfl rfl hx rfl (by decide) (by decide) trivial (by omega) (by omega) (P_take hI) rfl (fun v1 h1 G1 q1 => ?_)
  obtain ⟨a, rfl, ⟨fs, hy⟩, q2⟩ := q1
  refine l_aload_n C dL_law_651 1 rfl ?_
  refine l_ld (k := 1) C hL hi (by decide) dL_law_652 dL_law_653 dL_law_654 dL_law_655 dL_law_656 ?_
  refine l_ld (k := 2) C hL hi (by decide) dL_law_657 dL_law_658 dL_law_659 dL_law_660 dL_law_661 ?_
  refine l_callV (N := mX12_take) (d' := 12) (mc := 0) (ms := 0) (As := [.int (xs (i + 1)), .int (xs (i + 2))]) (st := [.int a]) C dL_law_662 mX12_take_v lL_89 (ci := 12) rfl rfl hy rfl (by decide) (Nat.le_of_ble_eq_true rfl) trivial (by omega) (by omega) q2 rfl (fun v2 h2 G2 q3 => ?_)
  obtain ⟨rfl, hI2⟩ := q3
  refine l_icmp_eq (tgt := 1042) C dL_law_665 (by decide) (fun _ => ?_) (fun z => absurd rfl z)
  exact next _ _ h2 G2 hI2 (by omega) (by omega)
set_option maxRecDepth 100000 in
set_option maxHeartbeats 4000000 in
theorem law_c18 (hL : L ≤ 3072) (C : lC K p s m meth c b L xs) (hi : i + 6 ≤ L) (hI : LI G h x y) (hc : cells + 17 ≤ 600000) (hs : slots + 887 ≤ 7302250) (next : ∀ cells2 slots2 h2 G2, LI G2 h2 x y → cells2 ≤ cells + 17 → slots2 ≤ slots + 887 → lV K p l e s m below meth c b cells2 slots2 h2 G2 1042 [(3, .int (nI i)), (2, .ref y), (1, .ref x), (0, .ref b)] []) : lV K p l e s m below meth c b cells slots h G 33 [(3, .int (nI i)), (2, .ref y), (1, .ref x), (0, .ref b)] [.int (nI 18)] := by
  obtain ⟨fs0, hx⟩ := hI.cx
  refine l_tableIn (off := 637) (tgt := 670) C dL_law_33 (by decide) (by decide) rfl (by decide) ?_
  refine l_aload_n C dL_law_670 2 rfl ?_
  refine l_ld (k := 1) C hL hi (by decide) dL_law_671 dL_law_672 dL_law_673 dL_law_674 dL_law_675 ?_
  refine l_callV (N := mX11_match) (d' := 9) (mc := 0) (ms := 0) (As := [.int (xs (i + 1))]) (st := []) C dL_law_676 mX11_match_v lL_90 (ci := 11) rfl rfl hx rfl (by decide) (by decide) trivial (by omega) (by omega) (P_match hI) rfl (fun v1 h1 G1 q1 => ?_)
  obtain ⟨a, rfl, ⟨fs, hy⟩, q2⟩ := q1
  refine l_aload_n C dL_law_679 1 rfl ?_
  refine l_ld (k := 1) C hL hi (by decide) dL_law_680 dL_law_681 dL_law_682 dL_law_683 dL_law_684 ?_
  refine l_callV (N := mX12_match) (d' := 4) (mc := 0) (ms := 0) (As := [.int (xs (i + 1))]) (st := [.int a]) C dL_law_685 mX12_match_v lL_93 (ci := 12) rfl rfl hy rfl (by decide) (Nat.le_of_ble_eq_true rfl) trivial (by omega) (by omega) q2 rfl (fun v2 h2 G2 q3 => ?_)
  obtain ⟨rfl, hI2⟩ := q3
  refine l_icmp_eq (tgt := 1042) C dL_law_688 (by decide) (fun _ => ?_) (fun z => absurd rfl z)
  exact next _ _ h2 G2 hI2 (by omega) (by omega)
set_option maxRecDepth 100000 in
set_option maxHeartbeats 4000000 in
theorem law_c19 (hL : L ≤ 3072) (C : lC K p s m meth c b L xs) (hi : i + 6 ≤ L) (hI : LI G h x y) (hc : cells + 17 ≤ 600000) (hs : slots + 887 ≤ 7302250) (next : ∀ cells2 slots2 h2 G2, LI G2 h2 x y → cells2 ≤ cells + 17 → slots2 ≤ slots + 887 → lV K p l e s m below meth c b cells2 slots2 h2 G2 1042 [(3, .int (nI i)), (2, .ref y), (1, .ref x), (0, .ref b)] []) : lV K p l e s m below meth c b cells slots h G 33 [(3, .int (nI i)), (2, .ref y), (1, .ref x), (0, .ref b)] [.int (nI 19)] := by
  obtain ⟨fs0, hx⟩ := hI.cx
  refine l_tableIn (off := 660) (tgt := 693) C dL_law_33 (by decide) (by decide) rfl (by decide) ?_
  refine l_aload_n C dL_law_693 2 rfl ?_
  refine l_ld (k := 1) C hL hi (by decide) dL_law_694 dL_law_695 dL_law_696 dL_law_697 dL_law_698 ?_
  refine l_callV (N := mX11_swap) (d' := 2) (mc := 0) (ms := 0) (As := [.int (xs (i + 1))]) (st := []) C dL_law_699 mX11_swap_v lL_94 (ci := 11) rfl rfl hx rfl (by decide) (by decide) trivial (by omega) (by omega) (P_swap hI) rfl (fun v1 h1 G1 q1 => ?_)
  obtain ⟨a, rfl, ⟨fs, hy⟩, q2⟩ := q1
  refine l_aload_n C dL_law_702 1 rfl ?_
  refine l_ld (k := 1) C hL hi (by decide) dL_law_703 dL_law_704 dL_law_705 dL_law_706 dL_law_707 ?_
  refine l_callV (N := mX12_swap) (d' := 1) (mc := 0) (ms := 0) (As := [.int (xs (i + 1))]) (st := [.int a]) C dL_law_708 mX12_swap_v lL_97 (ci := 12) rfl rfl hy rfl (by decide) (Nat.le_of_ble_eq_true rfl) trivial (by omega) (by omega) q2 rfl (fun v2 h2 G2 q3 => ?_)
  obtain ⟨rfl, hI2⟩ := q3
  refine l_icmp_eq (tgt := 1042) C dL_law_711 (by decide) (fun _ => ?_) (fun z => absurd rfl z)
  exact next _ _ h2 G2 hI2 (by omega) (by omega)
set_option maxRecDepth 100000 in
set_option maxHeartbeats 4000000 in
theorem law_c20 (hL : L ≤ 3072) (C : lC K p s m meth c b L xs) (hi : i + 6 ≤ L) (hI : LI G h x y) (hc : cells + 17 ≤ 600000) (hs : slots + 887 ≤ 7302250) (next : ∀ cells2 slots2 h2 G2, LI G2 h2 x y → cells2 ≤ cells + 17 → slots2 ≤ slots + 887 → lV K p l e s m below meth c b cells2 slots2 h2 G2 1042 [(3, .int (nI i)), (2, .ref y), (1, .ref x), (0, .ref b)] []) : lV K p l e s m below meth c b cells slots h G 33 [(3, .int (nI i)), (2, .ref y), (1, .ref x), (0, .ref b)] [.int (nI 20)] := by
  obtain ⟨fs0, hx⟩ := hI.cx
  refine l_tableIn (off := 683) (tgt := 716) C dL_law_33 (by decide) (by decide) rfl (by decide) ?_
  refine l_aload_n C dL_law_716 2 rfl ?_
  refine l_ld (k := 1) C hL hi (by decide) dL_law_717 dL_law_718 dL_law_719 dL_law_720 dL_law_721 ?_
  refine l_callV (N := mX11_part) (d' := 7) (mc := 0) (ms := 0) (As := [.int (xs (i + 1))]) (st := []) C dL_law_722 mX11_part_v lL_98 (ci := 11) rfl rfl hx rfl (by decide) (by decide) trivial (by omega) (by omega) (P_part hI) rfl (fun v1 h1 G1 q1 => ?_)
  obtain ⟨a, rfl, ⟨fs, hy⟩, q2⟩ := q1
  refine l_aload_n C dL_law_725 1 rfl ?_
  refine l_ld (k := 1) C hL hi (by decide) dL_law_726 dL_law_727 dL_law_728 dL_law_729 dL_law_730 ?_
  refine l_callV (N := mX12_part) (d' := 12) (mc := 0) (ms := 0) (As := [.int (xs (i + 1))]) (st := [.int a]) C dL_law_731 mX12_part_v lL_101 (ci := 12) rfl rfl hy rfl (by decide) (Nat.le_of_ble_eq_true rfl) trivial (by omega) (by omega) q2 rfl (fun v2 h2 G2 q3 => ?_)
  obtain ⟨rfl, hI2⟩ := q3
  refine l_icmp_eq (tgt := 1042) C dL_law_734 (by decide) (fun _ => ?_) (fun z => absurd rfl z)
  exact next _ _ h2 G2 hI2 (by omega) (by omega)
set_option maxRecDepth 100000 in
set_option maxHeartbeats 4000000 in
theorem law_c21 (hL : L ≤ 3072) (C : lC K p s m meth c b L xs) (hi : i + 6 ≤ L) (hI : LI G h x y) (hc : cells + 17 ≤ 600000) (hs : slots + 887 ≤ 7302250) (next : ∀ cells2 slots2 h2 G2, LI G2 h2 x y → cells2 ≤ cells + 17 → slots2 ≤ slots + 887 → lV K p l e s m below meth c b cells2 slots2 h2 G2 1042 [(3, .int (nI i)), (2, .ref y), (1, .ref x), (0, .ref b)] []) : lV K p l e s m below meth c b cells slots h G 33 [(3, .int (nI i)), (2, .ref y), (1, .ref x), (0, .ref b)] [.int (nI 21)] := by
  obtain ⟨fs0, hx⟩ := hI.cx
  refine l_tableIn (off := 706) (tgt := 739) C dL_law_33 (by decide) (by decide) rfl (by decide) ?_
  refine l_aload_n C dL_law_739 2 rfl ?_
  refine l_ld (k := 1) C hL hi (by decide) dL_law_740 dL_law_741 dL_law_742 dL_law_743 dL_law_744 ?_
  refine l_callV (N := mX11_askIn) (d' := 7) (mc := 0) (ms := 0) (As := [.int (xs (i + 1))]) (st := []) C dL_law_745 mX11_askIn_v lL_102 (ci := 11) rfl rfl hx rfl (by decide) (by decide) trivial (by omega) (by omega) (P_askIn hI) rfl (fun v1 h1 G1 q1 => ?_)
  obtain ⟨a, rfl, ⟨fs, hy⟩, q2⟩ := q1
  refine l_aload_n C dL_law_748 1 rfl ?_
  refine l_ld (k := 1) C hL hi (by decide) dL_law_749 dL_law_750 dL_law_751 dL_law_752 dL_law_753 ?_
  refine l_callV (N := mX12_askIn) (d' := 12) (mc := 0) (ms := 0) (As := [.int (xs (i + 1))]) (st := [.int a]) C dL_law_754 mX12_askIn_v lL_105 (ci := 12) rfl rfl hy rfl (by decide) (Nat.le_of_ble_eq_true rfl) trivial (by omega) (by omega) q2 rfl (fun v2 h2 G2 q3 => ?_)
  obtain ⟨rfl, hI2⟩ := q3
  refine l_icmp_eq (tgt := 1042) C dL_law_757 (by decide) (fun _ => ?_) (fun z => absurd rfl z)
  exact next _ _ h2 G2 hI2 (by omega) (by omega)
set_option maxRecDepth 100000 in
set_option maxHeartbeats 4000000 in
theorem law_c22 (hL : L ≤ 3072) (C : lC K p s m meth c b L xs) (hi : i + 6 ≤ L) (hI : LI G h x y) (hc : cells + 17 ≤ 600000) (hs : slots + 887 ≤ 7302250) (next : ∀ cells2 slots2 h2 G2, LI G2 h2 x y → cells2 ≤ cells + 17 → slots2 ≤ slots + 887 → lV K p l e s m below meth c b cells2 slots2 h2 G2 1042 [(3, .int (nI i)), (2, .ref y), (1, .ref x), (0, .ref b)] []) : lV K p l e s m below meth c b cells slots h G 33 [(3, .int (nI i)), (2, .ref y), (1, .ref x), (0, .ref b)] [.int (nI 22)] := by
  obtain ⟨fs0, hx⟩ := hI.cx
  refine l_tableIn (off := 729) (tgt := 762) C dL_law_33 (by decide) (by decide) rfl (by decide) ?_
  refine l_aload_n C dL_law_762 2 rfl ?_
  refine l_ld (k := 1) C hL hi (by decide) dL_law_763 dL_law_764 dL_law_765 dL_law_766 dL_law_767 ?_
  refine l_callV (N := mX11_late) (d' := 6) (mc := 0) (ms := 0) (As := [.int (xs (i + 1))]) (st := []) C dL_law_768 mX11_late_v lL_106 (ci := 11) rfl rfl hx rfl (by decide) (by decide) trivial (by omega) (by omega) (P_late hI) rfl (fun v1 h1 G1 q1 => ?_)
  obtain ⟨a, rfl, ⟨fs, hy⟩, q2⟩ := q1
  refine l_aload_n C dL_law_771 1 rfl ?_
  refine l_ld (k := 1) C hL hi (by decide) dL_law_772 dL_law_773 dL_law_774 dL_law_775 dL_law_776 ?_
  refine l_callV (N := mX12_late) (d' := 9) (mc := 0) (ms := 0) (As := [.int (xs (i + 1))]) (st := [.int a]) C dL_law_777 mX12_late_v lL_109 (ci := 12) rfl rfl hy rfl (by decide) (Nat.le_of_ble_eq_true rfl) trivial (by omega) (by omega) q2 rfl (fun v2 h2 G2 q3 => ?_)
  obtain ⟨rfl, hI2⟩ := q3
  refine l_icmp_eq (tgt := 1042) C dL_law_780 (by decide) (fun _ => ?_) (fun z => absurd rfl z)
  exact next _ _ h2 G2 hI2 (by omega) (by omega)
set_option maxRecDepth 100000 in
set_option maxHeartbeats 4000000 in
theorem law_c23 (hL : L ≤ 3072) (C : lC K p s m meth c b L xs) (hi : i + 6 ≤ L) (hI : LI G h x y) (hc : cells + 17 ≤ 600000) (hs : slots + 887 ≤ 7302250) (next : ∀ cells2 slots2 h2 G2, LI G2 h2 x y → cells2 ≤ cells + 17 → slots2 ≤ slots + 887 → lV K p l e s m below meth c b cells2 slots2 h2 G2 1042 [(3, .int (nI i)), (2, .ref y), (1, .ref x), (0, .ref b)] []) : lV K p l e s m below meth c b cells slots h G 33 [(3, .int (nI i)), (2, .ref y), (1, .ref x), (0, .ref b)] [.int (nI 23)] := by
  obtain ⟨fs0, hx⟩ := hI.cx
  refine l_tableIn (off := 752) (tgt := 785) C dL_law_33 (by decide) (by decide) rfl (by decide) ?_
  refine l_aload_n C dL_law_785 2 rfl ?_
  refine l_ld (k := 1) C hL hi (by decide) dL_law_786 dL_law_787 dL_law_788 dL_law_789 dL_law_790 ?_
  refine l_callV (N := mX11_idle) (d' := 6) (mc := 0) (ms := 0) (As := [.int (xs (i + 1))]) (st := []) C dL_law_791 mX11_idle_v lL_110 (ci := 11) rfl rfl hx rfl (by decide) (by decide) trivial (by omega) (by omega) (P_idle hI) rfl (fun v1 h1 G1 q1 => ?_)
  obtain ⟨a, rfl, ⟨fs, hy⟩, q2⟩ := q1
  refine l_aload_n C dL_law_794 1 rfl ?_
  refine l_ld (k := 1) C hL hi (by decide) dL_law_795 dL_law_796 dL_law_797 dL_law_798 dL_law_799 ?_
  refine l_callV (N := mX12_idle) (d' := 8) (mc := 0) (ms := 0) (As := [.int (xs (i + 1))]) (st := [.int a]) C dL_law_800 mX12_idle_v lL_113 (ci := 12) rfl rfl hy rfl (by decide) (Nat.le_of_ble_eq_true rfl) trivial (by omega) (by omega) q2 rfl (fun v2 h2 G2 q3 => ?_)
  obtain ⟨rfl, hI2⟩ := q3
  refine l_icmp_eq (tgt := 1042) C dL_law_803 (by decide) (fun _ => ?_) (fun z => absurd rfl z)
  exact next _ _ h2 G2 hI2 (by omega) (by omega)
set_option maxRecDepth 100000 in
set_option maxHeartbeats 4000000 in
theorem law_c24 (hL : L ≤ 3072) (C : lC K p s m meth c b L xs) (hi : i + 6 ≤ L) (hI : LI G h x y) (hc : cells + 17 ≤ 600000) (hs : slots + 887 ≤ 7302250) (next : ∀ cells2 slots2 h2 G2, LI G2 h2 x y → cells2 ≤ cells + 17 → slots2 ≤ slots + 887 → lV K p l e s m below meth c b cells2 slots2 h2 G2 1042 [(3, .int (nI i)), (2, .ref y), (1, .ref x), (0, .ref b)] []) : lV K p l e s m below meth c b cells slots h G 33 [(3, .int (nI i)), (2, .ref y), (1, .ref x), (0, .ref b)] [.int (nI 24)] := by
  obtain ⟨fs0, hx⟩ := hI.cx
  refine l_tableIn (off := 775) (tgt := 808) C dL_law_33 (by decide) (by decide) rfl (by decide) ?_
  refine l_aload_n C dL_law_808 2 rfl ?_
  refine l_ld (k := 1) C hL hi (by decide) dL_law_809 dL_law_810 dL_law_811 dL_law_812 dL_law_813 ?_
  refine l_ld (k := 2) C hL hi (by decide) dL_law_814 dL_law_815 dL_law_816 dL_law_817 dL_law_818 ?_
  refine l_ld (k := 3) C hL hi (by decide) dL_law_819 dL_law_820 dL_law_821 dL_law_822 dL_law_823 ?_
  refine l_callV (N := mX11_book) (d' := 1) (mc := 0) (ms := 0) (As := [.int (xs (i + 1)), .int (xs (i + 2)), .int (xs (i + 3))]) (st := []) C dL_law_824 mX11_book_v lL_114 (ci := 11) rfl rfl hx rfl (by decide) (by decide) trivial (by omega) (by omega) (P_book hI) rfl (fun v1 h1 G1 q1 => ?_)
  obtain ⟨a, rfl, ⟨fs, hy⟩, q2⟩ := q1
  refine l_aload_n C dL_law_827 1 rfl ?_
  refine l_ld (k := 1) C hL hi (by decide) dL_law_828 dL_law_829 dL_law_830 dL_law_831 dL_law_832 ?_
  refine l_ld (k := 2) C hL hi (by decide) dL_law_833 dL_law_834 dL_law_835 dL_law_836 dL_law_837 ?_
  refine l_ld (k := 3) C hL hi (by decide) dL_law_838 dL_law_839 dL_law_840 dL_law_841 dL_law_842 ?_
  refine l_callV (N := mX12_book) (d' := 2) (mc := 0) (ms := 0) (As := [.int (xs (i + 1)), .int (xs (i + 2)), .int (xs (i + 3))]) (st := [.int a]) C dL_law_843 mX12_book_v lL_117 (ci := 12) rfl rfl hy rfl (by decide) (Nat.le_of_ble_eq_true rfl) trivial (by omega) (by omega) q2 rfl (fun v2 h2 G2 q3 => ?_)
  obtain ⟨rfl, hI2⟩ := q3
  refine l_icmp_eq (tgt := 1042) C dL_law_846 (by decide) (fun _ => ?_) (fun z => absurd rfl z)
  exact next _ _ h2 G2 hI2 (by omega) (by omega)
set_option maxRecDepth 100000 in
set_option maxHeartbeats 4000000 in
theorem law_c25 (hL : L ≤ 3072) (C : lC K p s m meth c b L xs) (hi : i + 6 ≤ L) (hI : LI G h x y) (hc : cells + 17 ≤ 600000) (hs : slots + 887 ≤ 7302250) (next : ∀ cells2 slots2 h2 G2, LI G2 h2 x y → cells2 ≤ cells + 17 → slots2 ≤ slots + 887 → lV K p l e s m below meth c b cells2 slots2 h2 G2 1042 [(3, .int (nI i)), (2, .ref y), (1, .ref x), (0, .ref b)] []) : lV K p l e s m below meth c b cells slots h G 33 [(3, .int (nI i)), (2, .ref y), (1, .ref x), (0, .ref b)] [.int (nI 25)] := by
  obtain ⟨fs0, hx⟩ := hI.cx
  refine l_tableIn (off := 818) (tgt := 851) C dL_law_33 (by decide) (by decide) rfl (by decide) ?_
  refine l_aload_n C dL_law_851 2 rfl ?_
  refine l_ld (k := 1) C hL hi (by decide) dL_law_852 dL_law_853 dL_law_854 dL_law_855 dL_law_856 ?_
  refine l_callV (N := mX11_ruled) (d' := 7) (mc := 0) (ms := 0) (As := [.int (xs (i + 1))]) (st := []) C dL_law_857 mX11_ruled_v lL_118 (ci := 11) rfl rfl hx rfl (by decide) (by decide) trivial (by omega) (by omega) (P_ruled hI) rfl (fun v1 h1 G1 q1 => ?_)
  obtain ⟨a, rfl, ⟨fs, hy⟩, q2⟩ := q1
  refine l_aload_n C dL_law_860 1 rfl ?_
  refine l_ld (k := 1) C hL hi (by decide) dL_law_861 dL_law_862 dL_law_863 dL_law_864 dL_law_865 ?_
  refine l_callV (N := mX12_ruled) (d' := 9) (mc := 0) (ms := 0) (As := [.int (xs (i + 1))]) (st := [.int a]) C dL_law_866 mX12_ruled_v lL_121 (ci := 12) rfl rfl hy rfl (by decide) (Nat.le_of_ble_eq_true rfl) trivial (by omega) (by omega) q2 rfl (fun v2 h2 G2 q3 => ?_)
  obtain ⟨rfl, hI2⟩ := q3
  refine l_icmp_eq (tgt := 1042) C dL_law_869 (by decide) (fun _ => ?_) (fun z => absurd rfl z)
  exact next _ _ h2 G2 hI2 (by omega) (by omega)
set_option maxRecDepth 100000 in
set_option maxHeartbeats 4000000 in
theorem law_c26 (hL : L ≤ 3072) (C : lC K p s m meth c b L xs) (hi : i + 6 ≤ L) (hI : LI G h x y) (hc : cells + 17 ≤ 600000) (hs : slots + 887 ≤ 7302250) (next : ∀ cells2 slots2 h2 G2, LI G2 h2 x y → cells2 ≤ cells + 17 → slots2 ≤ slots + 887 → lV K p l e s m below meth c b cells2 slots2 h2 G2 1042 [(3, .int (nI i)), (2, .ref y), (1, .ref x), (0, .ref b)] []) : lV K p l e s m below meth c b cells slots h G 33 [(3, .int (nI i)), (2, .ref y), (1, .ref x), (0, .ref b)] [.int (nI 26)] := by
  obtain ⟨fs0, hx⟩ := hI.cx
  refine l_tableIn (off := 841) (tgt := 874) C dL_law_33 (by decide) (by decide) rfl (by decide) ?_
  refine l_aload_n C dL_law_874 2 rfl ?_
  refine l_ld (k := 1) C hL hi (by decide) dL_law_875 dL_law_876 dL_law_877 dL_law_878 dL_law_879 ?_
  refine l_ld (k := 2) C hL hi (by decide) dL_law_880 dL_law_881 dL_law_882 dL_law_883 dL_law_884 ?_
  refine l_callV (N := mX11_look) (d' := 7) (mc := 0) (ms := 0) (As := [.int (xs (i + 1)), .int (xs (i + 2))]) (st := []) C dL_law_885 mX11_look_v lL_122 (ci := 11) rfl rfl hx rfl (by decide) (by decide) trivial (by omega) (by omega) (P_look hI) rfl (fun v1 h1 G1 q1 => ?_)
  obtain ⟨a, rfl, ⟨fs, hy⟩, q2⟩ := q1
  refine l_aload_n C dL_law_888 1 rfl ?_
  refine l_ld (k := 1) C hL hi (by decide) dL_law_889 dL_law_890 dL_law_891 dL_law_892 dL_law_893 ?_
  refine l_ld (k := 2) C hL hi (by decide) dL_law_894 dL_law_895 dL_law_896 dL_law_897 dL_law_898 ?_
  refine l_callV (N := mX12_look) (d' := 9) (mc := 0) (ms := 0) (As := [.int (xs (i + 1)), .int (xs (i + 2))]) (st := [.int a]) C dL_law_899 mX12_look_v lL_125 (ci := 12) rfl rfl hy rfl (by decide) (Nat.le_of_ble_eq_true rfl) trivial (by omega) (by omega) q2 rfl (fun v2 h2 G2 q3 => ?_)
  obtain ⟨rfl, hI2⟩ := q3
  refine l_icmp_eq (tgt := 1042) C dL_law_902 (by decide) (fun _ => ?_) (fun z => absurd rfl z)
  exact next _ _ h2 G2 hI2 (by omega) (by omega)
set_option maxRecDepth 100000 in
set_option maxHeartbeats 4000000 in
theorem law_c27 (hL : L ≤ 3072) (C : lC K p s m meth c b L xs) (hi : i + 6 ≤ L) (hI : LI G h x y) (hc : cells + 17 ≤ 600000) (hs : slots + 887 ≤ 7302250) (next : ∀ cells2 slots2 h2 G2, LI G2 h2 x y → cells2 ≤ cells + 17 → slots2 ≤ slots + 887 → lV K p l e s m below meth c b cells2 slots2 h2 G2 1042 [(3, .int (nI i)), (2, .ref y), (1, .ref x), (0, .ref b)] []) : lV K p l e s m below meth c b cells slots h G 33 [(3, .int (nI i)), (2, .ref y), (1, .ref x), (0, .ref b)] [.int (nI 27)] := by
  obtain ⟨fs0, hx⟩ := hI.cx
  refine l_tableIn (off := 874) (tgt := 907) C dL_law_33 (by decide) (by decide) rfl (by decide) ?_
  refine l_aload_n C dL_law_907 2 rfl ?_
  refine l_ld (k := 1) C hL hi (by decide) dL_law_908 dL_law_909 dL_law_910 dL_law_911 dL_law_912 ?_
  refine l_callV (N := mX11_seed) (d' := 0) (mc := 0) (ms := 0) (As := [.int (xs (i + 1))]) (st := []) C dL_law_913 mX11_seed_v lL_126 (ci := 11) rfl rfl hx rfl (by decide) (by decide) trivial (by omega) (by omega) (P_seed hI) rfl (fun v1 h1 G1 q1 => ?_)
  obtain ⟨a, rfl, ⟨fs, hy⟩, q2⟩ := q1
  refine l_aload_n C dL_law_916 1 rfl ?_
  refine l_ld (k := 1) C hL hi (by decide) dL_law_917 dL_law_918 dL_law_919 dL_law_920 dL_law_921 ?_
  refine l_callV (N := mX12_seed) (d' := 0) (mc := 0) (ms := 0) (As := [.int (xs (i + 1))]) (st := [.int a]) C dL_law_922 mX12_seed_v lL_129 (ci := 12) rfl rfl hy rfl (by decide) (Nat.le_of_ble_eq_true rfl) trivial (by omega) (by omega) q2 rfl (fun v2 h2 G2 q3 => ?_)
  obtain ⟨rfl, hI2⟩ := q3
  refine l_icmp_eq (tgt := 1042) C dL_law_925 (by decide) (fun _ => ?_) (fun z => absurd rfl z)
  exact next _ _ h2 G2 hI2 (by omega) (by omega)
set_option maxRecDepth 100000 in
set_option maxHeartbeats 4000000 in
theorem law_c28 (hL : L ≤ 3072) (C : lC K p s m meth c b L xs) (hi : i + 6 ≤ L) (hI : LI G h x y) (hc : cells + 17 ≤ 600000) (hs : slots + 887 ≤ 7302250) (next : ∀ cells2 slots2 h2 G2, LI G2 h2 x y → cells2 ≤ cells + 17 → slots2 ≤ slots + 887 → lV K p l e s m below meth c b cells2 slots2 h2 G2 1042 [(3, .int (nI i)), (2, .ref y), (1, .ref x), (0, .ref b)] []) : lV K p l e s m below meth c b cells slots h G 33 [(3, .int (nI i)), (2, .ref y), (1, .ref x), (0, .ref b)] [.int (nI 28)] := by
  obtain ⟨fs0, hx⟩ := hI.cx
  refine l_tableIn (off := 897) (tgt := 930) C dL_law_33 (by decide) (by decide) rfl (by decide) ?_
  refine l_aload_n C dL_law_930 2 rfl ?_
  refine l_ld (k := 1) C hL hi (by decide) dL_law_931 dL_law_932 dL_law_933 dL_law_934 dL_law_935 ?_
  refine l_ld (k := 2) C hL hi (by decide) dL_law_936 dL_law_937 dL_law_938 dL_law_939 dL_law_940 ?_
  refine l_ld (k := 3) C hL hi (by decide) dL_law_941 dL_law_942 dL_law_943 dL_law_944 dL_law_945 ?_
  refine l_callV (N := mX11_saturdays) (d' := 6) (mc := 0) (ms := 0) (As := [.int (xs (i + 1)), .int (xs (i + 2)), .int (xs (i + 3))]) (st := []) C dL_law_946 mX11_saturdays_v lL_130 (ci := 11) rfl rfl hx rfl (by decide) (by decide) trivial (by omega) (by omega) (P_sat hI) rfl (fun v1 h1 G1 q1 => ?_)
  obtain ⟨a, rfl, ⟨fs, hy⟩, q2⟩ := q1
  refine l_aload_n C dL_law_949 1 rfl ?_
  refine l_ld (k := 1) C hL hi (by decide) dL_law_950 dL_law_951 dL_law_952 dL_law_953 dL_law_954 ?_
  refine l_ld (k := 2) C hL hi (by decide) dL_law_955 dL_law_956 dL_law_957 dL_law_958 dL_law_959 ?_
  refine l_ld (k := 3) C hL hi (by decide) dL_law_960 dL_law_961 dL_law_962 dL_law_963 dL_law_964 ?_
  refine l_callV (N := mX12_saturdays) (d' := 9) (mc := 0) (ms := 0) (As := [.int (xs (i + 1)), .int (xs (i + 2)), .int (xs (i + 3))]) (st := [.int a]) C dL_law_965 mX12_saturdays_v lL_133 (ci := 12) rfl rfl hy rfl (by decide) (Nat.le_of_ble_eq_true rfl) trivial (by omega) (by omega) q2 rfl (fun v2 h2 G2 q3 => ?_)
  obtain ⟨rfl, hI2⟩ := q3
  refine l_icmp_eq (tgt := 1042) C dL_law_968 (by decide) (fun _ => ?_) (fun z => absurd rfl z)
  exact next _ _ h2 G2 hI2 (by omega) (by omega)
set_option maxRecDepth 100000 in
set_option maxHeartbeats 4000000 in
theorem law_c29 (hL : L ≤ 3072) (C : lC K p s m meth c b L xs) (hi : i + 6 ≤ L) (hI : LI G h x y) (hc : cells + 17 ≤ 600000) (hs : slots + 887 ≤ 7302250) (next : ∀ cells2 slots2 h2 G2, LI G2 h2 x y → cells2 ≤ cells + 17 → slots2 ≤ slots + 887 → lV K p l e s m below meth c b cells2 slots2 h2 G2 1042 [(3, .int (nI i)), (2, .ref y), (1, .ref x), (0, .ref b)] []) : lV K p l e s m below meth c b cells slots h G 33 [(3, .int (nI i)), (2, .ref y), (1, .ref x), (0, .ref b)] [.int (nI 29)] := by
  obtain ⟨fs0, hx⟩ := hI.cx
  refine l_tableIn (off := 940) (tgt := 973) C dL_law_33 (by decide) (by decide) rfl (by decide) ?_
  refine l_aload_n C dL_law_973 2 rfl ?_
  refine l_ld (k := 1) C hL hi (by decide) dL_law_974 dL_law_975 dL_law_976 dL_law_977 dL_law_978 ?_
  refine l_callV (N := mX11_count) (d' := 1) (mc := 0) (ms := 0) (As := [.int (xs (i + 1))]) (st := []) C dL_law_979 mX11_count_v lL_134 (ci := 11) rfl rfl hx rfl (by decide) (by decide) trivial (by omega) (by omega) (P_count hI) rfl (fun v1 h1 G1 q1 => ?_)
  obtain ⟨a, rfl, ⟨fs, hy⟩, q2⟩ := q1
  refine l_aload_n C dL_law_982 1 rfl ?_
  refine l_ld (k := 1) C hL hi (by decide) dL_law_983 dL_law_984 dL_law_985 dL_law_986 dL_law_987 ?_
  refine l_callV (N := mX12_count) (d' := 1) (mc := 0) (ms := 0) (As := [.int (xs (i + 1))]) (st := [.int a]) C dL_law_988 mX12_count_v lL_137 (ci := 12) rfl rfl hy rfl (by decide) (Nat.le_of_ble_eq_true rfl) trivial (by omega) (by omega) q2 rfl (fun v2 h2 G2 q3 => ?_)
  obtain ⟨rfl, hI2⟩ := q3
  refine l_icmp_eq (tgt := 1042) C dL_law_991 (by decide) (fun _ => ?_) (fun z => absurd rfl z)
  exact next _ _ h2 G2 hI2 (by omega) (by omega)
set_option maxRecDepth 100000 in
set_option maxHeartbeats 4000000 in
theorem law_c30 (hL : L ≤ 3072) (C : lC K p s m meth c b L xs) (hi : i + 6 ≤ L) (hI : LI G h x y) (hc : cells + 17 ≤ 600000) (hs : slots + 887 ≤ 7302250) (next : ∀ cells2 slots2 h2 G2, LI G2 h2 x y → cells2 ≤ cells + 17 → slots2 ≤ slots + 887 → lV K p l e s m below meth c b cells2 slots2 h2 G2 1042 [(3, .int (nI i)), (2, .ref y), (1, .ref x), (0, .ref b)] []) : lV K p l e s m below meth c b cells slots h G 33 [(3, .int (nI i)), (2, .ref y), (1, .ref x), (0, .ref b)] [.int (nI 30)] := by
  obtain ⟨fs0, hx⟩ := hI.cx
  refine l_tableIn (off := 963) (tgt := 996) C dL_law_33 (by decide) (by decide) rfl (by decide) ?_
  refine l_aload_n C dL_law_996 2 rfl ?_
  refine l_ld (k := 1) C hL hi (by decide) dL_law_997 dL_law_998 dL_law_999 dL_law_1000 dL_law_1001 ?_
  refine l_callV (N := mX11_image) (d' := 4) (mc := 17) (ms := 887) (As := [.int (xs (i + 1))]) (st := []) C dL_law_1002 mX11_image_v lL_138 (ci := 11) rfl rfl hx rfl (by decide) (by decide) trivial (by omega) (by omega) (P_image hI) rfl (fun v1 h1 G1 q1 => ?_)
  obtain ⟨a, rfl, ⟨fs, hy⟩, q2⟩ := q1
  refine l_aload_n C dL_law_1005 1 rfl ?_
  refine l_ld (k := 1) C hL hi (by decide) dL_law_1006 dL_law_1007 dL_law_1008 dL_law_1009 dL_law_1010 ?_
  refine l_callV (N := mX12_image) (d' := 2) (mc := 0) (ms := 0) (As := [.int (xs (i + 1))]) (st := [.int a]) C dL_law_1011 mX12_image_v lL_141 (ci := 12) rfl rfl hy rfl (by decide) (Nat.le_of_ble_eq_true rfl) trivial (by omega) (by omega) q2 rfl (fun v2 h2 G2 q3 => ?_)
  obtain ⟨rfl, hI2⟩ := q3
  refine l_icmp_eq (tgt := 1042) C dL_law_1014 (by decide) (fun _ => ?_) (fun z => absurd rfl z)
  exact next _ _ h2 G2 hI2 (by omega) (by omega)
set_option maxRecDepth 100000 in
set_option maxHeartbeats 4000000 in
theorem law_c31 (hL : L ≤ 3072) (C : lC K p s m meth c b L xs) (hi : i + 6 ≤ L) (hI : LI G h x y) (hc : cells + 17 ≤ 600000) (hs : slots + 887 ≤ 7302250) (next : ∀ cells2 slots2 h2 G2, LI G2 h2 x y → cells2 ≤ cells + 17 → slots2 ≤ slots + 887 → lV K p l e s m below meth c b cells2 slots2 h2 G2 1042 [(3, .int (nI i)), (2, .ref y), (1, .ref x), (0, .ref b)] []) : lV K p l e s m below meth c b cells slots h G 33 [(3, .int (nI i)), (2, .ref y), (1, .ref x), (0, .ref b)] [.int (nI 31)] := by
  obtain ⟨fs0, hx⟩ := hI.cx
  refine l_tableIn (off := 986) (tgt := 1019) C dL_law_33 (by decide) (by decide) rfl (by decide) ?_
  refine l_aload_n C dL_law_1019 2 rfl ?_
  refine l_ld (k := 1) C hL hi (by decide) dL_law_1020 dL_law_1021 dL_law_1022 dL_law_1023 dL_law_1024 ?_
  refine l_callV (N := mX11_back) (d' := 4) (mc := 0) (ms := 0) (As := [.int (xs (i + 1))]) (st := []) C dL_law_1025 mX11_back_v lL_142 (ci := 11) rfl rfl hx rfl (by decide) (by decide) trivial (by omega) (by omega) (P_back hI) rfl (fun v1 h1 G1 q1 => ?_)
  obtain ⟨a, rfl, ⟨fs, hy⟩, q2⟩ := q1
  refine l_aload_n C dL_law_1028 1 rfl ?_
  refine l_ld (k := 1) C hL hi (by decide) dL_law_1029 dL_law_1030 dL_law_1031 dL_law_1032 dL_law_1033 ?_
  refine l_callV (N := mX12_back) (d' := 2) (mc := 0) (ms := 0) (As := [.int (xs (i + 1))]) (st := [.int a]) C dL_law_1034 mX12_back_v lL_145 (ci := 12) rfl rfl hy rfl (by decide) (Nat.le_of_ble_eq_true rfl) trivial (by omega) (by omega) q2 rfl (fun v2 h2 G2 q3 => ?_)
  obtain ⟨rfl, hI2⟩ := q3
  refine l_icmp_eq (tgt := 1042) C dL_law_1037 (by decide) (fun _ => ?_) (fun z => absurd rfl z)
  exact next _ _ h2 G2 hI2 (by omega) (by omega)
end LWP
