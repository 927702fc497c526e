/-! the 30 cases of the law: printed by wip/whole/p66.py -/
section LCS
variable {p : Program} {l : Launch} {e : Env} {s : State} {m : MethodId} {below : List Frame} {meth : Method} {c : Code} {H : Heap} {locs : List Loc} {Q : State → Prop}
variable {pc b L : Nat} {xs : Nat → Int32} {ls : Array Slot} {ad adV : Nat → Nat} {tc : Nat → ClassId} {D : va_G} {rest : List Value} {x y : am_X}
set_option maxHeartbeats 2000000 in
theorem lw_c0 {i : Nat} (hL : L ≤ 2048) (C0 : lw_At p s m meth c b L xs) (X0 : lw_Lx D ad adV tc s) (hi : i + 4 ≤ L) (hIv : am_Iv x) (hP : va_P D vwCl (am_W ad tc x) H) (hS : va_S (fun q => s.heap.size ≤ q) s.heap H locs) (hl : lv_has ls 4 (lw_lv b ad i))
    (k : ∀ (z : am_X) (H1 : Heap) (locs1 : List Loc), am_Iv z → va_P D vwCl (am_W ad tc z) H1 → va_S (fun q => s.heap.size ≤ q) s.heap H1 locs1 → W p l e room_1 s m #[Value.ref b] below meth c H1 locs1 45 958 Q (F0 m 980 ls [])) : W p l e room_1 s m #[Value.ref b] below meth c H locs 45 958 Q (F0 m 168 ls []) := by
  have hts := lw_hts C0
  have hx := C0.1
  have hb := C0.2.1
  obtain ⟨r, y, z, g1, g2, g3⟩ := ok_letter (xs (i + 1)) x hIv
  refine lv_aload_n hx hb dL_law_168 rfl (lv_at hl 1 rfl) ?_
  refine lw_arg 1 C0 hL hS hl (by omega) dL_law_169 dL_law_170 dL_law_171 dL_law_172 dL_law_173 rfl ?_
  refine lw_call (M := mX7_letter) (as := [.int (xs (i + 1))]) (bb := 0) (r := .int r) (y := y) (rest := []) C0 X0 hP hS hl.1 (A_X7_letter 0 g1) (by decide) (by decide) (by decide +kernel) (by decide +kernel) (by decide +kernel) (show (am_me mX7_letter).2.2.2.2.2.2.1 = 1 from by decide +kernel) (hts _ (am_tb_in (i := 279) (by decide +kernel) (by decide +kernel))) rfl (Nat.le_of_ble_eq_true rfl) dL_law_174 (fun H locs hP hS => ?_)
  refine lv_aload_n hx hb dL_law_177 rfl (lv_at hl 2 rfl) ?_
  refine lw_arg 1 C0 hL hS hl (by omega) dL_law_178 dL_law_179 dL_law_180 dL_law_181 dL_law_182 rfl ?_
  refine lw_call (M := mX8_letter) (as := [.int (xs (i + 1))]) (bb := 27) (r := .int r) (y := z) (rest := [.int r]) C0 X0 hP hS hl.1 (A_X8_letter 0 g2) (by decide) (by decide) (by decide +kernel) (by decide +kernel) (by decide +kernel) (show (am_me mX8_letter).2.2.2.2.2.2.1 = 1 from by decide +kernel) (hts _ (am_tb_in (i := 983) (by decide +kernel) (by decide +kernel))) rfl (Nat.le_of_ble_eq_true rfl) dL_law_183 (fun H locs hP hS => ?_)
  exact lv_icmp_eq (tgt := 980) hx hb dL_law_186 (by decide) (fun _ => k z H locs g3 hP hS) (fun h => absurd rfl h)
set_option maxHeartbeats 2000000 in
theorem lw_c1 {i : Nat} (hL : L ≤ 2048) (C0 : lw_At p s m meth c b L xs) (X0 : lw_Lx D ad adV tc s) (hi : i + 4 ≤ L) (hIv : am_Iv x) (hP : va_P D vwCl (am_W ad tc x) H) (hS : va_S (fun q => s.heap.size ≤ q) s.heap H locs) (hl : lv_has ls 4 (lw_lv b ad i))
    (k : ∀ (z : am_X) (H1 : Heap) (locs1 : List Loc), am_Iv z → va_P D vwCl (am_W ad tc z) H1 → va_S (fun q => s.heap.size ≤ q) s.heap H1 locs1 → W p l e room_1 s m #[Value.ref b] below meth c H1 locs1 45 958 Q (F0 m 980 ls [])) : W p l e room_1 s m #[Value.ref b] below meth c H locs 45 958 Q (F0 m 191 ls []) := by
  have hts := lw_hts C0
  have hx := C0.1
  have hb := C0.2.1
  obtain ⟨r, y, z, g1, g2, g3⟩ := ok_garden x hIv
  refine lv_aload_n hx hb dL_law_191 rfl (lv_at hl 1 rfl) ?_
  refine lw_call (M := mX7_garden) (as := []) (bb := 0) (r := .int r) (y := y) (rest := []) C0 X0 hP hS hl.1 (A_X7_garden 0 g1) (by decide) (by decide) (by decide +kernel) (by decide +kernel) (by decide +kernel) (show (am_me mX7_garden).2.2.2.2.2.2.1 = 0 from by decide +kernel) (hts _ (am_tb_in (i := 295) (by decide +kernel) (by decide +kernel))) rfl (Nat.le_of_ble_eq_true rfl) dL_law_192 (fun H locs hP hS => ?_)
  refine lv_aload_n hx hb dL_law_195 rfl (lv_at hl 2 rfl) ?_
  refine lw_call (M := mX8_garden) (as := []) (bb := 27) (r := .int r) (y := z) (rest := [.int r]) C0 X0 hP hS hl.1 (A_X8_garden 0 g2) (by decide) (by decide) (by decide +kernel) (by decide +kernel) (by decide +kernel) (show (am_me mX8_garden).2.2.2.2.2.2.1 = 0 from by decide +kernel) (hts _ (am_tb_in (i := 987) (by decide +kernel) (by decide +kernel))) rfl (Nat.le_of_ble_eq_true rfl) dL_law_196 (fun H locs hP hS => ?_)
  exact lv_icmp_eq (tgt := 980) hx hb dL_law_199 (by decide) (fun _ => k z H locs g3 hP hS) (fun h => absurd rfl h)
set_option maxHeartbeats 2000000 in
theorem lw_c2 {i : Nat} (hL : L ≤ 2048) (C0 : lw_At p s m meth c b L xs) (X0 : lw_Lx D ad adV tc s) (hi : i + 4 ≤ L) (hIv : am_Iv x) (hP : va_P D vwCl (am_W ad tc x) H) (hS : va_S (fun q => s.heap.size ≤ q) s.heap H locs) (hl : lv_has ls 4 (lw_lv b ad i))
    (k : ∀ (z : am_X) (H1 : Heap) (locs1 : List Loc), am_Iv z → va_P D vwCl (am_W ad tc z) H1 → va_S (fun q => s.heap.size ≤ q) s.heap H1 locs1 → W p l e room_1 s m #[Value.ref b] below meth c H1 locs1 45 958 Q (F0 m 980 ls [])) : W p l e room_1 s m #[Value.ref b] below meth c H locs 45 958 Q (F0 m 204 ls []) := by
  have hts := lw_hts C0
  have hx := C0.1
  have hb := C0.2.1
  obtain ⟨r, y, z, g1, g2, g3⟩ := ok_square (xs (i + 1)) (xs (i + 2)) x hIv
  refine lv_aload_n hx hb dL_law_204 rfl (lv_at hl 1 rfl) ?_
  refine lw_arg 1 C0 hL hS hl (by omega) dL_law_205 dL_law_206 dL_law_207 dL_law_208 dL_law_209 rfl ?_
  refine lw_arg 2 C0 hL hS hl (by omega) dL_law_210 dL_law_211 dL_law_212 dL_law_213 dL_law_214 rfl ?_
  refine lw_call (M := mX7_square) (as := [.int (xs (i + 1)), .int (xs (i + 2))]) (bb := 0) (r := .int r) (y := y) (rest := []) C0 X0 hP hS hl.1 (A_X7_square 0 g1) (by decide) (by decide) (by decide +kernel) (by decide +kernel) (by decide +kernel) (show (am_me mX7_square).2.2.2.2.2.2.1 = 2 from by decide +kernel) (hts _ (am_tb_in (i := 497) (by decide +kernel) (by decide +kernel))) rfl (Nat.le_of_ble_eq_true rfl) dL_law_215 (fun H locs hP hS => ?_)
  refine lv_aload_n hx hb dL_law_218 rfl (lv_at hl 2 rfl) ?_
  refine lw_arg 1 C0 hL hS hl (by omega) dL_law_219 dL_law_220 dL_law_221 dL_law_222 dL_law_223 rfl ?_
  refine lw_arg 2 C0 hL hS hl (by omega) dL_law_224 dL_law_225 dL_law_226 dL_law_227 dL_law_228 rfl ?_
  refine lw_call (M := mX8_square) (as := [.int (xs (i + 1)), .int (xs (i + 2))]) (bb := 27) (r := .int r) (y := z) (rest := [.int r]) C0 X0 hP hS hl.1 (A_X8_square 0 g2) (by decide) (by decide) (by decide +kernel) (by decide +kernel) (by decide +kernel) (show (am_me mX8_square).2.2.2.2.2.2.1 = 2 from by decide +kernel) (hts _ (am_tb_in (i := 1015) (by decide +kernel) (by decide +kernel))) rfl (Nat.le_of_ble_eq_true rfl) dL_law_229 (fun H locs hP hS => ?_)
  exact lv_icmp_eq (tgt := 980) hx hb dL_law_232 (by decide) (fun _ => k z H locs g3 hP hS) (fun h => absurd rfl h)
set_option maxHeartbeats 2000000 in
theorem lw_c3 {i : Nat} (hL : L ≤ 2048) (C0 : lw_At p s m meth c b L xs) (X0 : lw_Lx D ad adV tc s) (hi : i + 4 ≤ L) (hIv : am_Iv x) (hP : va_P D vwCl (am_W ad tc x) H) (hS : va_S (fun q => s.heap.size ≤ q) s.heap H locs) (hl : lv_has ls 4 (lw_lv b ad i))
    (k : ∀ (z : am_X) (H1 : Heap) (locs1 : List Loc), am_Iv z → va_P D vwCl (am_W ad tc z) H1 → va_S (fun q => s.heap.size ≤ q) s.heap H1 locs1 → W p l e room_1 s m #[Value.ref b] below meth c H1 locs1 45 958 Q (F0 m 980 ls [])) : W p l e room_1 s m #[Value.ref b] below meth c H locs 45 958 Q (F0 m 237 ls []) := by
  have hts := lw_hts C0
  have hx := C0.1
  have hb := C0.2.1
  obtain ⟨r, y, z, g1, g2, g3⟩ := ok_turnTo (xs (i + 1)) (xs (i + 2)) x hIv
  refine lv_aload_n hx hb dL_law_237 rfl (lv_at hl 1 rfl) ?_
  refine lw_arg 1 C0 hL hS hl (by omega) dL_law_238 dL_law_239 dL_law_240 dL_law_241 dL_law_242 rfl ?_
  refine lw_arg 2 C0 hL hS hl (by omega) dL_law_243 dL_law_244 dL_law_245 dL_law_246 dL_law_247 rfl ?_
  refine lw_call (M := mX7_turnTo) (as := [.int (xs (i + 1)), .int (xs (i + 2))]) (bb := 0) (r := .int r) (y := y) (rest := []) C0 X0 hP hS hl.1 (A_X7_turnTo 0 g1) (by decide) (by decide) (by decide +kernel) (by decide +kernel) (by decide +kernel) (show (am_me mX7_turnTo).2.2.2.2.2.2.1 = 2 from by decide +kernel) (hts _ (am_tb_in (i := 519) (by decide +kernel) (by decide +kernel))) rfl (Nat.le_of_ble_eq_true rfl) dL_law_248 (fun H locs hP hS => ?_)
  refine lv_aload_n hx hb dL_law_251 rfl (lv_at hl 2 rfl) ?_
  refine lw_arg 1 C0 hL hS hl (by omega) dL_law_252 dL_law_253 dL_law_254 dL_law_255 dL_law_256 rfl ?_
  refine lw_arg 2 C0 hL hS hl (by omega) dL_law_257 dL_law_258 dL_law_259 dL_law_260 dL_law_261 rfl ?_
  refine lw_call (M := mX8_turnTo) (as := [.int (xs (i + 1)), .int (xs (i + 2))]) (bb := 27) (r := .int r) (y := z) (rest := [.int r]) C0 X0 hP hS hl.1 (A_X8_turnTo 0 g2) (by decide) (by decide) (by decide +kernel) (by decide +kernel) (by decide +kernel) (show (am_me mX8_turnTo).2.2.2.2.2.2.1 = 2 from by decide +kernel) (hts _ (am_tb_in (i := 1026) (by decide +kernel) (by decide +kernel))) rfl (Nat.le_of_ble_eq_true rfl) dL_law_262 (fun H locs hP hS => ?_)
  exact lv_icmp_eq (tgt := 980) hx hb dL_law_265 (by decide) (fun _ => k z H locs g3 hP hS) (fun h => absurd rfl h)
set_option maxHeartbeats 2000000 in
theorem lw_c4 {i : Nat} (hL : L ≤ 2048) (C0 : lw_At p s m meth c b L xs) (X0 : lw_Lx D ad adV tc s) (hi : i + 4 ≤ L) (hIv : am_Iv x) (hP : va_P D vwCl (am_W ad tc x) H) (hS : va_S (fun q => s.heap.size ≤ q) s.heap H locs) (hl : lv_has ls 4 (lw_lv b ad i))
    (k : ∀ (z : am_X) (H1 : Heap) (locs1 : List Loc), am_Iv z → va_P D vwCl (am_W ad tc z) H1 → va_S (fun q => s.heap.size ≤ q) s.heap H1 locs1 → W p l e room_1 s m #[Value.ref b] below meth c H1 locs1 45 958 Q (F0 m 980 ls [])) : W p l e room_1 s m #[Value.ref b] below meth c H locs 45 958 Q (F0 m 270 ls []) := by
  have hts := lw_hts C0
  have hx := C0.1
  have hb := C0.2.1
  obtain ⟨r, y, z, g1, g2, g3⟩ := ok_set (xs (i + 1)) (xs (i + 2)) x hIv
  refine lv_aload_n hx hb dL_law_270 rfl (lv_at hl 1 rfl) ?_
  refine lw_arg 1 C0 hL hS hl (by omega) dL_law_271 dL_law_272 dL_law_273 dL_law_274 dL_law_275 rfl ?_
  refine lw_arg 2 C0 hL hS hl (by omega) dL_law_276 dL_law_277 dL_law_278 dL_law_279 dL_law_280 rfl ?_
  refine lw_call (M := mX7_set) (as := [.int (xs (i + 1)), .int (xs (i + 2))]) (bb := 0) (r := .int r) (y := y) (rest := []) C0 X0 hP hS hl.1 (A_X7_set 0 g1) (by decide) (by decide) (by decide +kernel) (by decide +kernel) (by decide +kernel) (show (am_me mX7_set).2.2.2.2.2.2.1 = 2 from by decide +kernel) (hts _ (am_tb_in (i := 524) (by decide +kernel) (by decide +kernel))) rfl (Nat.le_of_ble_eq_true rfl) dL_law_281 (fun H locs hP hS => ?_)
  refine lv_aload_n hx hb dL_law_284 rfl (lv_at hl 2 rfl) ?_
  refine lw_arg 1 C0 hL hS hl (by omega) dL_law_285 dL_law_286 dL_law_287 dL_law_288 dL_law_289 rfl ?_
  refine lw_arg 2 C0 hL hS hl (by omega) dL_law_290 dL_law_291 dL_law_292 dL_law_293 dL_law_294 rfl ?_
  refine lw_call (M := mX8_set) (as := [.int (xs (i + 1)), .int (xs (i + 2))]) (bb := 27) (r := .int r) (y := z) (rest := [.int r]) C0 X0 hP hS hl.1 (A_X8_set 0 g2) (by decide) (by decide) (by decide +kernel) (by decide +kernel) (by decide +kernel) (show (am_me mX8_set).2.2.2.2.2.2.1 = 2 from by decide +kernel) (hts _ (am_tb_in (i := 1030) (by decide +kernel) (by decide +kernel))) rfl (Nat.le_of_ble_eq_true rfl) dL_law_295 (fun H locs hP hS => ?_)
  exact lv_icmp_eq (tgt := 980) hx hb dL_law_298 (by decide) (fun _ => k z H locs g3 hP hS) (fun h => absurd rfl h)
set_option maxHeartbeats 2000000 in
theorem lw_c5 {i : Nat} (hL : L ≤ 2048) (C0 : lw_At p s m meth c b L xs) (X0 : lw_Lx D ad adV tc s) (hi : i + 4 ≤ L) (hIv : am_Iv x) (hP : va_P D vwCl (am_W ad tc x) H) (hS : va_S (fun q => s.heap.size ≤ q) s.heap H locs) (hl : lv_has ls 4 (lw_lv b ad i))
    (k : ∀ (z : am_X) (H1 : Heap) (locs1 : List Loc), am_Iv z → va_P D vwCl (am_W ad tc z) H1 → va_S (fun q => s.heap.size ≤ q) s.heap H1 locs1 → W p l e room_1 s m #[Value.ref b] below meth c H1 locs1 45 958 Q (F0 m 980 ls [])) : W p l e room_1 s m #[Value.ref b] below meth c H locs 45 958 Q (F0 m 303 ls []) := by
  have hts := lw_hts C0
  have hx := C0.1
  have hb := C0.2.1
  obtain ⟨r, y, z, g1, g2, g3⟩ := ok_seeker (xs (i + 1)) (xs (i + 2)) x hIv
  refine lv_aload_n hx hb dL_law_303 rfl (lv_at hl 1 rfl) ?_
  refine lw_arg 1 C0 hL hS hl (by omega) dL_law_304 dL_law_305 dL_law_306 dL_law_307 dL_law_308 rfl ?_
  refine lw_arg 2 C0 hL hS hl (by omega) dL_law_309 dL_law_310 dL_law_311 dL_law_312 dL_law_313 rfl ?_
  refine lw_call (M := mX7_seeker) (as := [.int (xs (i + 1)), .int (xs (i + 2))]) (bb := 0) (r := .int r) (y := y) (rest := []) C0 X0 hP hS hl.1 (A_X7_seeker 0 g1) (by decide) (by decide) (by decide +kernel) (by decide +kernel) (by decide +kernel) (show (am_me mX7_seeker).2.2.2.2.2.2.1 = 2 from by decide +kernel) (hts _ (am_tb_in (i := 543) (by decide +kernel) (by decide +kernel))) rfl (Nat.le_of_ble_eq_true rfl) dL_law_314 (fun H locs hP hS => ?_)
  refine lv_aload_n hx hb dL_law_317 rfl (lv_at hl 2 rfl) ?_
  refine lw_arg 1 C0 hL hS hl (by omega) dL_law_318 dL_law_319 dL_law_320 dL_law_321 dL_law_322 rfl ?_
  refine lw_arg 2 C0 hL hS hl (by omega) dL_law_323 dL_law_324 dL_law_325 dL_law_326 dL_law_327 rfl ?_
  refine lw_call (M := mX8_seeker) (as := [.int (xs (i + 1)), .int (xs (i + 2))]) (bb := 27) (r := .int r) (y := z) (rest := [.int r]) C0 X0 hP hS hl.1 (A_X8_seeker 0 g2) (by decide) (by decide) (by decide +kernel) (by decide +kernel) (by decide +kernel) (show (am_me mX8_seeker).2.2.2.2.2.2.1 = 2 from by decide +kernel) (hts _ (am_tb_in (i := 1034) (by decide +kernel) (by decide +kernel))) rfl (Nat.le_of_ble_eq_true rfl) dL_law_328 (fun H locs hP hS => ?_)
  exact lv_icmp_eq (tgt := 980) hx hb dL_law_331 (by decide) (fun _ => k z H locs g3 hP hS) (fun h => absurd rfl h)
set_option maxHeartbeats 2000000 in
theorem lw_c6 {i : Nat} (hL : L ≤ 2048) (C0 : lw_At p s m meth c b L xs) (X0 : lw_Lx D ad adV tc s) (hi : i + 4 ≤ L) (hIv : am_Iv x) (hP : va_P D vwCl (am_W ad tc x) H) (hS : va_S (fun q => s.heap.size ≤ q) s.heap H locs) (hl : lv_has ls 4 (lw_lv b ad i))
    (k : ∀ (z : am_X) (H1 : Heap) (locs1 : List Loc), am_Iv z → va_P D vwCl (am_W ad tc z) H1 → va_S (fun q => s.heap.size ≤ q) s.heap H1 locs1 → W p l e room_1 s m #[Value.ref b] below meth c H1 locs1 45 958 Q (F0 m 980 ls [])) : W p l e room_1 s m #[Value.ref b] below meth c H locs 45 958 Q (F0 m 336 ls []) := by
  have hts := lw_hts C0
  have hx := C0.1
  have hb := C0.2.1
  obtain ⟨r, y, z, g1, g2, g3⟩ := ok_stand (xs (i + 1)) (xs (i + 2)) x hIv
  refine lv_aload_n hx hb dL_law_336 rfl (lv_at hl 1 rfl) ?_
  refine lw_arg 1 C0 hL hS hl (by omega) dL_law_337 dL_law_338 dL_law_339 dL_law_340 dL_law_341 rfl ?_
  refine lw_arg 2 C0 hL hS hl (by omega) dL_law_342 dL_law_343 dL_law_344 dL_law_345 dL_law_346 rfl ?_
  refine lw_call (M := mX7_stand) (as := [.int (xs (i + 1)), .int (xs (i + 2))]) (bb := 0) (r := .int r) (y := y) (rest := []) C0 X0 hP hS hl.1 (A_X7_stand 0 g1) (by decide) (by decide) (by decide +kernel) (by decide +kernel) (by decide +kernel) (show (am_me mX7_stand).2.2.2.2.2.2.1 = 2 from by decide +kernel) (hts _ (am_tb_in (i := 560) (by decide +kernel) (by decide +kernel))) rfl (Nat.le_of_ble_eq_true rfl) dL_law_347 (fun H locs hP hS => ?_)
  refine lv_aload_n hx hb dL_law_350 rfl (lv_at hl 2 rfl) ?_
  refine lw_arg 1 C0 hL hS hl (by omega) dL_law_351 dL_law_352 dL_law_353 dL_law_354 dL_law_355 rfl ?_
  refine lw_arg 2 C0 hL hS hl (by omega) dL_law_356 dL_law_357 dL_law_358 dL_law_359 dL_law_360 rfl ?_
  refine lw_call (M := mX8_stand) (as := [.int (xs (i + 1)), .int (xs (i + 2))]) (bb := 27) (r := .int r) (y := z) (rest := [.int r]) C0 X0 hP hS hl.1 (A_X8_stand 0 g2) (by decide) (by decide) (by decide +kernel) (by decide +kernel) (by decide +kernel) (show (am_me mX8_stand).2.2.2.2.2.2.1 = 2 from by decide +kernel) (hts _ (am_tb_in (i := 1042) (by decide +kernel) (by decide +kernel))) rfl (Nat.le_of_ble_eq_true rfl) dL_law_361 (fun H locs hP hS => ?_)
  exact lv_icmp_eq (tgt := 980) hx hb dL_law_364 (by decide) (fun _ => k z H locs g3 hP hS) (fun h => absurd rfl h)
set_option maxHeartbeats 2000000 in
theorem lw_c7 {i : Nat} (hL : L ≤ 2048) (C0 : lw_At p s m meth c b L xs) (X0 : lw_Lx D ad adV tc s) (hi : i + 4 ≤ L) (hIv : am_Iv x) (hP : va_P D vwCl (am_W ad tc x) H) (hS : va_S (fun q => s.heap.size ≤ q) s.heap H locs) (hl : lv_has ls 4 (lw_lv b ad i))
    (k : ∀ (z : am_X) (H1 : Heap) (locs1 : List Loc), am_Iv z → va_P D vwCl (am_W ad tc z) H1 → va_S (fun q => s.heap.size ≤ q) s.heap H1 locs1 → W p l e room_1 s m #[Value.ref b] below meth c H1 locs1 45 958 Q (F0 m 980 ls [])) : W p l e room_1 s m #[Value.ref b] below meth c H locs 45 958 Q (F0 m 369 ls []) := by
  have hts := lw_hts C0
  have hx := C0.1
  have hb := C0.2.1
  obtain ⟨r, y, z, g1, g2, g3⟩ := ok_steps (xs (i + 1)) x hIv
  refine lv_aload_n hx hb dL_law_369 rfl (lv_at hl 1 rfl) ?_
  refine lw_arg 1 C0 hL hS hl (by omega) dL_law_370 dL_law_371 dL_law_372 dL_law_373 dL_law_374 rfl ?_
  refine lw_call (M := mX7_steps) (as := [.int (xs (i + 1))]) (bb := 0) (r := .int r) (y := y) (rest := []) C0 X0 hP hS hl.1 (A_X7_steps 0 g1) (by decide) (by decide) (by decide +kernel) (by decide +kernel) (by decide +kernel) (show (am_me mX7_steps).2.2.2.2.2.2.1 = 1 from by decide +kernel) (hts _ (am_tb_in (i := 568) (by decide +kernel) (by decide +kernel))) rfl (Nat.le_of_ble_eq_true rfl) dL_law_375 (fun H locs hP hS => ?_)
  refine lv_aload_n hx hb dL_law_378 rfl (lv_at hl 2 rfl) ?_
  refine lw_arg 1 C0 hL hS hl (by omega) dL_law_379 dL_law_380 dL_law_381 dL_law_382 dL_law_383 rfl ?_
  refine lw_call (M := mX8_steps) (as := [.int (xs (i + 1))]) (bb := 27) (r := .int r) (y := z) (rest := [.int r]) C0 X0 hP hS hl.1 (A_X8_steps 0 g2) (by decide) (by decide) (by decide +kernel) (by decide +kernel) (by decide +kernel) (show (am_me mX8_steps).2.2.2.2.2.2.1 = 1 from by decide +kernel) (hts _ (am_tb_in (i := 1046) (by decide +kernel) (by decide +kernel))) rfl (Nat.le_of_ble_eq_true rfl) dL_law_384 (fun H locs hP hS => ?_)
  exact lv_icmp_eq (tgt := 980) hx hb dL_law_387 (by decide) (fun _ => k z H locs g3 hP hS) (fun h => absurd rfl h)
set_option maxHeartbeats 2000000 in
theorem lw_c8 {i : Nat} (hL : L ≤ 2048) (C0 : lw_At p s m meth c b L xs) (X0 : lw_Lx D ad adV tc s) (hi : i + 4 ≤ L) (hIv : am_Iv x) (hP : va_P D vwCl (am_W ad tc x) H) (hS : va_S (fun q => s.heap.size ≤ q) s.heap H locs) (hl : lv_has ls 4 (lw_lv b ad i))
    (k : ∀ (z : am_X) (H1 : Heap) (locs1 : List Loc), am_Iv z → va_P D vwCl (am_W ad tc z) H1 → va_S (fun q => s.heap.size ≤ q) s.heap H1 locs1 → W p l e room_1 s m #[Value.ref b] below meth c H1 locs1 45 958 Q (F0 m 980 ls [])) : W p l e room_1 s m #[Value.ref b] below meth c H locs 45 958 Q (F0 m 392 ls []) := by
  have hts := lw_hts C0
  have hx := C0.1
  have hb := C0.2.1
  obtain ⟨r, y, z, g1, g2, g3⟩ := ok_mayBe (xs (i + 1)) (xs (i + 2)) x hIv
  refine lv_aload_n hx hb dL_law_392 rfl (lv_at hl 1 rfl) ?_
  refine lw_arg 1 C0 hL hS hl (by omega) dL_law_393 dL_law_394 dL_law_395 dL_law_396 dL_law_397 rfl ?_
  refine lw_arg 2 C0 hL hS hl (by omega) dL_law_398 dL_law_399 dL_law_400 dL_law_401 dL_law_402 rfl ?_
  refine lw_call (M := mX7_mayBe) (as := [.int (xs (i + 1)), .int (xs (i + 2))]) (bb := 0) (r := .int r) (y := y) (rest := []) C0 X0 hP hS hl.1 (A_X7_mayBe 0 g1) (by decide) (by decide) (by decide +kernel) (by decide +kernel) (by decide +kernel) (show (am_me mX7_mayBe).2.2.2.2.2.2.1 = 2 from by decide +kernel) (hts _ (am_tb_in (i := 598) (by decide +kernel) (by decide +kernel))) rfl (Nat.le_of_ble_eq_true rfl) dL_law_403 (fun H locs hP hS => ?_)
  refine lv_aload_n hx hb dL_law_406 rfl (lv_at hl 2 rfl) ?_
  refine lw_arg 1 C0 hL hS hl (by omega) dL_law_407 dL_law_408 dL_law_409 dL_law_410 dL_law_411 rfl ?_
  refine lw_arg 2 C0 hL hS hl (by omega) dL_law_412 dL_law_413 dL_law_414 dL_law_415 dL_law_416 rfl ?_
  refine lw_call (M := mX8_mayBe) (as := [.int (xs (i + 1)), .int (xs (i + 2))]) (bb := 27) (r := .int r) (y := z) (rest := [.int r]) C0 X0 hP hS hl.1 (A_X8_mayBe 0 g2) (by decide) (by decide) (by decide +kernel) (by decide +kernel) (by decide +kernel) (show (am_me mX8_mayBe).2.2.2.2.2.2.1 = 2 from by decide +kernel) (hts _ (am_tb_in (i := 1062) (by decide +kernel) (by decide +kernel))) rfl (Nat.le_of_ble_eq_true rfl) dL_law_417 (fun H locs hP hS => ?_)
  exact lv_icmp_eq (tgt := 980) hx hb dL_law_420 (by decide) (fun _ => k z H locs g3 hP hS) (fun h => absurd rfl h)
set_option maxHeartbeats 2000000 in
theorem lw_c9 {i : Nat} (hL : L ≤ 2048) (C0 : lw_At p s m meth c b L xs) (X0 : lw_Lx D ad adV tc s) (hi : i + 4 ≤ L) (hIv : am_Iv x) (hP : va_P D vwCl (am_W ad tc x) H) (hS : va_S (fun q => s.heap.size ≤ q) s.heap H locs) (hl : lv_has ls 4 (lw_lv b ad i))
    (k : ∀ (z : am_X) (H1 : Heap) (locs1 : List Loc), am_Iv z → va_P D vwCl (am_W ad tc z) H1 → va_S (fun q => s.heap.size ≤ q) s.heap H1 locs1 → W p l e room_1 s m #[Value.ref b] below meth c H1 locs1 45 958 Q (F0 m 980 ls [])) : W p l e room_1 s m #[Value.ref b] below meth c H locs 45 958 Q (F0 m 425 ls []) := by
  have hts := lw_hts C0
  have hx := C0.1
  have hb := C0.2.1
  obtain ⟨r, y, z, g1, g2, g3⟩ := ok_out (xs (i + 1)) x hIv
  refine lv_aload_n hx hb dL_law_425 rfl (lv_at hl 1 rfl) ?_
  refine lw_arg 1 C0 hL hS hl (by omega) dL_law_426 dL_law_427 dL_law_428 dL_law_429 dL_law_430 rfl ?_
  refine lw_call (M := mX7_out) (as := [.int (xs (i + 1))]) (bb := 0) (r := .int r) (y := y) (rest := []) C0 X0 hP hS hl.1 (A_X7_out 0 g1) (by decide) (by decide) (by decide +kernel) (by decide +kernel) (by decide +kernel) (show (am_me mX7_out).2.2.2.2.2.2.1 = 1 from by decide +kernel) (hts _ (am_tb_in (i := 616) (by decide +kernel) (by decide +kernel))) rfl (Nat.le_of_ble_eq_true rfl) dL_law_431 (fun H locs hP hS => ?_)
  refine lv_aload_n hx hb dL_law_434 rfl (lv_at hl 2 rfl) ?_
  refine lw_arg 1 C0 hL hS hl (by omega) dL_law_435 dL_law_436 dL_law_437 dL_law_438 dL_law_439 rfl ?_
  refine lw_call (M := mX8_out) (as := [.int (xs (i + 1))]) (bb := 27) (r := .int r) (y := z) (rest := [.int r]) C0 X0 hP hS hl.1 (A_X8_out 0 g2) (by decide) (by decide) (by decide +kernel) (by decide +kernel) (by decide +kernel) (show (am_me mX8_out).2.2.2.2.2.2.1 = 1 from by decide +kernel) (hts _ (am_tb_in (i := 1074) (by decide +kernel) (by decide +kernel))) rfl (Nat.le_of_ble_eq_true rfl) dL_law_440 (fun H locs hP hS => ?_)
  exact lv_icmp_eq (tgt := 980) hx hb dL_law_443 (by decide) (fun _ => k z H locs g3 hP hS) (fun h => absurd rfl h)
set_option maxHeartbeats 2000000 in
theorem lw_c10 {i : Nat} (hL : L ≤ 2048) (C0 : lw_At p s m meth c b L xs) (X0 : lw_Lx D ad adV tc s) (hi : i + 4 ≤ L) (hIv : am_Iv x) (hP : va_P D vwCl (am_W ad tc x) H) (hS : va_S (fun q => s.heap.size ≤ q) s.heap H locs) (hl : lv_has ls 4 (lw_lv b ad i))
    (k : ∀ (z : am_X) (H1 : Heap) (locs1 : List Loc), am_Iv z → va_P D vwCl (am_W ad tc z) H1 → va_S (fun q => s.heap.size ≤ q) s.heap H1 locs1 → W p l e room_1 s m #[Value.ref b] below meth c H1 locs1 45 958 Q (F0 m 980 ls [])) : W p l e room_1 s m #[Value.ref b] below meth c H locs 45 958 Q (F0 m 448 ls []) := by
  have hts := lw_hts C0
  have hx := C0.1
  have hb := C0.2.1
  obtain ⟨r, y, z, g1, g2, g3⟩ := ok_shut x hIv
  refine lv_aload_n hx hb dL_law_448 rfl (lv_at hl 1 rfl) ?_
  refine lw_call (M := mX7_shut) (as := []) (bb := 0) (r := .int r) (y := y) (rest := []) C0 X0 hP hS hl.1 (A_X7_shut 0 g1) (by decide) (by decide) (by decide +kernel) (by decide +kernel) (by decide +kernel) (show (am_me mX7_shut).2.2.2.2.2.2.1 = 0 from by decide +kernel) (hts _ (am_tb_in (i := 625) (by decide +kernel) (by decide +kernel))) rfl (Nat.le_of_ble_eq_true rfl) dL_law_449 (fun H locs hP hS => ?_)
  refine lv_aload_n hx hb dL_law_452 rfl (lv_at hl 2 rfl) ?_
  refine lw_call (M := mX8_shut) (as := []) (bb := 27) (r := .int r) (y := z) (rest := [.int r]) C0 X0 hP hS hl.1 (A_X8_shut 0 g2) (by decide) (by decide) (by decide +kernel) (by decide +kernel) (by decide +kernel) (show (am_me mX8_shut).2.2.2.2.2.2.1 = 0 from by decide +kernel) (hts _ (am_tb_in (i := 1083) (by decide +kernel) (by decide +kernel))) rfl (Nat.le_of_ble_eq_true rfl) dL_law_453 (fun H locs hP hS => ?_)
  exact lv_icmp_eq (tgt := 980) hx hb dL_law_456 (by decide) (fun _ => k z H locs g3 hP hS) (fun h => absurd rfl h)
set_option maxHeartbeats 2000000 in
theorem lw_c11 {i : Nat} (hL : L ≤ 2048) (C0 : lw_At p s m meth c b L xs) (X0 : lw_Lx D ad adV tc s) (hi : i + 4 ≤ L) (hIv : am_Iv x) (hP : va_P D vwCl (am_W ad tc x) H) (hS : va_S (fun q => s.heap.size ≤ q) s.heap H locs) (hl : lv_has ls 4 (lw_lv b ad i))
    (k : ∀ (z : am_X) (H1 : Heap) (locs1 : List Loc), am_Iv z → va_P D vwCl (am_W ad tc z) H1 → va_S (fun q => s.heap.size ≤ q) s.heap H1 locs1 → W p l e room_1 s m #[Value.ref b] below meth c H1 locs1 45 958 Q (F0 m 980 ls [])) : W p l e room_1 s m #[Value.ref b] below meth c H locs 45 958 Q (F0 m 461 ls []) := by
  have hts := lw_hts C0
  have hx := C0.1
  have hb := C0.2.1
  obtain ⟨r, y, z, g1, g2, g3⟩ := ok_firstGap x hIv
  refine lv_aload_n hx hb dL_law_461 rfl (lv_at hl 1 rfl) ?_
  refine lw_call (M := mX7_firstGap) (as := []) (bb := 0) (r := .int r) (y := y) (rest := []) C0 X0 hP hS hl.1 (A_X7_firstGap 0 g1) (by decide) (by decide) (by decide +kernel) (by decide +kernel) (by decide +kernel) (show (am_me mX7_firstGap).2.2.2.2.2.2.1 = 0 from by decide +kernel) (hts _ (am_tb_in (i := 649) (by decide +kernel) (by decide +kernel))) rfl (Nat.le_of_ble_eq_true rfl) dL_law_462 (fun H locs hP hS => ?_)
  refine lv_aload_n hx hb dL_law_465 rfl (lv_at hl 2 rfl) ?_
  refine lw_call (M := mX8_firstGap) (as := []) (bb := 27) (r := .int r) (y := z) (rest := [.int r]) C0 X0 hP hS hl.1 (A_X8_firstGap 0 g2) (by decide) (by decide) (by decide +kernel) (by decide +kernel) (by decide +kernel) (show (am_me mX8_firstGap).2.2.2.2.2.2.1 = 0 from by decide +kernel) (hts _ (am_tb_in (i := 1091) (by decide +kernel) (by decide +kernel))) rfl (Nat.le_of_ble_eq_true rfl) dL_law_466 (fun H locs hP hS => ?_)
  exact lv_icmp_eq (tgt := 980) hx hb dL_law_469 (by decide) (fun _ => k z H locs g3 hP hS) (fun h => absurd rfl h)
set_option maxHeartbeats 2000000 in
theorem lw_c12 {i : Nat} (hL : L ≤ 2048) (C0 : lw_At p s m meth c b L xs) (X0 : lw_Lx D ad adV tc s) (hi : i + 4 ≤ L) (hIv : am_Iv x) (hP : va_P D vwCl (am_W ad tc x) H) (hS : va_S (fun q => s.heap.size ≤ q) s.heap H locs) (hl : lv_has ls 4 (lw_lv b ad i))
    (k : ∀ (z : am_X) (H1 : Heap) (locs1 : List Loc), am_Iv z → va_P D vwCl (am_W ad tc z) H1 → va_S (fun q => s.heap.size ≤ q) s.heap H1 locs1 → W p l e room_1 s m #[Value.ref b] below meth c H1 locs1 45 958 Q (F0 m 980 ls [])) : W p l e room_1 s m #[Value.ref b] below meth c H locs 45 958 Q (F0 m 474 ls []) := by
  have hts := lw_hts C0
  have hx := C0.1
  have hb := C0.2.1
  obtain ⟨r, y, z, g1, g2, g3⟩ := ok_search (xs (i + 1)) (xs (i + 2)) x hIv
  refine lv_aload_n hx hb dL_law_474 rfl (lv_at hl 1 rfl) ?_
  refine lw_arg 1 C0 hL hS hl (by omega) dL_law_475 dL_law_476 dL_law_477 dL_law_478 dL_law_479 rfl ?_
  refine lw_arg 2 C0 hL hS hl (by omega) dL_law_480 dL_law_481 dL_law_482 dL_law_483 dL_law_484 rfl ?_
  refine lw_call (M := mX7_search) (as := [.int (xs (i + 1)), .int (xs (i + 2))]) (bb := 0) (r := .int r) (y := y) (rest := []) C0 X0 hP hS hl.1 (A_X7_search 0 g1) (by decide) (by decide) (by decide +kernel) (by decide +kernel) (by decide +kernel) (show (am_me mX7_search).2.2.2.2.2.2.1 = 2 from by decide +kernel) (hts _ (am_tb_in (i := 654) (by decide +kernel) (by decide +kernel))) rfl (Nat.le_of_ble_eq_true rfl) dL_law_485 (fun H locs hP hS => ?_)
  refine lv_aload_n hx hb dL_law_488 rfl (lv_at hl 2 rfl) ?_
  refine lw_arg 1 C0 hL hS hl (by omega) dL_law_489 dL_law_490 dL_law_491 dL_law_492 dL_law_493 rfl ?_
  refine lw_arg 2 C0 hL hS hl (by omega) dL_law_494 dL_law_495 dL_law_496 dL_law_497 dL_law_498 rfl ?_
  refine lw_call (M := mX8_search) (as := [.int (xs (i + 1)), .int (xs (i + 2))]) (bb := 27) (r := .int r) (y := z) (rest := [.int r]) C0 X0 hP hS hl.1 (A_X8_search 0 g2) (by decide) (by decide) (by decide +kernel) (by decide +kernel) (by decide +kernel) (show (am_me mX8_search).2.2.2.2.2.2.1 = 2 from by decide +kernel) (hts _ (am_tb_in (i := 1096) (by decide +kernel) (by decide +kernel))) rfl (Nat.le_of_ble_eq_true rfl) dL_law_499 (fun H locs hP hS => ?_)
  exact lv_icmp_eq (tgt := 980) hx hb dL_law_502 (by decide) (fun _ => k z H locs g3 hP hS) (fun h => absurd rfl h)
set_option maxHeartbeats 2000000 in
theorem lw_c13 {i : Nat} (hL : L ≤ 2048) (C0 : lw_At p s m meth c b L xs) (X0 : lw_Lx D ad adV tc s) (hi : i + 4 ≤ L) (hIv : am_Iv x) (hP : va_P D vwCl (am_W ad tc x) H) (hS : va_S (fun q => s.heap.size ≤ q) s.heap H locs) (hl : lv_has ls 4 (lw_lv b ad i))
    (k : ∀ (z : am_X) (H1 : Heap) (locs1 : List Loc), am_Iv z → va_P D vwCl (am_W ad tc z) H1 → va_S (fun q => s.heap.size ≤ q) s.heap H1 locs1 → W p l e room_1 s m #[Value.ref b] below meth c H1 locs1 45 958 Q (F0 m 980 ls [])) : W p l e room_1 s m #[Value.ref b] below meth c H locs 45 958 Q (F0 m 507 ls []) := by
  have hts := lw_hts C0
  have hx := C0.1
  have hb := C0.2.1
  obtain ⟨r, y, z, g1, g2, g3⟩ := ok_left (xs (i + 1)) (xs (i + 2)) (xs (i + 3)) x hIv
  refine lv_aload_n hx hb dL_law_507 rfl (lv_at hl 1 rfl) ?_
  refine lw_arg 1 C0 hL hS hl (by omega) dL_law_508 dL_law_509 dL_law_510 dL_law_511 dL_law_512 rfl ?_
  refine lw_arg 2 C0 hL hS hl (by omega) dL_law_513 dL_law_514 dL_law_515 dL_law_516 dL_law_517 rfl ?_
  refine lw_arg 3 C0 hL hS hl (by omega) dL_law_518 dL_law_519 dL_law_520 dL_law_521 dL_law_522 rfl ?_
  refine lw_call (M := mX7_left) (as := [.int (xs (i + 1)), .int (xs (i + 2)), .int (xs (i + 3))]) (bb := 0) (r := .int r) (y := y) (rest := []) C0 X0 hP hS hl.1 (A_X7_left 0 g1) (by decide) (by decide) (by decide +kernel) (by decide +kernel) (by decide +kernel) (show (am_me mX7_left).2.2.2.2.2.2.1 = 3 from by decide +kernel) (hts _ (am_tb_in (i := 711) (by decide +kernel) (by decide +kernel))) rfl (Nat.le_of_ble_eq_true rfl) dL_law_523 (fun H locs hP hS => ?_)
  refine lv_aload_n hx hb dL_law_526 rfl (lv_at hl 2 rfl) ?_
  refine lw_arg 1 C0 hL hS hl (by omega) dL_law_527 dL_law_528 dL_law_529 dL_law_530 dL_law_531 rfl ?_
  refine lw_arg 2 C0 hL hS hl (by omega) dL_law_532 dL_law_533 dL_law_534 dL_law_535 dL_law_536 rfl ?_
  refine lw_arg 3 C0 hL hS hl (by omega) dL_law_537 dL_law_538 dL_law_539 dL_law_540 dL_law_541 rfl ?_
  refine lw_call (M := mX8_left) (as := [.int (xs (i + 1)), .int (xs (i + 2)), .int (xs (i + 3))]) (bb := 27) (r := .int r) (y := z) (rest := [.int r]) C0 X0 hP hS hl.1 (A_X8_left 0 g2) (by decide) (by decide) (by decide +kernel) (by decide +kernel) (by decide +kernel) (show (am_me mX8_left).2.2.2.2.2.2.1 = 3 from by decide +kernel) (hts _ (am_tb_in (i := 1139) (by decide +kernel) (by decide +kernel))) rfl (Nat.le_of_ble_eq_true rfl) dL_law_542 (fun H locs hP hS => ?_)
  exact lv_icmp_eq (tgt := 980) hx hb dL_law_545 (by decide) (fun _ => k z H locs g3 hP hS) (fun h => absurd rfl h)
set_option maxHeartbeats 2000000 in
theorem lw_c14 {i : Nat} (hL : L ≤ 2048) (C0 : lw_At p s m meth c b L xs) (X0 : lw_Lx D ad adV tc s) (hi : i + 4 ≤ L) (hIv : am_Iv x) (hP : va_P D vwCl (am_W ad tc x) H) (hS : va_S (fun q => s.heap.size ≤ q) s.heap H locs) (hl : lv_has ls 4 (lw_lv b ad i))
    (k : ∀ (z : am_X) (H1 : Heap) (locs1 : List Loc), am_Iv z → va_P D vwCl (am_W ad tc z) H1 → va_S (fun q => s.heap.size ≤ q) s.heap H1 locs1 → W p l e room_1 s m #[Value.ref b] below meth c H1 locs1 45 958 Q (F0 m 980 ls [])) : W p l e room_1 s m #[Value.ref b] below meth c H locs 45 958 Q (F0 m 550 ls []) := by
  have hts := lw_hts C0
  have hx := C0.1
  have hb := C0.2.1
  obtain ⟨r, y, z, g1, g2, g3⟩ := ok_looksAt (xs (i + 1)) (xs (i + 2)) (xs (i + 3)) x hIv
  refine lv_aload_n hx hb dL_law_550 rfl (lv_at hl 1 rfl) ?_
  refine lw_arg 1 C0 hL hS hl (by omega) dL_law_551 dL_law_552 dL_law_553 dL_law_554 dL_law_555 rfl ?_
  refine lw_arg 2 C0 hL hS hl (by omega) dL_law_556 dL_law_557 dL_law_558 dL_law_559 dL_law_560 rfl ?_
  refine lw_arg 3 C0 hL hS hl (by omega) dL_law_561 dL_law_562 dL_law_563 dL_law_564 dL_law_565 rfl ?_
  refine lw_call (M := mX7_looksAt) (as := [.int (xs (i + 1)), .int (xs (i + 2)), .int (xs (i + 3))]) (bb := 0) (r := .int r) (y := y) (rest := []) C0 X0 hP hS hl.1 (A_X7_looksAt 0 g1) (by decide) (by decide) (by decide +kernel) (by decide +kernel) (by decide +kernel) (show (am_me mX7_looksAt).2.2.2.2.2.2.1 = 3 from by decide +kernel) (hts _ (am_tb_in (i := 719) (by decide +kernel) (by decide +kernel))) rfl (Nat.le_of_ble_eq_true rfl) dL_law_566 (fun H locs hP hS => ?_)
  refine lv_aload_n hx hb dL_law_569 rfl (lv_at hl 2 rfl) ?_
  refine lw_arg 1 C0 hL hS hl (by omega) dL_law_570 dL_law_571 dL_law_572 dL_law_573 dL_law_574 rfl ?_
  refine lw_arg 2 C0 hL hS hl (by omega) dL_law_575 dL_law_576 dL_law_577 dL_law_578 dL_law_579 rfl ?_
  refine lw_arg 3 C0 hL hS hl (by omega) dL_law_580 dL_law_581 dL_law_582 dL_law_583 dL_law_584 rfl ?_
  refine lw_call (M := mX8_looksAt) (as := [.int (xs (i + 1)), .int (xs (i + 2)), .int (xs (i + 3))]) (bb := 27) (r := .int r) (y := z) (rest := [.int r]) C0 X0 hP hS hl.1 (A_X8_looksAt 0 g2) (by decide) (by decide) (by decide +kernel) (by decide +kernel) (by decide +kernel) (show (am_me mX8_looksAt).2.2.2.2.2.2.1 = 3 from by decide +kernel) (hts _ (am_tb_in (i := 1151) (by decide +kernel) (by decide +kernel))) rfl (Nat.le_of_ble_eq_true rfl) dL_law_585 (fun H locs hP hS => ?_)
  exact lv_icmp_eq (tgt := 980) hx hb dL_law_588 (by decide) (fun _ => k z H locs g3 hP hS) (fun h => absurd rfl h)
set_option maxHeartbeats 2000000 in
theorem lw_c15 {i : Nat} (hL : L ≤ 2048) (C0 : lw_At p s m meth c b L xs) (X0 : lw_Lx D ad adV tc s) (hi : i + 4 ≤ L) (hIv : am_Iv x) (hP : va_P D vwCl (am_W ad tc x) H) (hS : va_S (fun q => s.heap.size ≤ q) s.heap H locs) (hl : lv_has ls 4 (lw_lv b ad i))
    (k : ∀ (z : am_X) (H1 : Heap) (locs1 : List Loc), am_Iv z → va_P D vwCl (am_W ad tc z) H1 → va_S (fun q => s.heap.size ≤ q) s.heap H1 locs1 → W p l e room_1 s m #[Value.ref b] below meth c H1 locs1 45 958 Q (F0 m 980 ls [])) : W p l e room_1 s m #[Value.ref b] below meth c H locs 45 958 Q (F0 m 593 ls []) := by
  have hts := lw_hts C0
  have hx := C0.1
  have hb := C0.2.1
  obtain ⟨r, y, z, g1, g2, g3⟩ := ok_bestSeeker (xs (i + 1)) (xs (i + 2)) x hIv
  refine lv_aload_n hx hb dL_law_593 rfl (lv_at hl 1 rfl) ?_
  refine lw_arg 1 C0 hL hS hl (by omega) dL_law_594 dL_law_595 dL_law_596 dL_law_597 dL_law_598 rfl ?_
  refine lw_arg 2 C0 hL hS hl (by omega) dL_law_599 dL_law_600 dL_law_601 dL_law_602 dL_law_603 rfl ?_
  refine lw_call (M := mX7_bestSeeker) (as := [.int (xs (i + 1)), .int (xs (i + 2))]) (bb := 0) (r := .int r) (y := y) (rest := []) C0 X0 hP hS hl.1 (A_X7_bestSeeker 0 g1) (by decide) (by decide) (by decide +kernel) (by decide +kernel) (by decide +kernel) (show (am_me mX7_bestSeeker).2.2.2.2.2.2.1 = 2 from by decide +kernel) (hts _ (am_tb_in (i := 724) (by decide +kernel) (by decide +kernel))) rfl (Nat.le_of_ble_eq_true rfl) dL_law_604 (fun H locs hP hS => ?_)
  refine lv_aload_n hx hb dL_law_607 rfl (lv_at hl 2 rfl) ?_
  refine lw_arg 1 C0 hL hS hl (by omega) dL_law_608 dL_law_609 dL_law_610 dL_law_611 dL_law_612 rfl ?_
  refine lw_arg 2 C0 hL hS hl (by omega) dL_law_613 dL_law_614 dL_law_615 dL_law_616 dL_law_617 rfl ?_
  refine lw_call (M := mX8_bestSeeker) (as := [.int (xs (i + 1)), .int (xs (i + 2))]) (bb := 27) (r := .int r) (y := z) (rest := [.int r]) C0 X0 hP hS hl.1 (A_X8_bestSeeker 0 g2) (by decide) (by decide) (by decide +kernel) (by decide +kernel) (by decide +kernel) (show (am_me mX8_bestSeeker).2.2.2.2.2.2.1 = 2 from by decide +kernel) (hts _ (am_tb_in (i := 1155) (by decide +kernel) (by decide +kernel))) rfl (Nat.le_of_ble_eq_true rfl) dL_law_618 (fun H locs hP hS => ?_)
  exact lv_icmp_eq (tgt := 980) hx hb dL_law_621 (by decide) (fun _ => k z H locs g3 hP hS) (fun h => absurd rfl h)
set_option maxHeartbeats 2000000 in
theorem lw_c16 {i : Nat} (hL : L ≤ 2048) (C0 : lw_At p s m meth c b L xs) (X0 : lw_Lx D ad adV tc s) (hi : i + 4 ≤ L) (hIv : am_Iv x) (hP : va_P D vwCl (am_W ad tc x) H) (hS : va_S (fun q => s.heap.size ≤ q) s.heap H locs) (hl : lv_has ls 4 (lw_lv b ad i))
    (k : ∀ (z : am_X) (H1 : Heap) (locs1 : List Loc), am_Iv z → va_P D vwCl (am_W ad tc z) H1 → va_S (fun q => s.heap.size ≤ q) s.heap H1 locs1 → W p l e room_1 s m #[Value.ref b] below meth c H1 locs1 45 958 Q (F0 m 980 ls [])) : W p l e room_1 s m #[Value.ref b] below meth c H locs 45 958 Q (F0 m 626 ls []) := by
  have hts := lw_hts C0
  have hx := C0.1
  have hb := C0.2.1
  obtain ⟨r, y, z, g1, g2, g3⟩ := ok_together (xs (i + 1)) x hIv
  refine lv_aload_n hx hb dL_law_626 rfl (lv_at hl 1 rfl) ?_
  refine lw_arg 1 C0 hL hS hl (by omega) dL_law_627 dL_law_628 dL_law_629 dL_law_630 dL_law_631 rfl ?_
  refine lw_call (M := mX7_together) (as := [.int (xs (i + 1))]) (bb := 0) (r := .int r) (y := y) (rest := []) C0 X0 hP hS hl.1 (A_X7_together 0 g1) (by decide) (by decide) (by decide +kernel) (by decide +kernel) (by decide +kernel) (show (am_me mX7_together).2.2.2.2.2.2.1 = 1 from by decide +kernel) (hts _ (am_tb_in (i := 728) (by decide +kernel) (by decide +kernel))) rfl (Nat.le_of_ble_eq_true rfl) dL_law_632 (fun H locs hP hS => ?_)
  refine lv_aload_n hx hb dL_law_635 rfl (lv_at hl 2 rfl) ?_
  refine lw_arg 1 C0 hL hS hl (by omega) dL_law_636 dL_law_637 dL_law_638 dL_law_639 dL_law_640 rfl ?_
  refine lw_call (M := mX8_together) (as := [.int (xs (i + 1))]) (bb := 27) (r := .int r) (y := z) (rest := [.int r]) C0 X0 hP hS hl.1 (A_X8_together 0 g2) (by decide) (by decide) (by decide +kernel) (by decide +kernel) (by decide +kernel) (show (am_me mX8_together).2.2.2.2.2.2.1 = 1 from by decide +kernel) (hts _ (am_tb_in (i := 1159) (by decide +kernel) (by decide +kernel))) rfl (Nat.le_of_ble_eq_true rfl) dL_law_641 (fun H locs hP hS => ?_)
  exact lv_icmp_eq (tgt := 980) hx hb dL_law_644 (by decide) (fun _ => k z H locs g3 hP hS) (fun h => absurd rfl h)
set_option maxHeartbeats 2000000 in
theorem lw_c17 {i : Nat} (hL : L ≤ 2048) (C0 : lw_At p s m meth c b L xs) (X0 : lw_Lx D ad adV tc s) (hi : i + 4 ≤ L) (hIv : am_Iv x) (hP : va_P D vwCl (am_W ad tc x) H) (hS : va_S (fun q => s.heap.size ≤ q) s.heap H locs) (hl : lv_has ls 4 (lw_lv b ad i))
    (k : ∀ (z : am_X) (H1 : Heap) (locs1 : List Loc), am_Iv z → va_P D vwCl (am_W ad tc z) H1 → va_S (fun q => s.heap.size ≤ q) s.heap H1 locs1 → W p l e room_1 s m #[Value.ref b] below meth c H1 locs1 45 958 Q (F0 m 980 ls [])) : W p l e room_1 s m #[Value.ref b] below meth c H locs 45 958 Q (F0 m 649 ls []) := by
  have hts := lw_hts C0
  have hx := C0.1
  have hb := C0.2.1
  obtain ⟨r, y, z, g1, g2, g3⟩ := ok_hold (xs (i + 1)) x hIv
  refine lv_aload_n hx hb dL_law_649 rfl (lv_at hl 1 rfl) ?_
  refine lw_arg 1 C0 hL hS hl (by omega) dL_law_650 dL_law_651 dL_law_652 dL_law_653 dL_law_654 rfl ?_
  refine lw_call (M := mX7_hold) (as := [.int (xs (i + 1))]) (bb := 0) (r := .int r) (y := y) (rest := []) C0 X0 hP hS hl.1 (A_X7_hold 0 g1) (by decide) (by decide) (by decide +kernel) (by decide +kernel) (by decide +kernel) (show (am_me mX7_hold).2.2.2.2.2.2.1 = 1 from by decide +kernel) (hts _ (am_tb_in (i := 742) (by decide +kernel) (by decide +kernel))) rfl (Nat.le_of_ble_eq_true rfl) dL_law_655 (fun H locs hP hS => ?_)
  refine lv_aload_n hx hb dL_law_658 rfl (lv_at hl 2 rfl) ?_
  refine lw_arg 1 C0 hL hS hl (by omega) dL_law_659 dL_law_660 dL_law_661 dL_law_662 dL_law_663 rfl ?_
  refine lw_call (M := mX8_hold) (as := [.int (xs (i + 1))]) (bb := 27) (r := .int r) (y := z) (rest := [.int r]) C0 X0 hP hS hl.1 (A_X8_hold 0 g2) (by decide) (by decide) (by decide +kernel) (by decide +kernel) (by decide +kernel) (show (am_me mX8_hold).2.2.2.2.2.2.1 = 1 from by decide +kernel) (hts _ (am_tb_in (i := 1163) (by decide +kernel) (by decide +kernel))) rfl (Nat.le_of_ble_eq_true rfl) dL_law_664 (fun H locs hP hS => ?_)
  exact lv_icmp_eq (tgt := 980) hx hb dL_law_667 (by decide) (fun _ => k z H locs g3 hP hS) (fun h => absurd rfl h)
set_option maxHeartbeats 2000000 in
theorem lw_c18 {i : Nat} (hL : L ≤ 2048) (C0 : lw_At p s m meth c b L xs) (X0 : lw_Lx D ad adV tc s) (hi : i + 4 ≤ L) (hIv : am_Iv x) (hP : va_P D vwCl (am_W ad tc x) H) (hS : va_S (fun q => s.heap.size ≤ q) s.heap H locs) (hl : lv_has ls 4 (lw_lv b ad i))
    (k : ∀ (z : am_X) (H1 : Heap) (locs1 : List Loc), am_Iv z → va_P D vwCl (am_W ad tc z) H1 → va_S (fun q => s.heap.size ≤ q) s.heap H1 locs1 → W p l e room_1 s m #[Value.ref b] below meth c H1 locs1 45 958 Q (F0 m 980 ls [])) : W p l e room_1 s m #[Value.ref b] below meth c H locs 45 958 Q (F0 m 672 ls []) := by
  have hts := lw_hts C0
  have hx := C0.1
  have hb := C0.2.1
  obtain ⟨r, y, z, g1, g2, g3⟩ := ok_ways (xs (i + 1)) (xs (i + 2)) x hIv
  refine lv_aload_n hx hb dL_law_672 rfl (lv_at hl 1 rfl) ?_
  refine lw_arg 1 C0 hL hS hl (by omega) dL_law_673 dL_law_674 dL_law_675 dL_law_676 dL_law_677 rfl ?_
  refine lw_arg 2 C0 hL hS hl (by omega) dL_law_678 dL_law_679 dL_law_680 dL_law_681 dL_law_682 rfl ?_
  refine lw_call (M := mX7_ways) (as := [.int (xs (i + 1)), .int (xs (i + 2))]) (bb := 0) (r := .long r) (y := y) (rest := []) C0 X0 hP hS hl.1 (A_X7_ways 0 g1) (by decide) (by decide) (by decide +kernel) (by decide +kernel) (by decide +kernel) (show (am_me mX7_ways).2.2.2.2.2.2.1 = 2 from by decide +kernel) (hts _ (am_tb_in (i := 764) (by decide +kernel) (by decide +kernel))) rfl (Nat.le_of_ble_eq_true rfl) dL_law_683 (fun H locs hP hS => ?_)
  refine lv_aload_n hx hb dL_law_686 rfl (lv_at hl 2 rfl) ?_
  refine lw_arg 1 C0 hL hS hl (by omega) dL_law_687 dL_law_688 dL_law_689 dL_law_690 dL_law_691 rfl ?_
  refine lw_arg 2 C0 hL hS hl (by omega) dL_law_692 dL_law_693 dL_law_694 dL_law_695 dL_law_696 rfl ?_
  refine lw_call (M := mX8_ways) (as := [.int (xs (i + 1)), .int (xs (i + 2))]) (bb := 27) (r := .long r) (y := z) (rest := [.long r]) C0 X0 hP hS hl.1 (A_X8_ways 0 g2) (by decide) (by decide) (by decide +kernel) (by decide +kernel) (by decide +kernel) (show (am_me mX8_ways).2.2.2.2.2.2.1 = 2 from by decide +kernel) (hts _ (am_tb_in (i := 1175) (by decide +kernel) (by decide +kernel))) rfl (Nat.le_of_ble_eq_true rfl) dL_law_697 (fun H locs hP hS => ?_)
  refine W.lcmp hx hb dL_law_700 ?_
  refine lv_if_eq (tgt := 980) hx hb dL_law_701 (by decide) (fun _ => k z H locs g3 hP hS) (fun h => absurd ?_ h)
  unfold lg_cmp
  simp
set_option maxHeartbeats 2000000 in
theorem lw_c19 {i : Nat} (hL : L ≤ 2048) (C0 : lw_At p s m meth c b L xs) (X0 : lw_Lx D ad adV tc s) (hi : i + 4 ≤ L) (hIv : am_Iv x) (hP : va_P D vwCl (am_W ad tc x) H) (hS : va_S (fun q => s.heap.size ≤ q) s.heap H locs) (hl : lv_has ls 4 (lw_lv b ad i))
    (k : ∀ (z : am_X) (H1 : Heap) (locs1 : List Loc), am_Iv z → va_P D vwCl (am_W ad tc z) H1 → va_S (fun q => s.heap.size ≤ q) s.heap H1 locs1 → W p l e room_1 s m #[Value.ref b] below meth c H1 locs1 45 958 Q (F0 m 980 ls [])) : W p l e room_1 s m #[Value.ref b] below meth c H locs 45 958 Q (F0 m 706 ls []) := by
  have hts := lw_hts C0
  have hx := C0.1
  have hb := C0.2.1
  obtain ⟨r, y, z, g1, g2, g3⟩ := ok_likely (xs (i + 1)) (xs (i + 2)) (xs (i + 3)) x hIv
  refine lv_aload_n hx hb dL_law_706 rfl (lv_at hl 1 rfl) ?_
  refine lw_arg 1 C0 hL hS hl (by omega) dL_law_707 dL_law_708 dL_law_709 dL_law_710 dL_law_711 rfl ?_
  refine lw_arg 2 C0 hL hS hl (by omega) dL_law_712 dL_law_713 dL_law_714 dL_law_715 dL_law_716 rfl ?_
  refine lw_arg 3 C0 hL hS hl (by omega) dL_law_717 dL_law_718 dL_law_719 dL_law_720 dL_law_721 rfl ?_
  refine lw_call (M := mX7_likely) (as := [.int (xs (i + 1)), .int (xs (i + 2)), .int (xs (i + 3))]) (bb := 0) (r := .long r) (y := y) (rest := []) C0 X0 hP hS hl.1 (A_X7_likely 0 g1) (by decide) (by decide) (by decide +kernel) (by decide +kernel) (by decide +kernel) (show (am_me mX7_likely).2.2.2.2.2.2.1 = 3 from by decide +kernel) (hts _ (am_tb_in (i := 796) (by decide +kernel) (by decide +kernel))) rfl (Nat.le_of_ble_eq_true rfl) dL_law_722 (fun H locs hP hS => ?_)
  refine lv_aload_n hx hb dL_law_725 rfl (lv_at hl 2 rfl) ?_
  refine lw_arg 1 C0 hL hS hl (by omega) dL_law_726 dL_law_727 dL_law_728 dL_law_729 dL_law_730 rfl ?_
  refine lw_arg 2 C0 hL hS hl (by omega) dL_law_731 dL_law_732 dL_law_733 dL_law_734 dL_law_735 rfl ?_
  refine lw_arg 3 C0 hL hS hl (by omega) dL_law_736 dL_law_737 dL_law_738 dL_law_739 dL_law_740 rfl ?_
  refine lw_call (M := mX8_likely) (as := [.int (xs (i + 1)), .int (xs (i + 2)), .int (xs (i + 3))]) (bb := 27) (r := .long r) (y := z) (rest := [.long r]) C0 X0 hP hS hl.1 (A_X8_likely 0 g2) (by decide) (by decide) (by decide +kernel) (by decide +kernel) (by decide +kernel) (show (am_me mX8_likely).2.2.2.2.2.2.1 = 3 from by decide +kernel) (hts _ (am_tb_in (i := 1188) (by decide +kernel) (by decide +kernel))) rfl (Nat.le_of_ble_eq_true rfl) dL_law_741 (fun H locs hP hS => ?_)
  refine W.lcmp hx hb dL_law_744 ?_
  refine lv_if_eq (tgt := 980) hx hb dL_law_745 (by decide) (fun _ => k z H locs g3 hP hS) (fun h => absurd ?_ h)
  unfold lg_cmp
  simp
set_option maxHeartbeats 2000000 in
theorem lw_c20 {i : Nat} (hL : L ≤ 2048) (C0 : lw_At p s m meth c b L xs) (X0 : lw_Lx D ad adV tc s) (hi : i + 4 ≤ L) (hIv : am_Iv x) (hP : va_P D vwCl (am_W ad tc x) H) (hS : va_S (fun q => s.heap.size ≤ q) s.heap H locs) (hl : lv_has ls 4 (lw_lv b ad i))
    (k : ∀ (z : am_X) (H1 : Heap) (locs1 : List Loc), am_Iv z → va_P D vwCl (am_W ad tc z) H1 → va_S (fun q => s.heap.size ≤ q) s.heap H1 locs1 → W p l e room_1 s m #[Value.ref b] below meth c H1 locs1 45 958 Q (F0 m 980 ls [])) : W p l e room_1 s m #[Value.ref b] below meth c H locs 45 958 Q (F0 m 750 ls []) := by
  have hts := lw_hts C0
  have hx := C0.1
  have hb := C0.2.1
  obtain ⟨r, y, z, g1, g2, g3⟩ := ok_likeliest (xs (i + 1)) x hIv
  refine lv_aload_n hx hb dL_law_750 rfl (lv_at hl 1 rfl) ?_
  refine lw_arg 1 C0 hL hS hl (by omega) dL_law_751 dL_law_752 dL_law_753 dL_law_754 dL_law_755 rfl ?_
  refine lw_call (M := mX7_likeliest) (as := [.int (xs (i + 1))]) (bb := 0) (r := .int r) (y := y) (rest := []) C0 X0 hP hS hl.1 (A_X7_likeliest 0 g1) (by decide) (by decide) (by decide +kernel) (by decide +kernel) (by decide +kernel) (show (am_me mX7_likeliest).2.2.2.2.2.2.1 = 1 from by decide +kernel) (hts _ (am_tb_in (i := 807) (by decide +kernel) (by decide +kernel))) rfl (Nat.le_of_ble_eq_true rfl) dL_law_756 (fun H locs hP hS => ?_)
  refine lv_aload_n hx hb dL_law_759 rfl (lv_at hl 2 rfl) ?_
  refine lw_arg 1 C0 hL hS hl (by omega) dL_law_760 dL_law_761 dL_law_762 dL_law_763 dL_law_764 rfl ?_
  refine lw_call (M := mX8_likeliest) (as := [.int (xs (i + 1))]) (bb := 27) (r := .int r) (y := z) (rest := [.int r]) C0 X0 hP hS hl.1 (A_X8_likeliest 0 g2) (by decide) (by decide) (by decide +kernel) (by decide +kernel) (by decide +kernel) (show (am_me mX8_likeliest).2.2.2.2.2.2.1 = 1 from by decide +kernel) (hts _ (am_tb_in (i := 1192) (by decide +kernel) (by decide +kernel))) rfl (Nat.le_of_ble_eq_true rfl) dL_law_765 (fun H locs hP hS => ?_)
  exact lv_icmp_eq (tgt := 980) hx hb dL_law_768 (by decide) (fun _ => k z H locs g3 hP hS) (fun h => absurd rfl h)
set_option maxHeartbeats 2000000 in
theorem lw_c21 {i : Nat} (hL : L ≤ 2048) (C0 : lw_At p s m meth c b L xs) (X0 : lw_Lx D ad adV tc s) (hi : i + 4 ≤ L) (hIv : am_Iv x) (hP : va_P D vwCl (am_W ad tc x) H) (hS : va_S (fun q => s.heap.size ≤ q) s.heap H locs) (hl : lv_has ls 4 (lw_lv b ad i))
    (k : ∀ (z : am_X) (H1 : Heap) (locs1 : List Loc), am_Iv z → va_P D vwCl (am_W ad tc z) H1 → va_S (fun q => s.heap.size ≤ q) s.heap H1 locs1 → W p l e room_1 s m #[Value.ref b] below meth c H1 locs1 45 958 Q (F0 m 980 ls [])) : W p l e room_1 s m #[Value.ref b] below meth c H locs 45 958 Q (F0 m 773 ls []) := by
  have hts := lw_hts C0
  have hx := C0.1
  have hb := C0.2.1
  obtain ⟨r, y, z, g1, g2, g3⟩ := ok_turning (xs (i + 1)) (xs (i + 2)) x hIv
  refine lv_aload_n hx hb dL_law_773 rfl (lv_at hl 1 rfl) ?_
  refine lw_arg 1 C0 hL hS hl (by omega) dL_law_774 dL_law_775 dL_law_776 dL_law_777 dL_law_778 rfl ?_
  refine lw_arg 2 C0 hL hS hl (by omega) dL_law_779 dL_law_780 dL_law_781 dL_law_782 dL_law_783 rfl ?_
  refine lw_call (M := mX7_turning) (as := [.int (xs (i + 1)), .int (xs (i + 2))]) (bb := 0) (r := .int r) (y := y) (rest := []) C0 X0 hP hS hl.1 (A_X7_turning 0 g1) (by decide) (by decide) (by decide +kernel) (by decide +kernel) (by decide +kernel) (show (am_me mX7_turning).2.2.2.2.2.2.1 = 2 from by decide +kernel) (hts _ (am_tb_in (i := 816) (by decide +kernel) (by decide +kernel))) rfl (Nat.le_of_ble_eq_true rfl) dL_law_784 (fun H locs hP hS => ?_)
  refine lv_aload_n hx hb dL_law_787 rfl (lv_at hl 2 rfl) ?_
  refine lw_arg 1 C0 hL hS hl (by omega) dL_law_788 dL_law_789 dL_law_790 dL_law_791 dL_law_792 rfl ?_
  refine lw_arg 2 C0 hL hS hl (by omega) dL_law_793 dL_law_794 dL_law_795 dL_law_796 dL_law_797 rfl ?_
  refine lw_call (M := mX8_turning) (as := [.int (xs (i + 1)), .int (xs (i + 2))]) (bb := 27) (r := .int r) (y := z) (rest := [.int r]) C0 X0 hP hS hl.1 (A_X8_turning 0 g2) (by decide) (by decide) (by decide +kernel) (by decide +kernel) (by decide +kernel) (show (am_me mX8_turning).2.2.2.2.2.2.1 = 2 from by decide +kernel) (hts _ (am_tb_in (i := 1196) (by decide +kernel) (by decide +kernel))) rfl (Nat.le_of_ble_eq_true rfl) dL_law_798 (fun H locs hP hS => ?_)
  exact lv_icmp_eq (tgt := 980) hx hb dL_law_801 (by decide) (fun _ => k z H locs g3 hP hS) (fun h => absurd rfl h)
set_option maxHeartbeats 2000000 in
theorem lw_c22 {i : Nat} (hL : L ≤ 2048) (C0 : lw_At p s m meth c b L xs) (X0 : lw_Lx D ad adV tc s) (hi : i + 4 ≤ L) (hIv : am_Iv x) (hP : va_P D vwCl (am_W ad tc x) H) (hS : va_S (fun q => s.heap.size ≤ q) s.heap H locs) (hl : lv_has ls 4 (lw_lv b ad i))
    (k : ∀ (z : am_X) (H1 : Heap) (locs1 : List Loc), am_Iv z → va_P D vwCl (am_W ad tc z) H1 → va_S (fun q => s.heap.size ≤ q) s.heap H1 locs1 → W p l e room_1 s m #[Value.ref b] below meth c H1 locs1 45 958 Q (F0 m 980 ls [])) : W p l e room_1 s m #[Value.ref b] below meth c H locs 45 958 Q (F0 m 806 ls []) := by
  have hts := lw_hts C0
  have hx := C0.1
  have hb := C0.2.1
  obtain ⟨r, y, z, g1, g2, g3⟩ := ok_finds (xs (i + 1)) x hIv
  refine lv_aload_n hx hb dL_law_806 rfl (lv_at hl 1 rfl) ?_
  refine lw_arg 1 C0 hL hS hl (by omega) dL_law_807 dL_law_808 dL_law_809 dL_law_810 dL_law_811 rfl ?_
  refine lw_call (M := mX7_finds) (as := [.int (xs (i + 1))]) (bb := 0) (r := .int r) (y := y) (rest := []) C0 X0 hP hS hl.1 (A_X7_finds 0 g1) (by decide) (by decide) (by decide +kernel) (by decide +kernel) (by decide +kernel) (show (am_me mX7_finds).2.2.2.2.2.2.1 = 1 from by decide +kernel) (hts _ (am_tb_in (i := 824) (by decide +kernel) (by decide +kernel))) rfl (Nat.le_of_ble_eq_true rfl) dL_law_812 (fun H locs hP hS => ?_)
  refine lv_aload_n hx hb dL_law_815 rfl (lv_at hl 2 rfl) ?_
  refine lw_arg 1 C0 hL hS hl (by omega) dL_law_816 dL_law_817 dL_law_818 dL_law_819 dL_law_820 rfl ?_
  refine lw_call (M := mX8_finds) (as := [.int (xs (i + 1))]) (bb := 27) (r := .int r) (y := z) (rest := [.int r]) C0 X0 hP hS hl.1 (A_X8_finds 0 g2) (by decide) (by decide) (by decide +kernel) (by decide +kernel) (by decide +kernel) (show (am_me mX8_finds).2.2.2.2.2.2.1 = 1 from by decide +kernel) (hts _ (am_tb_in (i := 1200) (by decide +kernel) (by decide +kernel))) rfl (Nat.le_of_ble_eq_true rfl) dL_law_821 (fun H locs hP hS => ?_)
  exact lv_icmp_eq (tgt := 980) hx hb dL_law_824 (by decide) (fun _ => k z H locs g3 hP hS) (fun h => absurd rfl h)
set_option maxHeartbeats 2000000 in
theorem lw_c23 {i : Nat} (hL : L ≤ 2048) (C0 : lw_At p s m meth c b L xs) (X0 : lw_Lx D ad adV tc s) (hi : i + 4 ≤ L) (hIv : am_Iv x) (hP : va_P D vwCl (am_W ad tc x) H) (hS : va_S (fun q => s.heap.size ≤ q) s.heap H locs) (hl : lv_has ls 4 (lw_lv b ad i))
    (k : ∀ (z : am_X) (H1 : Heap) (locs1 : List Loc), am_Iv z → va_P D vwCl (am_W ad tc z) H1 → va_S (fun q => s.heap.size ≤ q) s.heap H1 locs1 → W p l e room_1 s m #[Value.ref b] below meth c H1 locs1 45 958 Q (F0 m 980 ls [])) : W p l e room_1 s m #[Value.ref b] below meth c H locs 45 958 Q (F0 m 829 ls []) := by
  have hts := lw_hts C0
  have hx := C0.1
  have hb := C0.2.1
  obtain ⟨r, y, z, g1, g2, g3⟩ := ok_row (xs (i + 1)) x hIv
  refine lv_aload_n hx hb dL_law_829 rfl (lv_at hl 1 rfl) ?_
  refine lw_arg 1 C0 hL hS hl (by omega) dL_law_830 dL_law_831 dL_law_832 dL_law_833 dL_law_834 rfl ?_
  refine lw_call (M := mX7_row) (as := [.int (xs (i + 1))]) (bb := 0) (r := .int r) (y := y) (rest := []) C0 X0 hP hS hl.1 (A_X7_row 0 g1) (by decide) (by decide) (by decide +kernel) (by decide +kernel) (by decide +kernel) (show (am_me mX7_row).2.2.2.2.2.2.1 = 1 from by decide +kernel) (hts _ (am_tb_in (i := 836) (by decide +kernel) (by decide +kernel))) rfl (Nat.le_of_ble_eq_true rfl) dL_law_835 (fun H locs hP hS => ?_)
  refine lv_aload_n hx hb dL_law_838 rfl (lv_at hl 2 rfl) ?_
  refine lw_arg 1 C0 hL hS hl (by omega) dL_law_839 dL_law_840 dL_law_841 dL_law_842 dL_law_843 rfl ?_
  refine lw_call (M := mX8_row) (as := [.int (xs (i + 1))]) (bb := 27) (r := .int r) (y := z) (rest := [.int r]) C0 X0 hP hS hl.1 (A_X8_row 0 g2) (by decide) (by decide) (by decide +kernel) (by decide +kernel) (by decide +kernel) (show (am_me mX8_row).2.2.2.2.2.2.1 = 1 from by decide +kernel) (hts _ (am_tb_in (i := 1208) (by decide +kernel) (by decide +kernel))) rfl (Nat.le_of_ble_eq_true rfl) dL_law_844 (fun H locs hP hS => ?_)
  exact lv_icmp_eq (tgt := 980) hx hb dL_law_847 (by decide) (fun _ => k z H locs g3 hP hS) (fun h => absurd rfl h)
set_option maxHeartbeats 2000000 in
theorem lw_c24 {i : Nat} (hL : L ≤ 2048) (C0 : lw_At p s m meth c b L xs) (X0 : lw_Lx D ad adV tc s) (hi : i + 4 ≤ L) (hIv : am_Iv x) (hP : va_P D vwCl (am_W ad tc x) H) (hS : va_S (fun q => s.heap.size ≤ q) s.heap H locs) (hl : lv_has ls 4 (lw_lv b ad i))
    (k : ∀ (z : am_X) (H1 : Heap) (locs1 : List Loc), am_Iv z → va_P D vwCl (am_W ad tc z) H1 → va_S (fun q => s.heap.size ≤ q) s.heap H1 locs1 → W p l e room_1 s m #[Value.ref b] below meth c H1 locs1 45 958 Q (F0 m 980 ls [])) : W p l e room_1 s m #[Value.ref b] below meth c H locs 45 958 Q (F0 m 852 ls []) := by
  have hts := lw_hts C0
  have hx := C0.1
  have hb := C0.2.1
  obtain ⟨r, y, z, g1, g2, g3⟩ := ok_judge (xs (i + 1)) x hIv
  refine lv_aload_n hx hb dL_law_852 rfl (lv_at hl 1 rfl) ?_
  refine lw_arg 1 C0 hL hS hl (by omega) dL_law_853 dL_law_854 dL_law_855 dL_law_856 dL_law_857 rfl ?_
  refine lw_call (M := mX7_judge) (as := [.int (xs (i + 1))]) (bb := 0) (r := .int r) (y := y) (rest := []) C0 X0 hP hS hl.1 (A_X7_judge 0 g1) (by decide) (by decide) (by decide +kernel) (by decide +kernel) (by decide +kernel) (show (am_me mX7_judge).2.2.2.2.2.2.1 = 1 from by decide +kernel) (hts _ (am_tb_in (i := 840) (by decide +kernel) (by decide +kernel))) rfl (Nat.le_of_ble_eq_true rfl) dL_law_858 (fun H locs hP hS => ?_)
  refine lv_aload_n hx hb dL_law_861 rfl (lv_at hl 2 rfl) ?_
  refine lw_arg 1 C0 hL hS hl (by omega) dL_law_862 dL_law_863 dL_law_864 dL_law_865 dL_law_866 rfl ?_
  refine lw_call (M := mX8_judge) (as := [.int (xs (i + 1))]) (bb := 27) (r := .int r) (y := z) (rest := [.int r]) C0 X0 hP hS hl.1 (A_X8_judge 0 g2) (by decide) (by decide) (by decide +kernel) (by decide +kernel) (by decide +kernel) (show (am_me mX8_judge).2.2.2.2.2.2.1 = 1 from by decide +kernel) (hts _ (am_tb_in (i := 1212) (by decide +kernel) (by decide +kernel))) rfl (Nat.le_of_ble_eq_true rfl) dL_law_867 (fun H locs hP hS => ?_)
  exact lv_icmp_eq (tgt := 980) hx hb dL_law_870 (by decide) (fun _ => k z H locs g3 hP hS) (fun h => absurd rfl h)
set_option maxHeartbeats 2000000 in
theorem lw_c25 {i : Nat} (hL : L ≤ 2048) (C0 : lw_At p s m meth c b L xs) (X0 : lw_Lx D ad adV tc s) (hi : i + 4 ≤ L) (hIv : am_Iv x) (hP : va_P D vwCl (am_W ad tc x) H) (hS : va_S (fun q => s.heap.size ≤ q) s.heap H locs) (hl : lv_has ls 4 (lw_lv b ad i))
    (k : ∀ (z : am_X) (H1 : Heap) (locs1 : List Loc), am_Iv z → va_P D vwCl (am_W ad tc z) H1 → va_S (fun q => s.heap.size ≤ q) s.heap H1 locs1 → W p l e room_1 s m #[Value.ref b] below meth c H1 locs1 45 958 Q (F0 m 980 ls [])) : W p l e room_1 s m #[Value.ref b] below meth c H locs 45 958 Q (F0 m 875 ls []) := by
  have hts := lw_hts C0
  have hx := C0.1
  have hb := C0.2.1
  obtain ⟨r, y, z, g1, g2, g3⟩ := ok_behind (xs (i + 1)) x hIv
  refine lv_aload_n hx hb dL_law_875 rfl (lv_at hl 1 rfl) ?_
  refine lw_arg 1 C0 hL hS hl (by omega) dL_law_876 dL_law_877 dL_law_878 dL_law_879 dL_law_880 rfl ?_
  refine lw_call (M := mX7_behind) (as := [.int (xs (i + 1))]) (bb := 0) (r := .int r) (y := y) (rest := []) C0 X0 hP hS hl.1 (A_X7_behind 0 g1) (by decide) (by decide) (by decide +kernel) (by decide +kernel) (by decide +kernel) (show (am_me mX7_behind).2.2.2.2.2.2.1 = 1 from by decide +kernel) (hts _ (am_tb_in (i := 845) (by decide +kernel) (by decide +kernel))) rfl (Nat.le_of_ble_eq_true rfl) dL_law_881 (fun H locs hP hS => ?_)
  refine lv_aload_n hx hb dL_law_884 rfl (lv_at hl 2 rfl) ?_
  refine lw_arg 1 C0 hL hS hl (by omega) dL_law_885 dL_law_886 dL_law_887 dL_law_888 dL_law_889 rfl ?_
  refine lw_call (M := mX8_behind) (as := [.int (xs (i + 1))]) (bb := 27) (r := .int r) (y := z) (rest := [.int r]) C0 X0 hP hS hl.1 (A_X8_behind 0 g2) (by decide) (by decide) (by decide +kernel) (by decide +kernel) (by decide +kernel) (show (am_me mX8_behind).2.2.2.2.2.2.1 = 1 from by decide +kernel) (hts _ (am_tb_in (i := 1220) (by decide +kernel) (by decide +kernel))) rfl (Nat.le_of_ble_eq_true rfl) dL_law_890 (fun H locs hP hS => ?_)
  exact lv_icmp_eq (tgt := 980) hx hb dL_law_893 (by decide) (fun _ => k z H locs g3 hP hS) (fun h => absurd rfl h)
set_option maxHeartbeats 2000000 in
theorem lw_c26 {i : Nat} (hL : L ≤ 2048) (C0 : lw_At p s m meth c b L xs) (X0 : lw_Lx D ad adV tc s) (hi : i + 4 ≤ L) (hIv : am_Iv x) (hP : va_P D vwCl (am_W ad tc x) H) (hS : va_S (fun q => s.heap.size ≤ q) s.heap H locs) (hl : lv_has ls 4 (lw_lv b ad i))
    (k : ∀ (z : am_X) (H1 : Heap) (locs1 : List Loc), am_Iv z → va_P D vwCl (am_W ad tc z) H1 → va_S (fun q => s.heap.size ≤ q) s.heap H1 locs1 → W p l e room_1 s m #[Value.ref b] below meth c H1 locs1 45 958 Q (F0 m 980 ls [])) : W p l e room_1 s m #[Value.ref b] below meth c H locs 45 958 Q (F0 m 898 ls []) := by
  have hts := lw_hts C0
  have hx := C0.1
  have hb := C0.2.1
  obtain ⟨r, y, z, g1, g2, g3⟩ := ok_lots (xs (i + 1)) (xs (i + 2)) x hIv
  refine lv_aload_n hx hb dL_law_898 rfl (lv_at hl 1 rfl) ?_
  refine lw_arg 1 C0 hL hS hl (by omega) dL_law_899 dL_law_900 dL_law_901 dL_law_902 dL_law_903 rfl ?_
  refine lw_arg 2 C0 hL hS hl (by omega) dL_law_904 dL_law_905 dL_law_906 dL_law_907 dL_law_908 rfl ?_
  refine lw_call (M := mX7_lots) (as := [.int (xs (i + 1)), .int (xs (i + 2))]) (bb := 0) (r := .int r) (y := y) (rest := []) C0 X0 hP hS hl.1 (A_X7_lots 0 g1) (by decide) (by decide) (by decide +kernel) (by decide +kernel) (by decide +kernel) (show (am_me mX7_lots).2.2.2.2.2.2.1 = 2 from by decide +kernel) (hts _ (am_tb_in (i := 849) (by decide +kernel) (by decide +kernel))) rfl (Nat.le_of_ble_eq_true rfl) dL_law_909 (fun H locs hP hS => ?_)
  refine lv_aload_n hx hb dL_law_912 rfl (lv_at hl 2 rfl) ?_
  refine lw_arg 1 C0 hL hS hl (by omega) dL_law_913 dL_law_914 dL_law_915 dL_law_916 dL_law_917 rfl ?_
  refine lw_arg 2 C0 hL hS hl (by omega) dL_law_918 dL_law_919 dL_law_920 dL_law_921 dL_law_922 rfl ?_
  refine lw_call (M := mX8_lots) (as := [.int (xs (i + 1)), .int (xs (i + 2))]) (bb := 27) (r := .int r) (y := z) (rest := [.int r]) C0 X0 hP hS hl.1 (A_X8_lots 0 g2) (by decide) (by decide) (by decide +kernel) (by decide +kernel) (by decide +kernel) (show (am_me mX8_lots).2.2.2.2.2.2.1 = 2 from by decide +kernel) (hts _ (am_tb_in (i := 1224) (by decide +kernel) (by decide +kernel))) rfl (Nat.le_of_ble_eq_true rfl) dL_law_923 (fun H locs hP hS => ?_)
  exact lv_icmp_eq (tgt := 980) hx hb dL_law_926 (by decide) (fun _ => k z H locs g3 hP hS) (fun h => absurd rfl h)
set_option maxHeartbeats 2000000 in
theorem lw_c27 {i : Nat} (hL : L ≤ 2048) (C0 : lw_At p s m meth c b L xs) (X0 : lw_Lx D ad adV tc s) (hi : i + 4 ≤ L) (hIv : am_Iv x) (hP : va_P D vwCl (am_W ad tc x) H) (hS : va_S (fun q => s.heap.size ≤ q) s.heap H locs) (hl : lv_has ls 4 (lw_lv b ad i))
    (k : ∀ (z : am_X) (H1 : Heap) (locs1 : List Loc), am_Iv z → va_P D vwCl (am_W ad tc z) H1 → va_S (fun q => s.heap.size ≤ q) s.heap H1 locs1 → W p l e room_1 s m #[Value.ref b] below meth c H1 locs1 45 958 Q (F0 m 980 ls [])) : W p l e room_1 s m #[Value.ref b] below meth c H locs 45 958 Q (F0 m 931 ls []) := by
  have hts := lw_hts C0
  have hx := C0.1
  have hb := C0.2.1
  obtain ⟨r, y, z, g1, g2, g3⟩ := ok_image x hIv
  refine lv_aload_n hx hb dL_law_931 rfl (lv_at hl 1 rfl) ?_
  refine lw_call (M := mX7_image) (as := []) (bb := 0) (r := .int r) (y := y) (rest := []) C0 X0 hP hS hl.1 (A_X7_image 0 g1) (by decide) (by decide) (by decide +kernel) (by decide +kernel) (by decide +kernel) (show (am_me mX7_image).2.2.2.2.2.2.1 = 0 from by decide +kernel) (hts _ (am_tb_in (i := 871) (by decide +kernel) (by decide +kernel))) rfl (Nat.le_of_ble_eq_true rfl) dL_law_932 (fun H locs hP hS => ?_)
  refine lv_aload_n hx hb dL_law_935 rfl (lv_at hl 2 rfl) ?_
  refine lw_call (M := mX8_image) (as := []) (bb := 27) (r := .int r) (y := z) (rest := [.int r]) C0 X0 hP hS hl.1 (A_X8_image 0 g2) (by decide) (by decide) (by decide +kernel) (by decide +kernel) (by decide +kernel) (show (am_me mX8_image).2.2.2.2.2.2.1 = 0 from by decide +kernel) (hts _ (am_tb_in (i := 968) (by decide +kernel) (by decide +kernel))) rfl (Nat.le_of_ble_eq_true rfl) dL_law_936 (fun H locs hP hS => ?_)
  exact lv_icmp_eq (tgt := 980) hx hb dL_law_939 (by decide) (fun _ => k z H locs g3 hP hS) (fun h => absurd rfl h)
set_option maxHeartbeats 2000000 in
theorem lw_c28 {i : Nat} (hL : L ≤ 2048) (C0 : lw_At p s m meth c b L xs) (X0 : lw_Lx D ad adV tc s) (hi : i + 4 ≤ L) (hIv : am_Iv x) (hP : va_P D vwCl (am_W ad tc x) H) (hS : va_S (fun q => s.heap.size ≤ q) s.heap H locs) (hl : lv_has ls 4 (lw_lv b ad i))
    (k : ∀ (z : am_X) (H1 : Heap) (locs1 : List Loc), am_Iv z → va_P D vwCl (am_W ad tc z) H1 → va_S (fun q => s.heap.size ≤ q) s.heap H1 locs1 → W p l e room_1 s m #[Value.ref b] below meth c H1 locs1 45 958 Q (F0 m 980 ls [])) : W p l e room_1 s m #[Value.ref b] below meth c H locs 45 958 Q (F0 m 944 ls []) := by
  have hts := lw_hts C0
  have hx := C0.1
  have hb := C0.2.1
  obtain ⟨r, y, z, g1, g2, g3⟩ := ok_on x hIv
  refine lv_aload_n hx hb dL_law_944 rfl (lv_at hl 1 rfl) ?_
  refine lw_call (M := mX7_on) (as := []) (bb := 0) (r := .int r) (y := y) (rest := []) C0 X0 hP hS hl.1 (A_X7_on 0 g1) (by decide) (by decide) (by decide +kernel) (by decide +kernel) (by decide +kernel) (show (am_me mX7_on).2.2.2.2.2.2.1 = 0 from by decide +kernel) (hts _ (am_tb_in (i := 875) (by decide +kernel) (by decide +kernel))) rfl (Nat.le_of_ble_eq_true rfl) dL_law_945 (fun H locs hP hS => ?_)
  refine lv_aload_n hx hb dL_law_948 rfl (lv_at hl 2 rfl) ?_
  refine lw_call (M := mX8_on) (as := []) (bb := 27) (r := .int r) (y := z) (rest := [.int r]) C0 X0 hP hS hl.1 (A_X8_on 0 g2) (by decide) (by decide) (by decide +kernel) (by decide +kernel) (by decide +kernel) (show (am_me mX8_on).2.2.2.2.2.2.1 = 0 from by decide +kernel) (hts _ (am_tb_in (i := 975) (by decide +kernel) (by decide +kernel))) rfl (Nat.le_of_ble_eq_true rfl) dL_law_949 (fun H locs hP hS => ?_)
  exact lv_icmp_eq (tgt := 980) hx hb dL_law_952 (by decide) (fun _ => k z H locs g3 hP hS) (fun h => absurd rfl h)
set_option maxHeartbeats 2000000 in
theorem lw_c29 {i : Nat} (hL : L ≤ 2048) (C0 : lw_At p s m meth c b L xs) (X0 : lw_Lx D ad adV tc s) (hi : i + 4 ≤ L) (hIv : am_Iv x) (hP : va_P D vwCl (am_W ad tc x) H) (hS : va_S (fun q => s.heap.size ≤ q) s.heap H locs) (hl : lv_has ls 4 (lw_lv b ad i))
    (k : ∀ (z : am_X) (H1 : Heap) (locs1 : List Loc), am_Iv z → va_P D vwCl (am_W ad tc z) H1 → va_S (fun q => s.heap.size ≤ q) s.heap H1 locs1 → W p l e room_1 s m #[Value.ref b] below meth c H1 locs1 45 958 Q (F0 m 980 ls [])) : W p l e room_1 s m #[Value.ref b] below meth c H locs 45 958 Q (F0 m 957 ls []) := by
  have hts := lw_hts C0
  have hx := C0.1
  have hb := C0.2.1
  obtain ⟨r, y, z, g1, g2, g3⟩ := ok_count (xs (i + 1)) x hIv
  refine lv_aload_n hx hb dL_law_957 rfl (lv_at hl 1 rfl) ?_
  refine lw_arg 1 C0 hL hS hl (by omega) dL_law_958 dL_law_959 dL_law_960 dL_law_961 dL_law_962 rfl ?_
  refine lw_call (M := mX7_count) (as := [.int (xs (i + 1))]) (bb := 0) (r := .int r) (y := y) (rest := []) C0 X0 hP hS hl.1 (A_X7_count 0 g1) (by decide) (by decide) (by decide +kernel) (by decide +kernel) (by decide +kernel) (show (am_me mX7_count).2.2.2.2.2.2.1 = 1 from by decide +kernel) (hts _ (am_tb_in (i := 879) (by decide +kernel) (by decide +kernel))) rfl (Nat.le_of_ble_eq_true rfl) dL_law_963 (fun H locs hP hS => ?_)
  refine lv_aload_n hx hb dL_law_966 rfl (lv_at hl 2 rfl) ?_
  refine lw_arg 1 C0 hL hS hl (by omega) dL_law_967 dL_law_968 dL_law_969 dL_law_970 dL_law_971 rfl ?_
  refine lw_call (M := mX8_count) (as := [.int (xs (i + 1))]) (bb := 27) (r := .int r) (y := z) (rest := [.int r]) C0 X0 hP hS hl.1 (A_X8_count 0 g2) (by decide) (by decide) (by decide +kernel) (by decide +kernel) (by decide +kernel) (show (am_me mX8_count).2.2.2.2.2.2.1 = 1 from by decide +kernel) (hts _ (am_tb_in (i := 1231) (by decide +kernel) (by decide +kernel))) rfl (Nat.le_of_ble_eq_true rfl) dL_law_972 (fun H locs hP hS => ?_)
  exact lv_icmp_eq (tgt := 980) hx hb dL_law_975 (by decide) (fun _ => k z H locs g3 hP hS) (fun h => absurd rfl h)
end LCS
