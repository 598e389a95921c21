/-! ===== the law's calls, case by case ===== -/
theorem lw_c41 : Cond.constantLong RL 41 (4294967295) ∈ wsL_law := List.mem_append_left _ (List.mem_append_left _ (List.mem_append_left _ (List.mem_append_left _ (List.mem_append_left _ (List.mem_append_left _ (List.mem_append_left _ (List.mem_append_left _ (List.mem_append_left _ (List.mem_append_left _ (List.mem_of_getElem? (l := wsL_law_r1) (i := 6) rfl))))))))))
section LK
variable {p : Program} {l : Launch} {e : Env} {s : State} {m : MethodId} {below : List Frame} {meth : Method} {c : Code} {H : Heap} {locs : List Loc} {ls : Array Slot}
variable {b Ln : Nat} {xs : Nat → Int32} {D : va_G} {cI cJ : ClassId} {t0 i : Nat} {h g : Nat → Nat} {S M : SX} {L N : LX}
/-- behind a case: both worlds alike again -/
def lw_K (p : Program) (l : Launch) (e : Env) (s : State) (m : MethodId) (below : List Frame) (meth : Method) (c : Code) (b : Nat) (D : va_G) (cI cJ : ClassId) (h g : Nat → Nat) (ls : Array Slot) : Prop := ∀ (S1 : SX) (L1 : LX) (M1 : SX) (N1 : LX) (H1 : Heap) (locs1 : List Loc), bw_R S1 L1 M1 N1 → va_P D vwCl (wX h cI cJ S1 L1) H1 → va_P D vwCl (wM g cI cJ M1 N1) H1 → va_S (fun q => s.heap.size ≤ q) s.heap H1 locs1 → W p l e room_1 s m #[Value.ref b] below meth c H1 locs1 75 1823 (lw_Z below #[Value.ref b] s) (F0 m 1493 ls [])

set_option maxHeartbeats 4000000 in
set_option maxRecDepth 100000 in
theorem lk_lives (C0 : lw_At p s m meth c b Ln xs) (hE : lE D cI cJ t0 s.heap.size s) (hO : lw_ok h g s.heap.size) (hi : i + 6 ≤ Ln) (hL : Ln ≤ 384) (hl : lv_has ls 4 [(0, .ref b), (1, .ref (h 0)), (2, .ref (g 0)), (3, .int (nI i))]) (hR : bw_R S L M N) (hPX : va_P D vwCl (wX h cI cJ S L) H) (hPM : va_P D vwCl (wM g cI cJ M N) H) (hS : va_S (fun q => s.heap.size ≤ q) s.heap H locs) (kk : lw_K p l e s m below meth c b D cI cJ h g ls) : W p l e room_1 s m #[Value.ref b] below meth c H locs 75 1823 (lw_Z below #[Value.ref b] s) (F0 m 180 ls []) := by
  obtain ⟨hx, hb, hr, hml, hown, hts0, hX, hbl, hlocks, hgv⟩ := C0
  have hts : ∀ w ∈ wsL_law, w.before #[Value.ref b] s = true := fun w hw => hts0 w (wsL_law_in w hw)
  refine lv_aload_n hx hb dL_law_180 rfl (lv_at hl 1 rfl) ?_
  refine lw_arg hx hb hX hbl hS hl hi hL 1 (by decide) (by decide) dL_law_181 dL_law_182 dL_law_183 dL_law_184 dL_law_185 rfl rfl rfl rfl rfl ?_
  refine lw_arg hx hb hX hbl hS hl hi hL 2 (by decide) (by decide) dL_law_186 dL_law_187 dL_law_188 dL_law_189 dL_law_190 rfl rfl rfl rfl rfl ?_
  refine lcXi (As := [.int (xs (i + 1)), .int (xs (i + 2))]) (rest := []) hE hO hPX hPM hS ⟨hx, hb, hml, hown, hts⟩ (mX6_lives l D h cI cJ t0 hO.1 S L (xs (i + 1)) (xs (i + 2)) _ (ok_lives hR (xs (i + 1)) (xs (i + 2)))) (cwV 2 hts gL_law_X6_lives rfl rfl rfl (by decide +kernel) ⟨Nat.le_of_ble_eq_true rfl, Nat.le_of_ble_eq_true rfl⟩) rfl hl.1 rfl (Nat.le_of_ble_eq_true rfl) dL_law_191 ⟨Nat.le_of_ble_eq_true rfl, Nat.le_of_ble_eq_true rfl⟩ (fun r u H1 locs1 hw hPX1 hPM1 hS1 => ?_)
  obtain ⟨uS, uL⟩ := u
  dsimp only at hw hPX1
  obtain ⟨hw, rfl⟩ := hw
  refine lv_aload_n hx hb dL_law_194 rfl (lv_at hl 2 rfl) ?_
  refine lw_arg hx hb hX hbl hS1 hl hi hL 1 (by decide) (by decide) dL_law_195 dL_law_196 dL_law_197 dL_law_198 dL_law_199 rfl rfl rfl rfl rfl ?_
  refine lw_arg hx hb hX hbl hS1 hl hi hL 2 (by decide) (by decide) dL_law_200 dL_law_201 dL_law_202 dL_law_203 dL_law_204 rfl rfl rfl rfl rfl ?_
  refine lcMi (As := [.int (xs (i + 1)), .int (xs (i + 2))]) (rest := [.int r]) hE hO hPX1 hPM1 hS1 ⟨hx, hb, hml, hown, hts⟩ (mX7_lives l D g cI cJ hO.2.1 M N (xs (i + 1)) (xs (i + 2)) _ hw) (cwV 2 hts gL_law_X7_lives rfl rfl rfl (by decide +kernel) ⟨Nat.le_of_ble_eq_true rfl, Nat.le_of_ble_eq_true rfl⟩) rfl hl.1 rfl (Nat.le_of_ble_eq_true rfl) dL_law_205 ⟨Nat.le_of_ble_eq_true rfl, Nat.le_of_ble_eq_true rfl⟩ (fun r2 u2 H2 locs2 hv hPX2 hPM2 hS2 => ?_)
  obtain ⟨uM, uN⟩ := u2
  dsimp only at hv hPM2
  obtain ⟨hv, rfl⟩ := hv
  obtain ⟨he, hR2⟩ := hv
  exact lv_icmp_eq (tgt := 1493) hx hb dL_law_208 (by decide) (fun _ => kk _ _ _ _ _ _ hR2 hPX2 hPM2 hS2) (fun z => absurd he z)
set_option maxHeartbeats 4000000 in
set_option maxRecDepth 100000 in
theorem lk_set (C0 : lw_At p s m meth c b Ln xs) (hE : lE D cI cJ t0 s.heap.size s) (hO : lw_ok h g s.heap.size) (hi : i + 6 ≤ Ln) (hL : Ln ≤ 384) (hl : lv_has ls 4 [(0, .ref b), (1, .ref (h 0)), (2, .ref (g 0)), (3, .int (nI i))]) (hR : bw_R S L M N) (hPX : va_P D vwCl (wX h cI cJ S L) H) (hPM : va_P D vwCl (wM g cI cJ M N) H) (hS : va_S (fun q => s.heap.size ≤ q) s.heap H locs) (kk : lw_K p l e s m below meth c b D cI cJ h g ls) : W p l e room_1 s m #[Value.ref b] below meth c H locs 75 1823 (lw_Z below #[Value.ref b] s) (F0 m 213 ls []) := by
  obtain ⟨hx, hb, hr, hml, hown, hts0, hX, hbl, hlocks, hgv⟩ := C0
  have hts : ∀ w ∈ wsL_law, w.before #[Value.ref b] s = true := fun w hw => hts0 w (wsL_law_in w hw)
  refine lv_aload_n hx hb dL_law_213 rfl (lv_at hl 1 rfl) ?_
  refine lw_arg hx hb hX hbl hS hl hi hL 1 (by decide) (by decide) dL_law_214 dL_law_215 dL_law_216 dL_law_217 dL_law_218 rfl rfl rfl rfl rfl ?_
  refine lw_arg hx hb hX hbl hS hl hi hL 2 (by decide) (by decide) dL_law_219 dL_law_220 dL_law_221 dL_law_222 dL_law_223 rfl rfl rfl rfl rfl ?_
  refine lcXi (As := [.int (xs (i + 1)), .int (xs (i + 2))]) (rest := []) hE hO hPX hPM hS ⟨hx, hb, hml, hown, hts⟩ (mX6_set l D h cI cJ t0 hO.1 S L (xs (i + 1)) (xs (i + 2)) _ (ok_set hR (xs (i + 1)) (xs (i + 2)))) (cwV 2 hts gL_law_X6_set rfl rfl rfl (by decide +kernel) ⟨Nat.le_of_ble_eq_true rfl, Nat.le_of_ble_eq_true rfl⟩) rfl hl.1 rfl (Nat.le_of_ble_eq_true rfl) dL_law_224 ⟨Nat.le_of_ble_eq_true rfl, Nat.le_of_ble_eq_true rfl⟩ (fun r u H1 locs1 hw hPX1 hPM1 hS1 => ?_)
  obtain ⟨uS, uL⟩ := u
  dsimp only at hw hPX1
  obtain ⟨hw, rfl⟩ := hw
  refine lv_aload_n hx hb dL_law_227 rfl (lv_at hl 2 rfl) ?_
  refine lw_arg hx hb hX hbl hS1 hl hi hL 1 (by decide) (by decide) dL_law_228 dL_law_229 dL_law_230 dL_law_231 dL_law_232 rfl rfl rfl rfl rfl ?_
  refine lw_arg hx hb hX hbl hS1 hl hi hL 2 (by decide) (by decide) dL_law_233 dL_law_234 dL_law_235 dL_law_236 dL_law_237 rfl rfl rfl rfl rfl ?_
  refine lcMi (As := [.int (xs (i + 1)), .int (xs (i + 2))]) (rest := [.int r]) hE hO hPX1 hPM1 hS1 ⟨hx, hb, hml, hown, hts⟩ (mX7_set l D g cI cJ hO.2.1 M N (xs (i + 1)) (xs (i + 2)) _ hw) (cwV 2 hts gL_law_X7_set rfl rfl rfl (by decide +kernel) ⟨Nat.le_of_ble_eq_true rfl, Nat.le_of_ble_eq_true rfl⟩) rfl hl.1 rfl (Nat.le_of_ble_eq_true rfl) dL_law_238 ⟨Nat.le_of_ble_eq_true rfl, Nat.le_of_ble_eq_true rfl⟩ (fun r2 u2 H2 locs2 hv hPX2 hPM2 hS2 => ?_)
  obtain ⟨uM, uN⟩ := u2
  dsimp only at hv hPM2
  obtain ⟨hv, rfl⟩ := hv
  obtain ⟨he, hR2⟩ := hv
  exact lv_icmp_eq (tgt := 1493) hx hb dL_law_241 (by decide) (fun _ => kk _ _ _ _ _ _ hR2 hPX2 hPM2 hS2) (fun z => absurd he z)
set_option maxHeartbeats 4000000 in
set_option maxRecDepth 100000 in
theorem lk_will (C0 : lw_At p s m meth c b Ln xs) (hE : lE D cI cJ t0 s.heap.size s) (hO : lw_ok h g s.heap.size) (hi : i + 6 ≤ Ln) (hL : Ln ≤ 384) (hl : lv_has ls 4 [(0, .ref b), (1, .ref (h 0)), (2, .ref (g 0)), (3, .int (nI i))]) (hR : bw_R S L M N) (hPX : va_P D vwCl (wX h cI cJ S L) H) (hPM : va_P D vwCl (wM g cI cJ M N) H) (hS : va_S (fun q => s.heap.size ≤ q) s.heap H locs) (kk : lw_K p l e s m below meth c b D cI cJ h g ls) : W p l e room_1 s m #[Value.ref b] below meth c H locs 75 1823 (lw_Z below #[Value.ref b] s) (F0 m 246 ls []) := by
  obtain ⟨hx, hb, hr, hml, hown, hts0, hX, hbl, hlocks, hgv⟩ := C0
  have hts : ∀ w ∈ wsL_law, w.before #[Value.ref b] s = true := fun w hw => hts0 w (wsL_law_in w hw)
  refine lv_aload_n hx hb dL_law_246 rfl (lv_at hl 1 rfl) ?_
  refine lw_arg hx hb hX hbl hS hl hi hL 1 (by decide) (by decide) dL_law_247 dL_law_248 dL_law_249 dL_law_250 dL_law_251 rfl rfl rfl rfl rfl ?_
  refine lw_arg hx hb hX hbl hS hl hi hL 2 (by decide) (by decide) dL_law_252 dL_law_253 dL_law_254 dL_law_255 dL_law_256 rfl rfl rfl rfl rfl ?_
  refine lw_arg hx hb hX hbl hS hl hi hL 3 (by decide) (by decide) dL_law_257 dL_law_258 dL_law_259 dL_law_260 dL_law_261 rfl rfl rfl rfl rfl ?_
  refine lw_arg hx hb hX hbl hS hl hi hL 4 (by decide) (by decide) dL_law_262 dL_law_263 dL_law_264 dL_law_265 dL_law_266 rfl rfl rfl rfl rfl ?_
  refine lcXi (As := [.int (xs (i + 1)), .int (xs (i + 2)), .int (xs (i + 3)), .int (xs (i + 4))]) (rest := []) hE hO hPX hPM hS ⟨hx, hb, hml, hown, hts⟩ (mX6_will l D h cI cJ t0 hO.1 S L (xs (i + 1)) (xs (i + 2)) (xs (i + 3)) (xs (i + 4)) _ (ok_will hR (xs (i + 1)) (xs (i + 2)) (xs (i + 3)) (xs (i + 4)))) (cwV 4 hts gL_law_X6_will rfl rfl rfl (by decide +kernel) ⟨Nat.le_of_ble_eq_true rfl, Nat.le_of_ble_eq_true rfl⟩) rfl hl.1 rfl (Nat.le_of_ble_eq_true rfl) dL_law_267 ⟨Nat.le_of_ble_eq_true rfl, Nat.le_of_ble_eq_true rfl⟩ (fun r u H1 locs1 hw hPX1 hPM1 hS1 => ?_)
  obtain ⟨uS, uL⟩ := u
  dsimp only at hw hPX1
  obtain ⟨hw, rfl⟩ := hw
  refine lv_aload_n hx hb dL_law_270 rfl (lv_at hl 2 rfl) ?_
  refine lw_arg hx hb hX hbl hS1 hl hi hL 1 (by decide) (by decide) dL_law_271 dL_law_272 dL_law_273 dL_law_274 dL_law_275 rfl rfl rfl rfl rfl ?_
  refine lw_arg hx hb hX hbl hS1 hl hi hL 2 (by decide) (by decide) dL_law_276 dL_law_277 dL_law_278 dL_law_279 dL_law_280 rfl rfl rfl rfl rfl ?_
  refine lw_arg hx hb hX hbl hS1 hl hi hL 3 (by decide) (by decide) dL_law_281 dL_law_282 dL_law_283 dL_law_284 dL_law_285 rfl rfl rfl rfl rfl ?_
  refine lw_arg hx hb hX hbl hS1 hl hi hL 4 (by decide) (by decide) dL_law_286 dL_law_287 dL_law_288 dL_law_289 dL_law_290 rfl rfl rfl rfl rfl ?_
  refine lcMi (As := [.int (xs (i + 1)), .int (xs (i + 2)), .int (xs (i + 3)), .int (xs (i + 4))]) (rest := [.int r]) hE hO hPX1 hPM1 hS1 ⟨hx, hb, hml, hown, hts⟩ (mX7_will l D g cI cJ hO.2.1 M N (xs (i + 1)) (xs (i + 2)) (xs (i + 3)) (xs (i + 4)) _ hw) (cwV 4 hts gL_law_X7_will rfl rfl rfl (by decide +kernel) ⟨Nat.le_of_ble_eq_true rfl, Nat.le_of_ble_eq_true rfl⟩) rfl hl.1 rfl (Nat.le_of_ble_eq_true rfl) dL_law_291 ⟨Nat.le_of_ble_eq_true rfl, Nat.le_of_ble_eq_true rfl⟩ (fun r2 u2 H2 locs2 hv hPX2 hPM2 hS2 => ?_)
  obtain ⟨uM, uN⟩ := u2
  dsimp only at hv hPM2
  obtain ⟨hv, rfl⟩ := hv
  obtain ⟨he, hR2⟩ := hv
  exact lv_icmp_eq (tgt := 1493) hx hb dL_law_294 (by decide) (fun _ => kk _ _ _ _ _ _ hR2 hPX2 hPM2 hS2) (fun z => absurd he z)
set_option maxHeartbeats 4000000 in
set_option maxRecDepth 100000 in
theorem lk_had (C0 : lw_At p s m meth c b Ln xs) (hE : lE D cI cJ t0 s.heap.size s) (hO : lw_ok h g s.heap.size) (hi : i + 6 ≤ Ln) (hL : Ln ≤ 384) (hl : lv_has ls 4 [(0, .ref b), (1, .ref (h 0)), (2, .ref (g 0)), (3, .int (nI i))]) (hR : bw_R S L M N) (hPX : va_P D vwCl (wX h cI cJ S L) H) (hPM : va_P D vwCl (wM g cI cJ M N) H) (hS : va_S (fun q => s.heap.size ≤ q) s.heap H locs) (kk : lw_K p l e s m below meth c b D cI cJ h g ls) : W p l e room_1 s m #[Value.ref b] below meth c H locs 75 1823 (lw_Z below #[Value.ref b] s) (F0 m 299 ls []) := by
  obtain ⟨hx, hb, hr, hml, hown, hts0, hX, hbl, hlocks, hgv⟩ := C0
  have hts : ∀ w ∈ wsL_law, w.before #[Value.ref b] s = true := fun w hw => hts0 w (wsL_law_in w hw)
  refine lv_aload_n hx hb dL_law_299 rfl (lv_at hl 1 rfl) ?_
  refine lw_arg hx hb hX hbl hS hl hi hL 1 (by decide) (by decide) dL_law_300 dL_law_301 dL_law_302 dL_law_303 dL_law_304 rfl rfl rfl rfl rfl ?_
  refine lw_arg hx hb hX hbl hS hl hi hL 2 (by decide) (by decide) dL_law_305 dL_law_306 dL_law_307 dL_law_308 dL_law_309 rfl rfl rfl rfl rfl ?_
  refine lw_arg hx hb hX hbl hS hl hi hL 3 (by decide) (by decide) dL_law_310 dL_law_311 dL_law_312 dL_law_313 dL_law_314 rfl rfl rfl rfl rfl ?_
  refine lcXi (As := [.int (xs (i + 1)), .int (xs (i + 2)), .int (xs (i + 3))]) (rest := []) hE hO hPX hPM hS ⟨hx, hb, hml, hown, hts⟩ (mX6_had l D h cI cJ t0 hO.1 S L (xs (i + 1)) (xs (i + 2)) (xs (i + 3)) _ (ok_had hR (xs (i + 1)) (xs (i + 2)) (xs (i + 3)))) (cwV 3 hts gL_law_X6_had rfl rfl rfl (by decide +kernel) ⟨Nat.le_of_ble_eq_true rfl, Nat.le_of_ble_eq_true rfl⟩) rfl hl.1 rfl (Nat.le_of_ble_eq_true rfl) dL_law_315 ⟨Nat.le_of_ble_eq_true rfl, Nat.le_of_ble_eq_true rfl⟩ (fun r u H1 locs1 hw hPX1 hPM1 hS1 => ?_)
  obtain ⟨uS, uL⟩ := u
  dsimp only at hw hPX1
  obtain ⟨hw, rfl⟩ := hw
  refine lv_aload_n hx hb dL_law_318 rfl (lv_at hl 2 rfl) ?_
  refine lw_arg hx hb hX hbl hS1 hl hi hL 1 (by decide) (by decide) dL_law_319 dL_law_320 dL_law_321 dL_law_322 dL_law_323 rfl rfl rfl rfl rfl ?_
  refine lw_arg hx hb hX hbl hS1 hl hi hL 2 (by decide) (by decide) dL_law_324 dL_law_325 dL_law_326 dL_law_327 dL_law_328 rfl rfl rfl rfl rfl ?_
  refine lw_arg hx hb hX hbl hS1 hl hi hL 3 (by decide) (by decide) dL_law_329 dL_law_330 dL_law_331 dL_law_332 dL_law_333 rfl rfl rfl rfl rfl ?_
  refine lcMi (As := [.int (xs (i + 1)), .int (xs (i + 2)), .int (xs (i + 3))]) (rest := [.int r]) hE hO hPX1 hPM1 hS1 ⟨hx, hb, hml, hown, hts⟩ (mX7_had l D g cI cJ hO.2.1 M N (xs (i + 1)) (xs (i + 2)) (xs (i + 3)) _ hw) (cwV 3 hts gL_law_X7_had rfl rfl rfl (by decide +kernel) ⟨Nat.le_of_ble_eq_true rfl, Nat.le_of_ble_eq_true rfl⟩) rfl hl.1 rfl (Nat.le_of_ble_eq_true rfl) dL_law_334 ⟨Nat.le_of_ble_eq_true rfl, Nat.le_of_ble_eq_true rfl⟩ (fun r2 u2 H2 locs2 hv hPX2 hPM2 hS2 => ?_)
  obtain ⟨uM, uN⟩ := u2
  dsimp only at hv hPM2
  obtain ⟨hv, rfl⟩ := hv
  obtain ⟨he, hR2⟩ := hv
  exact lv_icmp_eq (tgt := 1493) hx hb dL_law_337 (by decide) (fun _ => kk _ _ _ _ _ _ hR2 hPX2 hPM2 hS2) (fun z => absurd he z)
set_option maxHeartbeats 4000000 in
set_option maxRecDepth 100000 in
theorem lk_told (C0 : lw_At p s m meth c b Ln xs) (hE : lE D cI cJ t0 s.heap.size s) (hO : lw_ok h g s.heap.size) (hi : i + 6 ≤ Ln) (hL : Ln ≤ 384) (hl : lv_has ls 4 [(0, .ref b), (1, .ref (h 0)), (2, .ref (g 0)), (3, .int (nI i))]) (hR : bw_R S L M N) (hPX : va_P D vwCl (wX h cI cJ S L) H) (hPM : va_P D vwCl (wM g cI cJ M N) H) (hS : va_S (fun q => s.heap.size ≤ q) s.heap H locs) (kk : lw_K p l e s m below meth c b D cI cJ h g ls) : W p l e room_1 s m #[Value.ref b] below meth c H locs 75 1823 (lw_Z below #[Value.ref b] s) (F0 m 342 ls []) := by
  obtain ⟨hx, hb, hr, hml, hown, hts0, hX, hbl, hlocks, hgv⟩ := C0
  have hts : ∀ w ∈ wsL_law, w.before #[Value.ref b] s = true := fun w hw => hts0 w (wsL_law_in w hw)
  refine lv_aload_n hx hb dL_law_342 rfl (lv_at hl 1 rfl) ?_
  refine lw_arg hx hb hX hbl hS hl hi hL 1 (by decide) (by decide) dL_law_343 dL_law_344 dL_law_345 dL_law_346 dL_law_347 rfl rfl rfl rfl rfl ?_
  refine lw_arg hx hb hX hbl hS hl hi hL 2 (by decide) (by decide) dL_law_348 dL_law_349 dL_law_350 dL_law_351 dL_law_352 rfl rfl rfl rfl rfl ?_
  refine lcXi (As := [.int (xs (i + 1)), .int (xs (i + 2))]) (rest := []) hE hO hPX hPM hS ⟨hx, hb, hml, hown, hts⟩ (mX6_told l D h cI cJ t0 hO.1 S L (xs (i + 1)) (xs (i + 2)) _ (ok_told hR (xs (i + 1)) (xs (i + 2)))) (cwV 2 hts gL_law_X6_told rfl rfl rfl (by decide +kernel) ⟨Nat.le_of_ble_eq_true rfl, Nat.le_of_ble_eq_true rfl⟩) rfl hl.1 rfl (Nat.le_of_ble_eq_true rfl) dL_law_353 ⟨Nat.le_of_ble_eq_true rfl, Nat.le_of_ble_eq_true rfl⟩ (fun r u H1 locs1 hw hPX1 hPM1 hS1 => ?_)
  obtain ⟨uS, uL⟩ := u
  dsimp only at hw hPX1
  obtain ⟨hw, rfl, rfl⟩ := hw
  refine lv_aload_n hx hb dL_law_356 rfl (lv_at hl 2 rfl) ?_
  refine lw_arg hx hb hX hbl hS1 hl hi hL 1 (by decide) (by decide) dL_law_357 dL_law_358 dL_law_359 dL_law_360 dL_law_361 rfl rfl rfl rfl rfl ?_
  refine lw_arg hx hb hX hbl hS1 hl hi hL 2 (by decide) (by decide) dL_law_362 dL_law_363 dL_law_364 dL_law_365 dL_law_366 rfl rfl rfl rfl rfl ?_
  refine lcMi (As := [.int (xs (i + 1)), .int (xs (i + 2))]) (rest := [.int r]) hE hO hPX1 hPM1 hS1 ⟨hx, hb, hml, hown, hts⟩ (mX7_told l D g cI cJ hO.2.1 M N (xs (i + 1)) (xs (i + 2)) _ hw) (cwV 2 hts gL_law_X7_told rfl rfl rfl (by decide +kernel) ⟨Nat.le_of_ble_eq_true rfl, Nat.le_of_ble_eq_true rfl⟩) rfl hl.1 rfl (Nat.le_of_ble_eq_true rfl) dL_law_367 ⟨Nat.le_of_ble_eq_true rfl, Nat.le_of_ble_eq_true rfl⟩ (fun r2 u2 H2 locs2 hv hPX2 hPM2 hS2 => ?_)
  obtain ⟨uM, uN⟩ := u2
  dsimp only at hv hPM2
  obtain ⟨hv, rfl, rfl⟩ := hv
  have hR2 := hR
  have he := hv
  exact lv_icmp_eq (tgt := 1493) hx hb dL_law_370 (by decide) (fun _ => kk _ _ _ _ _ _ hR2 hPX2 hPM2 hS2) (fun z => absurd he z)
set_option maxHeartbeats 4000000 in
set_option maxRecDepth 100000 in
theorem lk_burn (C0 : lw_At p s m meth c b Ln xs) (hE : lE D cI cJ t0 s.heap.size s) (hO : lw_ok h g s.heap.size) (hi : i + 6 ≤ Ln) (hL : Ln ≤ 384) (hl : lv_has ls 4 [(0, .ref b), (1, .ref (h 0)), (2, .ref (g 0)), (3, .int (nI i))]) (hR : bw_R S L M N) (hPX : va_P D vwCl (wX h cI cJ S L) H) (hPM : va_P D vwCl (wM g cI cJ M N) H) (hS : va_S (fun q => s.heap.size ≤ q) s.heap H locs) (kk : lw_K p l e s m below meth c b D cI cJ h g ls) : W p l e room_1 s m #[Value.ref b] below meth c H locs 75 1823 (lw_Z below #[Value.ref b] s) (F0 m 375 ls []) := by
  obtain ⟨hx, hb, hr, hml, hown, hts0, hX, hbl, hlocks, hgv⟩ := C0
  have hts : ∀ w ∈ wsL_law, w.before #[Value.ref b] s = true := fun w hw => hts0 w (wsL_law_in w hw)
  refine lv_aload_n hx hb dL_law_375 rfl (lv_at hl 1 rfl) ?_
  refine lw_arg hx hb hX hbl hS hl hi hL 1 (by decide) (by decide) dL_law_376 dL_law_377 dL_law_378 dL_law_379 dL_law_380 rfl rfl rfl rfl rfl ?_
  refine lcXi (As := [.int (xs (i + 1))]) (rest := []) hE hO hPX hPM hS ⟨hx, hb, hml, hown, hts⟩ (mX6_burn l D h cI cJ t0 hO.1 S L (xs (i + 1)) _ (ok_burn hR (xs (i + 1)))) (cwV 1 hts gL_law_X6_burn rfl rfl rfl (by decide +kernel) ⟨Nat.le_of_ble_eq_true rfl, Nat.le_of_ble_eq_true rfl⟩) rfl hl.1 rfl (Nat.le_of_ble_eq_true rfl) dL_law_381 ⟨Nat.le_of_ble_eq_true rfl, Nat.le_of_ble_eq_true rfl⟩ (fun r u H1 locs1 hw hPX1 hPM1 hS1 => ?_)
  obtain ⟨uS, uL⟩ := u
  dsimp only at hw hPX1
  obtain ⟨hw, rfl⟩ := hw
  refine lv_aload_n hx hb dL_law_384 rfl (lv_at hl 2 rfl) ?_
  refine lw_arg hx hb hX hbl hS1 hl hi hL 1 (by decide) (by decide) dL_law_385 dL_law_386 dL_law_387 dL_law_388 dL_law_389 rfl rfl rfl rfl rfl ?_
  refine lcMi (As := [.int (xs (i + 1))]) (rest := [.int r]) hE hO hPX1 hPM1 hS1 ⟨hx, hb, hml, hown, hts⟩ (mX7_burn l D g cI cJ hO.2.1 M N (xs (i + 1)) _ hw) (cwV 1 hts gL_law_X7_burn rfl rfl rfl (by decide +kernel) ⟨Nat.le_of_ble_eq_true rfl, Nat.le_of_ble_eq_true rfl⟩) rfl hl.1 rfl (Nat.le_of_ble_eq_true rfl) dL_law_390 ⟨Nat.le_of_ble_eq_true rfl, Nat.le_of_ble_eq_true rfl⟩ (fun r2 u2 H2 locs2 hv hPX2 hPM2 hS2 => ?_)
  obtain ⟨uM, uN⟩ := u2
  dsimp only at hv hPM2
  obtain ⟨hv, rfl⟩ := hv
  obtain ⟨he, hR2⟩ := hv
  exact lv_icmp_eq (tgt := 1493) hx hb dL_law_393 (by decide) (fun _ => kk _ _ _ _ _ _ hR2 hPX2 hPM2 hS2) (fun z => absurd he z)
set_option maxHeartbeats 4000000 in
set_option maxRecDepth 100000 in
theorem lk_type (C0 : lw_At p s m meth c b Ln xs) (hE : lE D cI cJ t0 s.heap.size s) (hO : lw_ok h g s.heap.size) (hi : i + 6 ≤ Ln) (hL : Ln ≤ 384) (hl : lv_has ls 4 [(0, .ref b), (1, .ref (h 0)), (2, .ref (g 0)), (3, .int (nI i))]) (hR : bw_R S L M N) (hPX : va_P D vwCl (wX h cI cJ S L) H) (hPM : va_P D vwCl (wM g cI cJ M N) H) (hS : va_S (fun q => s.heap.size ≤ q) s.heap H locs) (kk : lw_K p l e s m below meth c b D cI cJ h g ls) : W p l e room_1 s m #[Value.ref b] below meth c H locs 75 1823 (lw_Z below #[Value.ref b] s) (F0 m 398 ls []) := by
  obtain ⟨hx, hb, hr, hml, hown, hts0, hX, hbl, hlocks, hgv⟩ := C0
  have hts : ∀ w ∈ wsL_law, w.before #[Value.ref b] s = true := fun w hw => hts0 w (wsL_law_in w hw)
  refine lv_aload_n hx hb dL_law_398 rfl (lv_at hl 1 rfl) ?_
  refine lw_arg hx hb hX hbl hS hl hi hL 1 (by decide) (by decide) dL_law_399 dL_law_400 dL_law_401 dL_law_402 dL_law_403 rfl rfl rfl rfl rfl ?_
  refine lv_i2l hx hb dL_law_404 rfl ?_
  refine lv_bipush (v := (32 : Int32)) hx hb dL_law_405 (by decide) ?_
  refine lv_lshl hx hb dL_law_407 rfl ?_
  refine lw_arg hx hb hX hbl hS hl hi hL 2 (by decide) (by decide) dL_law_408 dL_law_409 dL_law_410 dL_law_411 dL_law_412 rfl rfl rfl rfl rfl ?_
  refine lv_i2l hx hb dL_law_413 rfl ?_
  refine lv_ldc2 (v := (4294967295 : Int64)) hx hb hown (hts _ lw_c41) dL_law_414 ?_
  refine lv_land hx hb dL_law_417 ?_
  refine lv_lor hx hb dL_law_418 ?_
  refine lw_arg hx hb hX hbl hS hl hi hL 3 (by decide) (by decide) dL_law_419 dL_law_420 dL_law_421 dL_law_422 dL_law_423 rfl rfl rfl rfl rfl ?_
  refine lcXi (As := [.long (lw_lo (xs (i + 1)) (xs (i + 2))), .int (xs (i + 3))]) (rest := []) hE hO hPX hPM hS ⟨hx, hb, hml, hown, hts⟩ (mX6_type l D h cI cJ t0 hO.1 S L (lw_lo (xs (i + 1)) (xs (i + 2))) (xs (i + 3)) _ (ok_type hR (lw_lo (xs (i + 1)) (xs (i + 2))) (xs (i + 3)))) (cwV 2 hts gL_law_X6_type rfl rfl rfl (by decide +kernel) ⟨Nat.le_of_ble_eq_true rfl, Nat.le_of_ble_eq_true rfl⟩) rfl hl.1 rfl (Nat.le_of_ble_eq_true rfl) dL_law_424 ⟨Nat.le_of_ble_eq_true rfl, Nat.le_of_ble_eq_true rfl⟩ (fun r u H1 locs1 hw hPX1 hPM1 hS1 => ?_)
  obtain ⟨uS, uL⟩ := u
  dsimp only at hw hPX1
  obtain ⟨hw, rfl⟩ := hw
  refine lv_aload_n hx hb dL_law_427 rfl (lv_at hl 2 rfl) ?_
  refine lw_arg hx hb hX hbl hS1 hl hi hL 1 (by decide) (by decide) dL_law_428 dL_law_429 dL_law_430 dL_law_431 dL_law_432 rfl rfl rfl rfl rfl ?_
  refine lv_i2l hx hb dL_law_433 rfl ?_
  refine lv_bipush (v := (32 : Int32)) hx hb dL_law_434 (by decide) ?_
  refine lv_lshl hx hb dL_law_436 rfl ?_
  refine lw_arg hx hb hX hbl hS1 hl hi hL 2 (by decide) (by decide) dL_law_437 dL_law_438 dL_law_439 dL_law_440 dL_law_441 rfl rfl rfl rfl rfl ?_
  refine lv_i2l hx hb dL_law_442 rfl ?_
  refine lv_ldc2 (v := (4294967295 : Int64)) hx hb hown (hts _ lw_c41) dL_law_443 ?_
  refine lv_land hx hb dL_law_446 ?_
  refine lv_lor hx hb dL_law_447 ?_
  refine lw_arg hx hb hX hbl hS1 hl hi hL 3 (by decide) (by decide) dL_law_448 dL_law_449 dL_law_450 dL_law_451 dL_law_452 rfl rfl rfl rfl rfl ?_
  refine lcMi (As := [.long (lw_lo (xs (i + 1)) (xs (i + 2))), .int (xs (i + 3))]) (rest := [.int r]) hE hO hPX1 hPM1 hS1 ⟨hx, hb, hml, hown, hts⟩ (mX7_type l D g cI cJ hO.2.1 M N (lw_lo (xs (i + 1)) (xs (i + 2))) (xs (i + 3)) _ hw) (cwV 2 hts gL_law_X7_type rfl rfl rfl (by decide +kernel) ⟨Nat.le_of_ble_eq_true rfl, Nat.le_of_ble_eq_true rfl⟩) rfl hl.1 rfl (Nat.le_of_ble_eq_true rfl) dL_law_453 ⟨Nat.le_of_ble_eq_true rfl, Nat.le_of_ble_eq_true rfl⟩ (fun r2 u2 H2 locs2 hv hPX2 hPM2 hS2 => ?_)
  obtain ⟨uM, uN⟩ := u2
  dsimp only at hv hPM2
  obtain ⟨hv, rfl⟩ := hv
  obtain ⟨he, hR2⟩ := hv
  exact lv_icmp_eq (tgt := 1493) hx hb dL_law_456 (by decide) (fun _ => kk _ _ _ _ _ _ hR2 hPX2 hPM2 hS2) (fun z => absurd he z)
set_option maxHeartbeats 4000000 in
set_option maxRecDepth 100000 in
theorem lk_rules (C0 : lw_At p s m meth c b Ln xs) (hE : lE D cI cJ t0 s.heap.size s) (hO : lw_ok h g s.heap.size) (hi : i + 6 ≤ Ln) (hL : Ln ≤ 384) (hl : lv_has ls 4 [(0, .ref b), (1, .ref (h 0)), (2, .ref (g 0)), (3, .int (nI i))]) (hR : bw_R S L M N) (hPX : va_P D vwCl (wX h cI cJ S L) H) (hPM : va_P D vwCl (wM g cI cJ M N) H) (hS : va_S (fun q => s.heap.size ≤ q) s.heap H locs) (kk : lw_K p l e s m below meth c b D cI cJ h g ls) : W p l e room_1 s m #[Value.ref b] below meth c H locs 75 1823 (lw_Z below #[Value.ref b] s) (F0 m 461 ls []) := by
  obtain ⟨hx, hb, hr, hml, hown, hts0, hX, hbl, hlocks, hgv⟩ := C0
  have hts : ∀ w ∈ wsL_law, w.before #[Value.ref b] s = true := fun w hw => hts0 w (wsL_law_in w hw)
  refine lv_aload_n hx hb dL_law_461 rfl (lv_at hl 1 rfl) ?_
  refine lcXi (As := []) (rest := []) hE hO hPX hPM hS ⟨hx, hb, hml, hown, hts⟩ (mX6_rules l D h cI cJ t0 hO.1 S L  _ (ok_rules hR )) (cwV 0 hts gL_law_X6_rules rfl rfl rfl (by decide +kernel) ⟨Nat.le_of_ble_eq_true rfl, Nat.le_of_ble_eq_true rfl⟩) rfl hl.1 rfl (Nat.le_of_ble_eq_true rfl) dL_law_462 ⟨Nat.le_of_ble_eq_true rfl, Nat.le_of_ble_eq_true rfl⟩ (fun r u H1 locs1 hw hPX1 hPM1 hS1 => ?_)
  obtain ⟨uS, uL⟩ := u
  dsimp only at hw hPX1
  obtain ⟨hw, rfl⟩ := hw
  refine lv_aload_n hx hb dL_law_465 rfl (lv_at hl 2 rfl) ?_
  refine lcMi (As := []) (rest := [.int r]) hE hO hPX1 hPM1 hS1 ⟨hx, hb, hml, hown, hts⟩ (mX7_rules l D g cI cJ hO.2.1 M N  _ hw) (cwV 0 hts gL_law_X7_rules rfl rfl rfl (by decide +kernel) ⟨Nat.le_of_ble_eq_true rfl, Nat.le_of_ble_eq_true rfl⟩) rfl hl.1 rfl (Nat.le_of_ble_eq_true rfl) dL_law_466 ⟨Nat.le_of_ble_eq_true rfl, Nat.le_of_ble_eq_true rfl⟩ (fun r2 u2 H2 locs2 hv hPX2 hPM2 hS2 => ?_)
  obtain ⟨uM, uN⟩ := u2
  dsimp only at hv hPM2
  obtain ⟨hv, rfl⟩ := hv
  obtain ⟨he, hR2⟩ := hv
  exact lv_icmp_eq (tgt := 1493) hx hb dL_law_469 (by decide) (fun _ => kk _ _ _ _ _ _ hR2 hPX2 hPM2 hS2) (fun z => absurd he z)
set_option maxHeartbeats 4000000 in
set_option maxRecDepth 100000 in
theorem lk_rule (C0 : lw_At p s m meth c b Ln xs) (hE : lE D cI cJ t0 s.heap.size s) (hO : lw_ok h g s.heap.size) (hi : i + 6 ≤ Ln) (hL : Ln ≤ 384) (hl : lv_has ls 4 [(0, .ref b), (1, .ref (h 0)), (2, .ref (g 0)), (3, .int (nI i))]) (hR : bw_R S L M N) (hPX : va_P D vwCl (wX h cI cJ S L) H) (hPM : va_P D vwCl (wM g cI cJ M N) H) (hS : va_S (fun q => s.heap.size ≤ q) s.heap H locs) (kk : lw_K p l e s m below meth c b D cI cJ h g ls) : W p l e room_1 s m #[Value.ref b] below meth c H locs 75 1823 (lw_Z below #[Value.ref b] s) (F0 m 474 ls []) := by
  obtain ⟨hx, hb, hr, hml, hown, hts0, hX, hbl, hlocks, hgv⟩ := C0
  have hts : ∀ w ∈ wsL_law, w.before #[Value.ref b] s = true := fun w hw => hts0 w (wsL_law_in w hw)
  refine lv_aload_n hx hb dL_law_474 rfl (lv_at hl 1 rfl) ?_
  refine lw_arg hx hb hX hbl hS hl hi hL 1 (by decide) (by decide) dL_law_475 dL_law_476 dL_law_477 dL_law_478 dL_law_479 rfl rfl rfl rfl rfl ?_
  refine lw_arg hx hb hX hbl hS hl hi hL 2 (by decide) (by decide) dL_law_480 dL_law_481 dL_law_482 dL_law_483 dL_law_484 rfl rfl rfl rfl rfl ?_
  refine lcXi (As := [.int (xs (i + 1)), .int (xs (i + 2))]) (rest := []) hE hO hPX hPM hS ⟨hx, hb, hml, hown, hts⟩ (mX6_rule l D h cI cJ t0 hO.1 S L (xs (i + 1)) (xs (i + 2)) _ (ok_rule hR (xs (i + 1)) (xs (i + 2)))) (cwV 2 hts gL_law_X6_rule rfl rfl rfl (by decide +kernel) ⟨Nat.le_of_ble_eq_true rfl, Nat.le_of_ble_eq_true rfl⟩) rfl hl.1 rfl (Nat.le_of_ble_eq_true rfl) dL_law_485 ⟨Nat.le_of_ble_eq_true rfl, Nat.le_of_ble_eq_true rfl⟩ (fun r u H1 locs1 hw hPX1 hPM1 hS1 => ?_)
  obtain ⟨uS, uL⟩ := u
  dsimp only at hw hPX1
  obtain ⟨hw, rfl, rfl⟩ := hw
  refine lv_aload_n hx hb dL_law_488 rfl (lv_at hl 2 rfl) ?_
  refine lw_arg hx hb hX hbl hS1 hl hi hL 1 (by decide) (by decide) dL_law_489 dL_law_490 dL_law_491 dL_law_492 dL_law_493 rfl rfl rfl rfl rfl ?_
  refine lw_arg hx hb hX hbl hS1 hl hi hL 2 (by decide) (by decide) dL_law_494 dL_law_495 dL_law_496 dL_law_497 dL_law_498 rfl rfl rfl rfl rfl ?_
  refine lcMi (As := [.int (xs (i + 1)), .int (xs (i + 2))]) (rest := [.int r]) hE hO hPX1 hPM1 hS1 ⟨hx, hb, hml, hown, hts⟩ (mX7_rule l D g cI cJ hO.2.1 M N (xs (i + 1)) (xs (i + 2)) _ hw) (cwV 2 hts gL_law_X7_rule rfl rfl rfl (by decide +kernel) ⟨Nat.le_of_ble_eq_true rfl, Nat.le_of_ble_eq_true rfl⟩) rfl hl.1 rfl (Nat.le_of_ble_eq_true rfl) dL_law_499 ⟨Nat.le_of_ble_eq_true rfl, Nat.le_of_ble_eq_true rfl⟩ (fun r2 u2 H2 locs2 hv hPX2 hPM2 hS2 => ?_)
  obtain ⟨uM, uN⟩ := u2
  dsimp only at hv hPM2
  obtain ⟨hv, rfl, rfl⟩ := hv
  have hR2 := hR
  have he := hv
  exact lv_icmp_eq (tgt := 1493) hx hb dL_law_502 (by decide) (fun _ => kk _ _ _ _ _ _ hR2 hPX2 hPM2 hS2) (fun z => absurd he z)
set_option maxHeartbeats 4000000 in
set_option maxRecDepth 100000 in
theorem lk_wills (C0 : lw_At p s m meth c b Ln xs) (hE : lE D cI cJ t0 s.heap.size s) (hO : lw_ok h g s.heap.size) (hi : i + 6 ≤ Ln) (hL : Ln ≤ 384) (hl : lv_has ls 4 [(0, .ref b), (1, .ref (h 0)), (2, .ref (g 0)), (3, .int (nI i))]) (hR : bw_R S L M N) (hPX : va_P D vwCl (wX h cI cJ S L) H) (hPM : va_P D vwCl (wM g cI cJ M N) H) (hS : va_S (fun q => s.heap.size ≤ q) s.heap H locs) (kk : lw_K p l e s m below meth c b D cI cJ h g ls) : W p l e room_1 s m #[Value.ref b] below meth c H locs 75 1823 (lw_Z below #[Value.ref b] s) (F0 m 507 ls []) := by
  obtain ⟨hx, hb, hr, hml, hown, hts0, hX, hbl, hlocks, hgv⟩ := C0
  have hts : ∀ w ∈ wsL_law, w.before #[Value.ref b] s = true := fun w hw => hts0 w (wsL_law_in w hw)
  refine lv_aload_n hx hb dL_law_507 rfl (lv_at hl 1 rfl) ?_
  refine lcXi (As := []) (rest := []) hE hO hPX hPM hS ⟨hx, hb, hml, hown, hts⟩ (mX6_wills l D h cI cJ t0 hO.1 S L  _ (ok_wills hR )) (cwV 0 hts gL_law_X6_wills rfl rfl rfl (by decide +kernel) ⟨Nat.le_of_ble_eq_true rfl, Nat.le_of_ble_eq_true rfl⟩) rfl hl.1 rfl (Nat.le_of_ble_eq_true rfl) dL_law_508 ⟨Nat.le_of_ble_eq_true rfl, Nat.le_of_ble_eq_true rfl⟩ (fun r u H1 locs1 hw hPX1 hPM1 hS1 => ?_)
  obtain ⟨uS, uL⟩ := u
  dsimp only at hw hPX1
  obtain ⟨hw, rfl⟩ := hw
  refine lv_aload_n hx hb dL_law_511 rfl (lv_at hl 2 rfl) ?_
  refine lcMi (As := []) (rest := [.int r]) hE hO hPX1 hPM1 hS1 ⟨hx, hb, hml, hown, hts⟩ (mX7_wills l D g cI cJ hO.2.1 M N  _ hw) (cwV 0 hts gL_law_X7_wills rfl rfl rfl (by decide +kernel) ⟨Nat.le_of_ble_eq_true rfl, Nat.le_of_ble_eq_true rfl⟩) rfl hl.1 rfl (Nat.le_of_ble_eq_true rfl) dL_law_512 ⟨Nat.le_of_ble_eq_true rfl, Nat.le_of_ble_eq_true rfl⟩ (fun r2 u2 H2 locs2 hv hPX2 hPM2 hS2 => ?_)
  obtain ⟨uM, uN⟩ := u2
  dsimp only at hv hPM2
  obtain ⟨hv, rfl⟩ := hv
  obtain ⟨he, hR2⟩ := hv
  exact lv_icmp_eq (tgt := 1493) hx hb dL_law_515 (by decide) (fun _ => kk _ _ _ _ _ _ hR2 hPX2 hPM2 hS2) (fun z => absurd he z)
set_option maxHeartbeats 4000000 in
set_option maxRecDepth 100000 in
theorem lk_draw (C0 : lw_At p s m meth c b Ln xs) (hE : lE D cI cJ t0 s.heap.size s) (hO : lw_ok h g s.heap.size) (hi : i + 6 ≤ Ln) (hL : Ln ≤ 384) (hl : lv_has ls 4 [(0, .ref b), (1, .ref (h 0)), (2, .ref (g 0)), (3, .int (nI i))]) (hR : bw_R S L M N) (hPX : va_P D vwCl (wX h cI cJ S L) H) (hPM : va_P D vwCl (wM g cI cJ M N) H) (hS : va_S (fun q => s.heap.size ≤ q) s.heap H locs) (kk : lw_K p l e s m below meth c b D cI cJ h g ls) : W p l e room_1 s m #[Value.ref b] below meth c H locs 75 1823 (lw_Z below #[Value.ref b] s) (F0 m 520 ls []) := by
  obtain ⟨hx, hb, hr, hml, hown, hts0, hX, hbl, hlocks, hgv⟩ := C0
  have hts : ∀ w ∈ wsL_law, w.before #[Value.ref b] s = true := fun w hw => hts0 w (wsL_law_in w hw)
  refine lv_aload_n hx hb dL_law_520 rfl (lv_at hl 1 rfl) ?_
  refine lw_arg hx hb hX hbl hS hl hi hL 1 (by decide) (by decide) dL_law_521 dL_law_522 dL_law_523 dL_law_524 dL_law_525 rfl rfl rfl rfl rfl ?_
  refine lv_i2l hx hb dL_law_526 rfl ?_
  refine lv_bipush (v := (32 : Int32)) hx hb dL_law_527 (by decide) ?_
  refine lv_lshl hx hb dL_law_529 rfl ?_
  refine lw_arg hx hb hX hbl hS hl hi hL 2 (by decide) (by decide) dL_law_530 dL_law_531 dL_law_532 dL_law_533 dL_law_534 rfl rfl rfl rfl rfl ?_
  refine lv_i2l hx hb dL_law_535 rfl ?_
  refine lv_ldc2 (v := (4294967295 : Int64)) hx hb hown (hts _ lw_c41) dL_law_536 ?_
  refine lv_land hx hb dL_law_539 ?_
  refine lv_lor hx hb dL_law_540 ?_
  refine lw_arg hx hb hX hbl hS hl hi hL 3 (by decide) (by decide) dL_law_541 dL_law_542 dL_law_543 dL_law_544 dL_law_545 rfl rfl rfl rfl rfl ?_
  refine lw_arg hx hb hX hbl hS hl hi hL 4 (by decide) (by decide) dL_law_546 dL_law_547 dL_law_548 dL_law_549 dL_law_550 rfl rfl rfl rfl rfl ?_
  refine lcXi (As := [.long (lw_lo (xs (i + 1)) (xs (i + 2))), .int (xs (i + 3)), .int (xs (i + 4))]) (rest := []) hE hO hPX hPM hS ⟨hx, hb, hml, hown, hts⟩ (mX6_draw l D h cI cJ t0 hO.1 S L (lw_lo (xs (i + 1)) (xs (i + 2))) (xs (i + 3)) (xs (i + 4)) _ (ok_draw hR (lw_lo (xs (i + 1)) (xs (i + 2))) (xs (i + 3)) (xs (i + 4)))) (cwV 3 hts gL_law_X6_draw rfl rfl rfl (by decide +kernel) ⟨Nat.le_of_ble_eq_true rfl, Nat.le_of_ble_eq_true rfl⟩) rfl hl.1 rfl (Nat.le_of_ble_eq_true rfl) dL_law_551 ⟨Nat.le_of_ble_eq_true rfl, Nat.le_of_ble_eq_true rfl⟩ (fun r u H1 locs1 hw hPX1 hPM1 hS1 => ?_)
  obtain ⟨uS, uL⟩ := u
  dsimp only at hw hPX1
  obtain ⟨hw, rfl⟩ := hw
  refine lv_aload_n hx hb dL_law_554 rfl (lv_at hl 2 rfl) ?_
  refine lw_arg hx hb hX hbl hS1 hl hi hL 1 (by decide) (by decide) dL_law_555 dL_law_556 dL_law_557 dL_law_558 dL_law_559 rfl rfl rfl rfl rfl ?_
  refine lv_i2l hx hb dL_law_560 rfl ?_
  refine lv_bipush (v := (32 : Int32)) hx hb dL_law_561 (by decide) ?_
  refine lv_lshl hx hb dL_law_563 rfl ?_
  refine lw_arg hx hb hX hbl hS1 hl hi hL 2 (by decide) (by decide) dL_law_564 dL_law_565 dL_law_566 dL_law_567 dL_law_568 rfl rfl rfl rfl rfl ?_
  refine lv_i2l hx hb dL_law_569 rfl ?_
  refine lv_ldc2 (v := (4294967295 : Int64)) hx hb hown (hts _ lw_c41) dL_law_570 ?_
  refine lv_land hx hb dL_law_573 ?_
  refine lv_lor hx hb dL_law_574 ?_
  refine lw_arg hx hb hX hbl hS1 hl hi hL 3 (by decide) (by decide) dL_law_575 dL_law_576 dL_law_577 dL_law_578 dL_law_579 rfl rfl rfl rfl rfl ?_
  refine lw_arg hx hb hX hbl hS1 hl hi hL 4 (by decide) (by decide) dL_law_580 dL_law_581 dL_law_582 dL_law_583 dL_law_584 rfl rfl rfl rfl rfl ?_
  refine lcMi (As := [.long (lw_lo (xs (i + 1)) (xs (i + 2))), .int (xs (i + 3)), .int (xs (i + 4))]) (rest := [.int r]) hE hO hPX1 hPM1 hS1 ⟨hx, hb, hml, hown, hts⟩ (mX7_draw l D g cI cJ hO.2.1 M N (lw_lo (xs (i + 1)) (xs (i + 2))) (xs (i + 3)) (xs (i + 4)) _ hw) (cwV 3 hts gL_law_X7_draw rfl rfl rfl (by decide +kernel) ⟨Nat.le_of_ble_eq_true rfl, Nat.le_of_ble_eq_true rfl⟩) rfl hl.1 rfl (Nat.le_of_ble_eq_true rfl) dL_law_585 ⟨Nat.le_of_ble_eq_true rfl, Nat.le_of_ble_eq_true rfl⟩ (fun r2 u2 H2 locs2 hv hPX2 hPM2 hS2 => ?_)
  obtain ⟨uM, uN⟩ := u2
  dsimp only at hv hPM2
  obtain ⟨hv, rfl⟩ := hv
  obtain ⟨he, hR2⟩ := hv
  exact lv_icmp_eq (tgt := 1493) hx hb dL_law_588 (by decide) (fun _ => kk _ _ _ _ _ _ hR2 hPX2 hPM2 hS2) (fun z => absurd he z)
set_option maxHeartbeats 4000000 in
set_option maxRecDepth 100000 in
theorem lk_people (C0 : lw_At p s m meth c b Ln xs) (hE : lE D cI cJ t0 s.heap.size s) (hO : lw_ok h g s.heap.size) (hi : i + 6 ≤ Ln) (hL : Ln ≤ 384) (hl : lv_has ls 4 [(0, .ref b), (1, .ref (h 0)), (2, .ref (g 0)), (3, .int (nI i))]) (hR : bw_R S L M N) (hPX : va_P D vwCl (wX h cI cJ S L) H) (hPM : va_P D vwCl (wM g cI cJ M N) H) (hS : va_S (fun q => s.heap.size ≤ q) s.heap H locs) (kk : lw_K p l e s m below meth c b D cI cJ h g ls) : W p l e room_1 s m #[Value.ref b] below meth c H locs 75 1823 (lw_Z below #[Value.ref b] s) (F0 m 593 ls []) := by
  obtain ⟨hx, hb, hr, hml, hown, hts0, hX, hbl, hlocks, hgv⟩ := C0
  have hts : ∀ w ∈ wsL_law, w.before #[Value.ref b] s = true := fun w hw => hts0 w (wsL_law_in w hw)
  refine lv_aload_n hx hb dL_law_593 rfl (lv_at hl 1 rfl) ?_
  refine lw_arg hx hb hX hbl hS hl hi hL 1 (by decide) (by decide) dL_law_594 dL_law_595 dL_law_596 dL_law_597 dL_law_598 rfl rfl rfl rfl rfl ?_
  refine lw_arg hx hb hX hbl hS hl hi hL 2 (by decide) (by decide) dL_law_599 dL_law_600 dL_law_601 dL_law_602 dL_law_603 rfl rfl rfl rfl rfl ?_
  refine lw_arg hx hb hX hbl hS hl hi hL 3 (by decide) (by decide) dL_law_604 dL_law_605 dL_law_606 dL_law_607 dL_law_608 rfl rfl rfl rfl rfl ?_
  refine lcXi (As := [.int (xs (i + 1)), .int (xs (i + 2)), .int (xs (i + 3))]) (rest := []) hE hO hPX hPM hS ⟨hx, hb, hml, hown, hts⟩ (mX6_people l D h cI cJ t0 hO.1 S L (xs (i + 1)) (xs (i + 2)) (xs (i + 3)) _ (ok_people hR (xs (i + 1)) (xs (i + 2)) (xs (i + 3)))) (cwV 3 hts gL_law_X6_people rfl rfl rfl (by decide +kernel) ⟨Nat.le_of_ble_eq_true rfl, Nat.le_of_ble_eq_true rfl⟩) rfl hl.1 rfl (Nat.le_of_ble_eq_true rfl) dL_law_609 ⟨Nat.le_of_ble_eq_true rfl, Nat.le_of_ble_eq_true rfl⟩ (fun r u H1 locs1 hw hPX1 hPM1 hS1 => ?_)
  obtain ⟨uS, uL⟩ := u
  dsimp only at hw hPX1
  obtain ⟨hw, rfl⟩ := hw
  refine lv_aload_n hx hb dL_law_612 rfl (lv_at hl 2 rfl) ?_
  refine lw_arg hx hb hX hbl hS1 hl hi hL 1 (by decide) (by decide) dL_law_613 dL_law_614 dL_law_615 dL_law_616 dL_law_617 rfl rfl rfl rfl rfl ?_
  refine lw_arg hx hb hX hbl hS1 hl hi hL 2 (by decide) (by decide) dL_law_618 dL_law_619 dL_law_620 dL_law_621 dL_law_622 rfl rfl rfl rfl rfl ?_
  refine lw_arg hx hb hX hbl hS1 hl hi hL 3 (by decide) (by decide) dL_law_623 dL_law_624 dL_law_625 dL_law_626 dL_law_627 rfl rfl rfl rfl rfl ?_
  refine lcMi (As := [.int (xs (i + 1)), .int (xs (i + 2)), .int (xs (i + 3))]) (rest := [.int r]) hE hO hPX1 hPM1 hS1 ⟨hx, hb, hml, hown, hts⟩ (mX7_people l D g cI cJ hO.2.1 M N (xs (i + 1)) (xs (i + 2)) (xs (i + 3)) _ hw) (cwV 3 hts gL_law_X7_people rfl rfl rfl (by decide +kernel) ⟨Nat.le_of_ble_eq_true rfl, Nat.le_of_ble_eq_true rfl⟩) rfl hl.1 rfl (Nat.le_of_ble_eq_true rfl) dL_law_628 ⟨Nat.le_of_ble_eq_true rfl, Nat.le_of_ble_eq_true rfl⟩ (fun r2 u2 H2 locs2 hv hPX2 hPM2 hS2 => ?_)
  obtain ⟨uM, uN⟩ := u2
  dsimp only at hv hPM2
  obtain ⟨hv, rfl⟩ := hv
  obtain ⟨he, hR2⟩ := hv
  exact lv_icmp_eq (tgt := 1493) hx hb dL_law_631 (by decide) (fun _ => kk _ _ _ _ _ _ hR2 hPX2 hPM2 hS2) (fun z => absurd he z)
set_option maxHeartbeats 4000000 in
set_option maxRecDepth 100000 in
theorem lk_count (C0 : lw_At p s m meth c b Ln xs) (hE : lE D cI cJ t0 s.heap.size s) (hO : lw_ok h g s.heap.size) (hi : i + 6 ≤ Ln) (hL : Ln ≤ 384) (hl : lv_has ls 4 [(0, .ref b), (1, .ref (h 0)), (2, .ref (g 0)), (3, .int (nI i))]) (hR : bw_R S L M N) (hPX : va_P D vwCl (wX h cI cJ S L) H) (hPM : va_P D vwCl (wM g cI cJ M N) H) (hS : va_S (fun q => s.heap.size ≤ q) s.heap H locs) (kk : lw_K p l e s m below meth c b D cI cJ h g ls) : W p l e room_1 s m #[Value.ref b] below meth c H locs 75 1823 (lw_Z below #[Value.ref b] s) (F0 m 636 ls []) := by
  obtain ⟨hx, hb, hr, hml, hown, hts0, hX, hbl, hlocks, hgv⟩ := C0
  have hts : ∀ w ∈ wsL_law, w.before #[Value.ref b] s = true := fun w hw => hts0 w (wsL_law_in w hw)
  refine lv_aload_n hx hb dL_law_636 rfl (lv_at hl 1 rfl) ?_
  refine lw_arg hx hb hX hbl hS hl hi hL 1 (by decide) (by decide) dL_law_637 dL_law_638 dL_law_639 dL_law_640 dL_law_641 rfl rfl rfl rfl rfl ?_
  refine lcXi (As := [.int (xs (i + 1))]) (rest := []) hE hO hPX hPM hS ⟨hx, hb, hml, hown, hts⟩ (mX6_count l D h cI cJ t0 hO.1 S L (xs (i + 1)) _ (ok_count hR (xs (i + 1)))) (cwV 1 hts gL_law_X6_count rfl rfl rfl (by decide +kernel) ⟨Nat.le_of_ble_eq_true rfl, Nat.le_of_ble_eq_true rfl⟩) rfl hl.1 rfl (Nat.le_of_ble_eq_true rfl) dL_law_642 ⟨Nat.le_of_ble_eq_true rfl, Nat.le_of_ble_eq_true rfl⟩ (fun r u H1 locs1 hw hPX1 hPM1 hS1 => ?_)
  obtain ⟨uS, uL⟩ := u
  dsimp only at hw hPX1
  obtain ⟨hw, rfl, rfl⟩ := hw
  refine lv_aload_n hx hb dL_law_645 rfl (lv_at hl 2 rfl) ?_
  refine lw_arg hx hb hX hbl hS1 hl hi hL 1 (by decide) (by decide) dL_law_646 dL_law_647 dL_law_648 dL_law_649 dL_law_650 rfl rfl rfl rfl rfl ?_
  refine lcMi (As := [.int (xs (i + 1))]) (rest := [.int r]) hE hO hPX1 hPM1 hS1 ⟨hx, hb, hml, hown, hts⟩ (mX7_count l D g cI cJ hO.2.1 M N (xs (i + 1)) _ hw) (cwV 1 hts gL_law_X7_count rfl rfl rfl (by decide +kernel) ⟨Nat.le_of_ble_eq_true rfl, Nat.le_of_ble_eq_true rfl⟩) rfl hl.1 rfl (Nat.le_of_ble_eq_true rfl) dL_law_651 ⟨Nat.le_of_ble_eq_true rfl, Nat.le_of_ble_eq_true rfl⟩ (fun r2 u2 H2 locs2 hv hPX2 hPM2 hS2 => ?_)
  obtain ⟨uM, uN⟩ := u2
  dsimp only at hv hPM2
  obtain ⟨hv, rfl, rfl⟩ := hv
  have hR2 := hR
  have he := hv
  exact lv_icmp_eq (tgt := 1493) hx hb dL_law_654 (by decide) (fun _ => kk _ _ _ _ _ _ hR2 hPX2 hPM2 hS2) (fun z => absurd he z)
set_option maxHeartbeats 4000000 in
set_option maxRecDepth 100000 in
theorem lk_total (C0 : lw_At p s m meth c b Ln xs) (hE : lE D cI cJ t0 s.heap.size s) (hO : lw_ok h g s.heap.size) (hi : i + 6 ≤ Ln) (hL : Ln ≤ 384) (hl : lv_has ls 4 [(0, .ref b), (1, .ref (h 0)), (2, .ref (g 0)), (3, .int (nI i))]) (hR : bw_R S L M N) (hPX : va_P D vwCl (wX h cI cJ S L) H) (hPM : va_P D vwCl (wM g cI cJ M N) H) (hS : va_S (fun q => s.heap.size ≤ q) s.heap H locs) (kk : lw_K p l e s m below meth c b D cI cJ h g ls) : W p l e room_1 s m #[Value.ref b] below meth c H locs 75 1823 (lw_Z below #[Value.ref b] s) (F0 m 659 ls []) := by
  obtain ⟨hx, hb, hr, hml, hown, hts0, hX, hbl, hlocks, hgv⟩ := C0
  have hts : ∀ w ∈ wsL_law, w.before #[Value.ref b] s = true := fun w hw => hts0 w (wsL_law_in w hw)
  refine lv_aload_n hx hb dL_law_659 rfl (lv_at hl 1 rfl) ?_
  refine lw_arg hx hb hX hbl hS hl hi hL 1 (by decide) (by decide) dL_law_660 dL_law_661 dL_law_662 dL_law_663 dL_law_664 rfl rfl rfl rfl rfl ?_
  refine lw_arg hx hb hX hbl hS hl hi hL 2 (by decide) (by decide) dL_law_665 dL_law_666 dL_law_667 dL_law_668 dL_law_669 rfl rfl rfl rfl rfl ?_
  refine lcXl (As := [.int (xs (i + 1)), .int (xs (i + 2))]) (rest := []) hE hO hPX hPM hS ⟨hx, hb, hml, hown, hts⟩ (mX6_total l D h cI cJ t0 hO.1 S L (xs (i + 1)) (xs (i + 2)) _ (ok_total hR (xs (i + 1)) (xs (i + 2)))) (cwV 2 hts gL_law_X6_total rfl rfl rfl (by decide +kernel) ⟨Nat.le_of_ble_eq_true rfl, Nat.le_of_ble_eq_true rfl⟩) rfl hl.1 rfl (Nat.le_of_ble_eq_true rfl) dL_law_670 ⟨Nat.le_of_ble_eq_true rfl, Nat.le_of_ble_eq_true rfl⟩ (fun r u H1 locs1 hw hPX1 hPM1 hS1 => ?_)
  obtain ⟨uS, uL⟩ := u
  dsimp only at hw hPX1
  obtain ⟨hw, rfl, rfl⟩ := hw
  refine lv_aload_n hx hb dL_law_673 rfl (lv_at hl 2 rfl) ?_
  refine lw_arg hx hb hX hbl hS1 hl hi hL 1 (by decide) (by decide) dL_law_674 dL_law_675 dL_law_676 dL_law_677 dL_law_678 rfl rfl rfl rfl rfl ?_
  refine lw_arg hx hb hX hbl hS1 hl hi hL 2 (by decide) (by decide) dL_law_679 dL_law_680 dL_law_681 dL_law_682 dL_law_683 rfl rfl rfl rfl rfl ?_
  refine lcMl (As := [.int (xs (i + 1)), .int (xs (i + 2))]) (rest := [.long r]) hE hO hPX1 hPM1 hS1 ⟨hx, hb, hml, hown, hts⟩ (mX7_total l D g cI cJ hO.2.1 M N (xs (i + 1)) (xs (i + 2)) _ hw) (cwV 2 hts gL_law_X7_total rfl rfl rfl (by decide +kernel) ⟨Nat.le_of_ble_eq_true rfl, Nat.le_of_ble_eq_true rfl⟩) rfl hl.1 rfl (Nat.le_of_ble_eq_true rfl) dL_law_684 ⟨Nat.le_of_ble_eq_true rfl, Nat.le_of_ble_eq_true rfl⟩ (fun r2 u2 H2 locs2 hv hPX2 hPM2 hS2 => ?_)
  obtain ⟨uM, uN⟩ := u2
  dsimp only at hv hPM2
  obtain ⟨hv, rfl, rfl⟩ := hv
  have hR2 := hR
  have he := hv
  refine W.lcmp hx hb dL_law_687 ?_
  exact lv_if_eq (tgt := 1493) hx hb dL_law_688 (by decide) (fun _ => kk _ _ _ _ _ _ hR2 hPX2 hPM2 hS2) (fun z => absurd ((lg_cmp_eq _ _).mpr he) z)
set_option maxHeartbeats 4000000 in
set_option maxRecDepth 100000 in
theorem lk_share (C0 : lw_At p s m meth c b Ln xs) (hE : lE D cI cJ t0 s.heap.size s) (hO : lw_ok h g s.heap.size) (hi : i + 6 ≤ Ln) (hL : Ln ≤ 384) (hl : lv_has ls 4 [(0, .ref b), (1, .ref (h 0)), (2, .ref (g 0)), (3, .int (nI i))]) (hR : bw_R S L M N) (hPX : va_P D vwCl (wX h cI cJ S L) H) (hPM : va_P D vwCl (wM g cI cJ M N) H) (hS : va_S (fun q => s.heap.size ≤ q) s.heap H locs) (kk : lw_K p l e s m below meth c b D cI cJ h g ls) : W p l e room_1 s m #[Value.ref b] below meth c H locs 75 1823 (lw_Z below #[Value.ref b] s) (F0 m 693 ls []) := by
  obtain ⟨hx, hb, hr, hml, hown, hts0, hX, hbl, hlocks, hgv⟩ := C0
  have hts : ∀ w ∈ wsL_law, w.before #[Value.ref b] s = true := fun w hw => hts0 w (wsL_law_in w hw)
  refine lv_aload_n hx hb dL_law_693 rfl (lv_at hl 1 rfl) ?_
  refine lw_arg hx hb hX hbl hS hl hi hL 1 (by decide) (by decide) dL_law_694 dL_law_695 dL_law_696 dL_law_697 dL_law_698 rfl rfl rfl rfl rfl ?_
  refine lw_arg hx hb hX hbl hS hl hi hL 2 (by decide) (by decide) dL_law_699 dL_law_700 dL_law_701 dL_law_702 dL_law_703 rfl rfl rfl rfl rfl ?_
  refine lw_arg hx hb hX hbl hS hl hi hL 3 (by decide) (by decide) dL_law_704 dL_law_705 dL_law_706 dL_law_707 dL_law_708 rfl rfl rfl rfl rfl ?_
  refine lcXl (As := [.int (xs (i + 1)), .int (xs (i + 2)), .int (xs (i + 3))]) (rest := []) hE hO hPX hPM hS ⟨hx, hb, hml, hown, hts⟩ (mX6_share l D h cI cJ t0 hO.1 S L (xs (i + 1)) (xs (i + 2)) (xs (i + 3)) _ (ok_share hR (xs (i + 1)) (xs (i + 2)) (xs (i + 3)))) (cwV 3 hts gL_law_X6_share rfl rfl rfl (by decide +kernel) ⟨Nat.le_of_ble_eq_true rfl, Nat.le_of_ble_eq_true rfl⟩) rfl hl.1 rfl (Nat.le_of_ble_eq_true rfl) dL_law_709 ⟨Nat.le_of_ble_eq_true rfl, Nat.le_of_ble_eq_true rfl⟩ (fun r u H1 locs1 hw hPX1 hPM1 hS1 => ?_)
  obtain ⟨uS, uL⟩ := u
  dsimp only at hw hPX1
  obtain ⟨hw, rfl⟩ := hw
  refine lv_aload_n hx hb dL_law_712 rfl (lv_at hl 2 rfl) ?_
  refine lw_arg hx hb hX hbl hS1 hl hi hL 1 (by decide) (by decide) dL_law_713 dL_law_714 dL_law_715 dL_law_716 dL_law_717 rfl rfl rfl rfl rfl ?_
  refine lw_arg hx hb hX hbl hS1 hl hi hL 2 (by decide) (by decide) dL_law_718 dL_law_719 dL_law_720 dL_law_721 dL_law_722 rfl rfl rfl rfl rfl ?_
  refine lw_arg hx hb hX hbl hS1 hl hi hL 3 (by decide) (by decide) dL_law_723 dL_law_724 dL_law_725 dL_law_726 dL_law_727 rfl rfl rfl rfl rfl ?_
  refine lcMl (As := [.int (xs (i + 1)), .int (xs (i + 2)), .int (xs (i + 3))]) (rest := [.long r]) hE hO hPX1 hPM1 hS1 ⟨hx, hb, hml, hown, hts⟩ (mX7_share l D g cI cJ hO.2.1 M N (xs (i + 1)) (xs (i + 2)) (xs (i + 3)) _ hw) (cwV 3 hts gL_law_X7_share rfl rfl rfl (by decide +kernel) ⟨Nat.le_of_ble_eq_true rfl, Nat.le_of_ble_eq_true rfl⟩) rfl hl.1 rfl (Nat.le_of_ble_eq_true rfl) dL_law_728 ⟨Nat.le_of_ble_eq_true rfl, Nat.le_of_ble_eq_true rfl⟩ (fun r2 u2 H2 locs2 hv hPX2 hPM2 hS2 => ?_)
  obtain ⟨uM, uN⟩ := u2
  dsimp only at hv hPM2
  obtain ⟨hv, rfl, rfl⟩ := hv
  obtain ⟨he, hR2⟩ := hv
  refine W.lcmp hx hb dL_law_731 ?_
  exact lv_if_eq (tgt := 1493) hx hb dL_law_732 (by decide) (fun _ => kk _ _ _ _ _ _ hR2 hPX2 hPM2 hS2) (fun z => absurd ((lg_cmp_eq _ _).mpr he) z)
set_option maxHeartbeats 4000000 in
set_option maxRecDepth 100000 in
theorem lk_maker (C0 : lw_At p s m meth c b Ln xs) (hE : lE D cI cJ t0 s.heap.size s) (hO : lw_ok h g s.heap.size) (hi : i + 6 ≤ Ln) (hL : Ln ≤ 384) (hl : lv_has ls 4 [(0, .ref b), (1, .ref (h 0)), (2, .ref (g 0)), (3, .int (nI i))]) (hR : bw_R S L M N) (hPX : va_P D vwCl (wX h cI cJ S L) H) (hPM : va_P D vwCl (wM g cI cJ M N) H) (hS : va_S (fun q => s.heap.size ≤ q) s.heap H locs) (kk : lw_K p l e s m below meth c b D cI cJ h g ls) : W p l e room_1 s m #[Value.ref b] below meth c H locs 75 1823 (lw_Z below #[Value.ref b] s) (F0 m 737 ls []) := by
  obtain ⟨hx, hb, hr, hml, hown, hts0, hX, hbl, hlocks, hgv⟩ := C0
  have hts : ∀ w ∈ wsL_law, w.before #[Value.ref b] s = true := fun w hw => hts0 w (wsL_law_in w hw)
  refine lv_aload_n hx hb dL_law_737 rfl (lv_at hl 1 rfl) ?_
  refine lw_arg hx hb hX hbl hS hl hi hL 1 (by decide) (by decide) dL_law_738 dL_law_739 dL_law_740 dL_law_741 dL_law_742 rfl rfl rfl rfl rfl ?_
  refine lw_arg hx hb hX hbl hS hl hi hL 2 (by decide) (by decide) dL_law_743 dL_law_744 dL_law_745 dL_law_746 dL_law_747 rfl rfl rfl rfl rfl ?_
  refine lw_arg hx hb hX hbl hS hl hi hL 3 (by decide) (by decide) dL_law_748 dL_law_749 dL_law_750 dL_law_751 dL_law_752 rfl rfl rfl rfl rfl ?_
  refine lcXi (As := [.int (xs (i + 1)), .int (xs (i + 2)), .int (xs (i + 3))]) (rest := []) hE hO hPX hPM hS ⟨hx, hb, hml, hown, hts⟩ (mX6_maker l D h cI cJ t0 hO.1 S L (xs (i + 1)) (xs (i + 2)) (xs (i + 3)) _ (ok_maker hR (xs (i + 1)) (xs (i + 2)) (xs (i + 3)))) (cwV 3 hts gL_law_X6_maker rfl rfl rfl (by decide +kernel) ⟨Nat.le_of_ble_eq_true rfl, Nat.le_of_ble_eq_true rfl⟩) rfl hl.1 rfl (Nat.le_of_ble_eq_true rfl) dL_law_753 ⟨Nat.le_of_ble_eq_true rfl, Nat.le_of_ble_eq_true rfl⟩ (fun r u H1 locs1 hw hPX1 hPM1 hS1 => ?_)
  obtain ⟨uS, uL⟩ := u
  dsimp only at hw hPX1
  obtain ⟨hw, rfl⟩ := hw
  refine lv_aload_n hx hb dL_law_756 rfl (lv_at hl 2 rfl) ?_
  refine lw_arg hx hb hX hbl hS1 hl hi hL 1 (by decide) (by decide) dL_law_757 dL_law_758 dL_law_759 dL_law_760 dL_law_761 rfl rfl rfl rfl rfl ?_
  refine lw_arg hx hb hX hbl hS1 hl hi hL 2 (by decide) (by decide) dL_law_762 dL_law_763 dL_law_764 dL_law_765 dL_law_766 rfl rfl rfl rfl rfl ?_
  refine lw_arg hx hb hX hbl hS1 hl hi hL 3 (by decide) (by decide) dL_law_767 dL_law_768 dL_law_769 dL_law_770 dL_law_771 rfl rfl rfl rfl rfl ?_
  refine lcMi (As := [.int (xs (i + 1)), .int (xs (i + 2)), .int (xs (i + 3))]) (rest := [.int r]) hE hO hPX1 hPM1 hS1 ⟨hx, hb, hml, hown, hts⟩ (mX7_maker l D g cI cJ hO.2.1 M N (xs (i + 1)) (xs (i + 2)) (xs (i + 3)) _ hw) (cwV 3 hts gL_law_X7_maker rfl rfl rfl (by decide +kernel) ⟨Nat.le_of_ble_eq_true rfl, Nat.le_of_ble_eq_true rfl⟩) rfl hl.1 rfl (Nat.le_of_ble_eq_true rfl) dL_law_772 ⟨Nat.le_of_ble_eq_true rfl, Nat.le_of_ble_eq_true rfl⟩ (fun r2 u2 H2 locs2 hv hPX2 hPM2 hS2 => ?_)
  obtain ⟨uM, uN⟩ := u2
  dsimp only at hv hPM2
  obtain ⟨hv, rfl, rfl⟩ := hv
  obtain ⟨he, hR2⟩ := hv
  exact lv_icmp_eq (tgt := 1493) hx hb dL_law_775 (by decide) (fun _ => kk _ _ _ _ _ _ hR2 hPX2 hPM2 hS2) (fun z => absurd he z)
set_option maxHeartbeats 4000000 in
set_option maxRecDepth 100000 in
theorem lk_span (C0 : lw_At p s m meth c b Ln xs) (hE : lE D cI cJ t0 s.heap.size s) (hO : lw_ok h g s.heap.size) (hi : i + 6 ≤ Ln) (hL : Ln ≤ 384) (hl : lv_has ls 4 [(0, .ref b), (1, .ref (h 0)), (2, .ref (g 0)), (3, .int (nI i))]) (hR : bw_R S L M N) (hPX : va_P D vwCl (wX h cI cJ S L) H) (hPM : va_P D vwCl (wM g cI cJ M N) H) (hS : va_S (fun q => s.heap.size ≤ q) s.heap H locs) (kk : lw_K p l e s m below meth c b D cI cJ h g ls) : W p l e room_1 s m #[Value.ref b] below meth c H locs 75 1823 (lw_Z below #[Value.ref b] s) (F0 m 780 ls []) := by
  obtain ⟨hx, hb, hr, hml, hown, hts0, hX, hbl, hlocks, hgv⟩ := C0
  have hts : ∀ w ∈ wsL_law, w.before #[Value.ref b] s = true := fun w hw => hts0 w (wsL_law_in w hw)
  refine lv_aload_n hx hb dL_law_780 rfl (lv_at hl 1 rfl) ?_
  refine lw_arg hx hb hX hbl hS hl hi hL 1 (by decide) (by decide) dL_law_781 dL_law_782 dL_law_783 dL_law_784 dL_law_785 rfl rfl rfl rfl rfl ?_
  refine lw_arg hx hb hX hbl hS hl hi hL 2 (by decide) (by decide) dL_law_786 dL_law_787 dL_law_788 dL_law_789 dL_law_790 rfl rfl rfl rfl rfl ?_
  refine lw_arg hx hb hX hbl hS hl hi hL 3 (by decide) (by decide) dL_law_791 dL_law_792 dL_law_793 dL_law_794 dL_law_795 rfl rfl rfl rfl rfl ?_
  refine lcXi (As := [.int (xs (i + 1)), .int (xs (i + 2)), .int (xs (i + 3))]) (rest := []) hE hO hPX hPM hS ⟨hx, hb, hml, hown, hts⟩ (mX6_span l D h cI cJ t0 hO.1 S L (xs (i + 1)) (xs (i + 2)) (xs (i + 3)) _ (ok_span hR (xs (i + 1)) (xs (i + 2)) (xs (i + 3)))) (cwV 3 hts gL_law_X6_span rfl rfl rfl (by decide +kernel) ⟨Nat.le_of_ble_eq_true rfl, Nat.le_of_ble_eq_true rfl⟩) rfl hl.1 rfl (Nat.le_of_ble_eq_true rfl) dL_law_796 ⟨Nat.le_of_ble_eq_true rfl, Nat.le_of_ble_eq_true rfl⟩ (fun r u H1 locs1 hw hPX1 hPM1 hS1 => ?_)
  obtain ⟨uS, uL⟩ := u
  dsimp only at hw hPX1
  obtain ⟨hw, rfl⟩ := hw
  refine lv_aload_n hx hb dL_law_799 rfl (lv_at hl 2 rfl) ?_
  refine lw_arg hx hb hX hbl hS1 hl hi hL 1 (by decide) (by decide) dL_law_800 dL_law_801 dL_law_802 dL_law_803 dL_law_804 rfl rfl rfl rfl rfl ?_
  refine lw_arg hx hb hX hbl hS1 hl hi hL 2 (by decide) (by decide) dL_law_805 dL_law_806 dL_law_807 dL_law_808 dL_law_809 rfl rfl rfl rfl rfl ?_
  refine lw_arg hx hb hX hbl hS1 hl hi hL 3 (by decide) (by decide) dL_law_810 dL_law_811 dL_law_812 dL_law_813 dL_law_814 rfl rfl rfl rfl rfl ?_
  refine lcMi (As := [.int (xs (i + 1)), .int (xs (i + 2)), .int (xs (i + 3))]) (rest := [.int r]) hE hO hPX1 hPM1 hS1 ⟨hx, hb, hml, hown, hts⟩ (mX7_span l D g cI cJ hO.2.1 M N (xs (i + 1)) (xs (i + 2)) (xs (i + 3)) _ hw) (cwV 3 hts gL_law_X7_span rfl rfl rfl (by decide +kernel) ⟨Nat.le_of_ble_eq_true rfl, Nat.le_of_ble_eq_true rfl⟩) rfl hl.1 rfl (Nat.le_of_ble_eq_true rfl) dL_law_815 ⟨Nat.le_of_ble_eq_true rfl, Nat.le_of_ble_eq_true rfl⟩ (fun r2 u2 H2 locs2 hv hPX2 hPM2 hS2 => ?_)
  obtain ⟨uM, uN⟩ := u2
  dsimp only at hv hPM2
  obtain ⟨hv, rfl, rfl⟩ := hv
  obtain ⟨he, hR2⟩ := hv
  exact lv_icmp_eq (tgt := 1493) hx hb dL_law_818 (by decide) (fun _ => kk _ _ _ _ _ _ hR2 hPX2 hPM2 hS2) (fun z => absurd he z)
set_option maxHeartbeats 4000000 in
set_option maxRecDepth 100000 in
theorem lk_smooth (C0 : lw_At p s m meth c b Ln xs) (hE : lE D cI cJ t0 s.heap.size s) (hO : lw_ok h g s.heap.size) (hi : i + 6 ≤ Ln) (hL : Ln ≤ 384) (hl : lv_has ls 4 [(0, .ref b), (1, .ref (h 0)), (2, .ref (g 0)), (3, .int (nI i))]) (hR : bw_R S L M N) (hPX : va_P D vwCl (wX h cI cJ S L) H) (hPM : va_P D vwCl (wM g cI cJ M N) H) (hS : va_S (fun q => s.heap.size ≤ q) s.heap H locs) (kk : lw_K p l e s m below meth c b D cI cJ h g ls) : W p l e room_1 s m #[Value.ref b] below meth c H locs 75 1823 (lw_Z below #[Value.ref b] s) (F0 m 823 ls []) := by
  obtain ⟨hx, hb, hr, hml, hown, hts0, hX, hbl, hlocks, hgv⟩ := C0
  have hts : ∀ w ∈ wsL_law, w.before #[Value.ref b] s = true := fun w hw => hts0 w (wsL_law_in w hw)
  refine lv_aload_n hx hb dL_law_823 rfl (lv_at hl 1 rfl) ?_
  refine lw_arg hx hb hX hbl hS hl hi hL 1 (by decide) (by decide) dL_law_824 dL_law_825 dL_law_826 dL_law_827 dL_law_828 rfl rfl rfl rfl rfl ?_
  refine lw_arg hx hb hX hbl hS hl hi hL 2 (by decide) (by decide) dL_law_829 dL_law_830 dL_law_831 dL_law_832 dL_law_833 rfl rfl rfl rfl rfl ?_
  refine lw_arg hx hb hX hbl hS hl hi hL 3 (by decide) (by decide) dL_law_834 dL_law_835 dL_law_836 dL_law_837 dL_law_838 rfl rfl rfl rfl rfl ?_
  refine lcXi (As := [.int (xs (i + 1)), .int (xs (i + 2)), .int (xs (i + 3))]) (rest := []) hE hO hPX hPM hS ⟨hx, hb, hml, hown, hts⟩ (mX6_smooth l D h cI cJ t0 hO.1 S L (xs (i + 1)) (xs (i + 2)) (xs (i + 3)) _ (ok_smooth hR (xs (i + 1)) (xs (i + 2)) (xs (i + 3)))) (cwV 3 hts gL_law_X6_smooth rfl rfl rfl (by decide +kernel) ⟨Nat.le_of_ble_eq_true rfl, Nat.le_of_ble_eq_true rfl⟩) rfl hl.1 rfl (Nat.le_of_ble_eq_true rfl) dL_law_839 ⟨Nat.le_of_ble_eq_true rfl, Nat.le_of_ble_eq_true rfl⟩ (fun r u H1 locs1 hw hPX1 hPM1 hS1 => ?_)
  obtain ⟨uS, uL⟩ := u
  dsimp only at hw hPX1
  obtain ⟨hw, rfl⟩ := hw
  refine lv_aload_n hx hb dL_law_842 rfl (lv_at hl 2 rfl) ?_
  refine lw_arg hx hb hX hbl hS1 hl hi hL 1 (by decide) (by decide) dL_law_843 dL_law_844 dL_law_845 dL_law_846 dL_law_847 rfl rfl rfl rfl rfl ?_
  refine lw_arg hx hb hX hbl hS1 hl hi hL 2 (by decide) (by decide) dL_law_848 dL_law_849 dL_law_850 dL_law_851 dL_law_852 rfl rfl rfl rfl rfl ?_
  refine lw_arg hx hb hX hbl hS1 hl hi hL 3 (by decide) (by decide) dL_law_853 dL_law_854 dL_law_855 dL_law_856 dL_law_857 rfl rfl rfl rfl rfl ?_
  refine lcMi (As := [.int (xs (i + 1)), .int (xs (i + 2)), .int (xs (i + 3))]) (rest := [.int r]) hE hO hPX1 hPM1 hS1 ⟨hx, hb, hml, hown, hts⟩ (mX7_smooth l D g cI cJ hO.2.1 M N (xs (i + 1)) (xs (i + 2)) (xs (i + 3)) _ hw) (cwV 3 hts gL_law_X7_smooth rfl rfl rfl (by decide +kernel) ⟨Nat.le_of_ble_eq_true rfl, Nat.le_of_ble_eq_true rfl⟩) rfl hl.1 rfl (Nat.le_of_ble_eq_true rfl) dL_law_858 ⟨Nat.le_of_ble_eq_true rfl, Nat.le_of_ble_eq_true rfl⟩ (fun r2 u2 H2 locs2 hv hPX2 hPM2 hS2 => ?_)
  obtain ⟨uM, uN⟩ := u2
  dsimp only at hv hPM2
  obtain ⟨hv, rfl, rfl⟩ := hv
  obtain ⟨he, hR2⟩ := hv
  exact lv_icmp_eq (tgt := 1493) hx hb dL_law_861 (by decide) (fun _ => kk _ _ _ _ _ _ hR2 hPX2 hPM2 hS2) (fun z => absurd he z)
set_option maxHeartbeats 4000000 in
set_option maxRecDepth 100000 in
theorem lk_jump (C0 : lw_At p s m meth c b Ln xs) (hE : lE D cI cJ t0 s.heap.size s) (hO : lw_ok h g s.heap.size) (hi : i + 6 ≤ Ln) (hL : Ln ≤ 384) (hl : lv_has ls 4 [(0, .ref b), (1, .ref (h 0)), (2, .ref (g 0)), (3, .int (nI i))]) (hR : bw_R S L M N) (hPX : va_P D vwCl (wX h cI cJ S L) H) (hPM : va_P D vwCl (wM g cI cJ M N) H) (hS : va_S (fun q => s.heap.size ≤ q) s.heap H locs) (kk : lw_K p l e s m below meth c b D cI cJ h g ls) : W p l e room_1 s m #[Value.ref b] below meth c H locs 75 1823 (lw_Z below #[Value.ref b] s) (F0 m 866 ls []) := by
  obtain ⟨hx, hb, hr, hml, hown, hts0, hX, hbl, hlocks, hgv⟩ := C0
  have hts : ∀ w ∈ wsL_law, w.before #[Value.ref b] s = true := fun w hw => hts0 w (wsL_law_in w hw)
  refine lv_aload_n hx hb dL_law_866 rfl (lv_at hl 1 rfl) ?_
  refine lw_arg hx hb hX hbl hS hl hi hL 1 (by decide) (by decide) dL_law_867 dL_law_868 dL_law_869 dL_law_870 dL_law_871 rfl rfl rfl rfl rfl ?_
  refine lw_arg hx hb hX hbl hS hl hi hL 2 (by decide) (by decide) dL_law_872 dL_law_873 dL_law_874 dL_law_875 dL_law_876 rfl rfl rfl rfl rfl ?_
  refine lcXi (As := [.int (xs (i + 1)), .int (xs (i + 2))]) (rest := []) hE hO hPX hPM hS ⟨hx, hb, hml, hown, hts⟩ (mX6_jump l D h cI cJ t0 hO.1 S L (xs (i + 1)) (xs (i + 2)) _ (ok_jump hR (xs (i + 1)) (xs (i + 2)))) (cwV 2 hts gL_law_X6_jump rfl rfl rfl (by decide +kernel) ⟨Nat.le_of_ble_eq_true rfl, Nat.le_of_ble_eq_true rfl⟩) rfl hl.1 rfl (Nat.le_of_ble_eq_true rfl) dL_law_877 ⟨Nat.le_of_ble_eq_true rfl, Nat.le_of_ble_eq_true rfl⟩ (fun r u H1 locs1 hw hPX1 hPM1 hS1 => ?_)
  obtain ⟨uS, uL⟩ := u
  dsimp only at hw hPX1
  obtain ⟨hw, rfl⟩ := hw
  refine lv_aload_n hx hb dL_law_880 rfl (lv_at hl 2 rfl) ?_
  refine lw_arg hx hb hX hbl hS1 hl hi hL 1 (by decide) (by decide) dL_law_881 dL_law_882 dL_law_883 dL_law_884 dL_law_885 rfl rfl rfl rfl rfl ?_
  refine lw_arg hx hb hX hbl hS1 hl hi hL 2 (by decide) (by decide) dL_law_886 dL_law_887 dL_law_888 dL_law_889 dL_law_890 rfl rfl rfl rfl rfl ?_
  refine lcMi (As := [.int (xs (i + 1)), .int (xs (i + 2))]) (rest := [.int r]) hE hO hPX1 hPM1 hS1 ⟨hx, hb, hml, hown, hts⟩ (mX7_jump l D g cI cJ hO.2.1 M N (xs (i + 1)) (xs (i + 2)) _ hw) (cwV 2 hts gL_law_X7_jump rfl rfl rfl (by decide +kernel) ⟨Nat.le_of_ble_eq_true rfl, Nat.le_of_ble_eq_true rfl⟩) rfl hl.1 rfl (Nat.le_of_ble_eq_true rfl) dL_law_891 ⟨Nat.le_of_ble_eq_true rfl, Nat.le_of_ble_eq_true rfl⟩ (fun r2 u2 H2 locs2 hv hPX2 hPM2 hS2 => ?_)
  obtain ⟨uM, uN⟩ := u2
  dsimp only at hv hPM2
  obtain ⟨hv, rfl, rfl⟩ := hv
  obtain ⟨he, hR2⟩ := hv
  exact lv_icmp_eq (tgt := 1493) hx hb dL_law_894 (by decide) (fun _ => kk _ _ _ _ _ _ hR2 hPX2 hPM2 hS2) (fun z => absurd he z)
set_option maxHeartbeats 4000000 in
set_option maxRecDepth 100000 in
theorem lk_alone (C0 : lw_At p s m meth c b Ln xs) (hE : lE D cI cJ t0 s.heap.size s) (hO : lw_ok h g s.heap.size) (hi : i + 6 ≤ Ln) (hL : Ln ≤ 384) (hl : lv_has ls 4 [(0, .ref b), (1, .ref (h 0)), (2, .ref (g 0)), (3, .int (nI i))]) (hR : bw_R S L M N) (hPX : va_P D vwCl (wX h cI cJ S L) H) (hPM : va_P D vwCl (wM g cI cJ M N) H) (hS : va_S (fun q => s.heap.size ≤ q) s.heap H locs) (kk : lw_K p l e s m below meth c b D cI cJ h g ls) : W p l e room_1 s m #[Value.ref b] below meth c H locs 75 1823 (lw_Z below #[Value.ref b] s) (F0 m 899 ls []) := by
  obtain ⟨hx, hb, hr, hml, hown, hts0, hX, hbl, hlocks, hgv⟩ := C0
  have hts : ∀ w ∈ wsL_law, w.before #[Value.ref b] s = true := fun w hw => hts0 w (wsL_law_in w hw)
  refine lv_aload_n hx hb dL_law_899 rfl (lv_at hl 1 rfl) ?_
  refine lw_arg hx hb hX hbl hS hl hi hL 1 (by decide) (by decide) dL_law_900 dL_law_901 dL_law_902 dL_law_903 dL_law_904 rfl rfl rfl rfl rfl ?_
  refine lw_arg hx hb hX hbl hS hl hi hL 2 (by decide) (by decide) dL_law_905 dL_law_906 dL_law_907 dL_law_908 dL_law_909 rfl rfl rfl rfl rfl ?_
  refine lw_arg hx hb hX hbl hS hl hi hL 3 (by decide) (by decide) dL_law_910 dL_law_911 dL_law_912 dL_law_913 dL_law_914 rfl rfl rfl rfl rfl ?_
  refine lcXl (As := [.int (xs (i + 1)), .int (xs (i + 2)), .int (xs (i + 3))]) (rest := []) hE hO hPX hPM hS ⟨hx, hb, hml, hown, hts⟩ (mX6_alone l D h cI cJ t0 hO.1 S L (xs (i + 1)) (xs (i + 2)) (xs (i + 3)) _ (ok_alone hR (xs (i + 1)) (xs (i + 2)) (xs (i + 3)))) (cwV 3 hts gL_law_X6_alone rfl rfl rfl (by decide +kernel) ⟨Nat.le_of_ble_eq_true rfl, Nat.le_of_ble_eq_true rfl⟩) rfl hl.1 rfl (Nat.le_of_ble_eq_true rfl) dL_law_915 ⟨Nat.le_of_ble_eq_true rfl, Nat.le_of_ble_eq_true rfl⟩ (fun r u H1 locs1 hw hPX1 hPM1 hS1 => ?_)
  obtain ⟨uS, uL⟩ := u
  dsimp only at hw hPX1
  obtain ⟨hw, rfl⟩ := hw
  refine lv_aload_n hx hb dL_law_918 rfl (lv_at hl 2 rfl) ?_
  refine lw_arg hx hb hX hbl hS1 hl hi hL 1 (by decide) (by decide) dL_law_919 dL_law_920 dL_law_921 dL_law_922 dL_law_923 rfl rfl rfl rfl rfl ?_
  refine lw_arg hx hb hX hbl hS1 hl hi hL 2 (by decide) (by decide) dL_law_924 dL_law_925 dL_law_926 dL_law_927 dL_law_928 rfl rfl rfl rfl rfl ?_
  refine lw_arg hx hb hX hbl hS1 hl hi hL 3 (by decide) (by decide) dL_law_929 dL_law_930 dL_law_931 dL_law_932 dL_law_933 rfl rfl rfl rfl rfl ?_
  refine lcMl (As := [.int (xs (i + 1)), .int (xs (i + 2)), .int (xs (i + 3))]) (rest := [.long r]) hE hO hPX1 hPM1 hS1 ⟨hx, hb, hml, hown, hts⟩ (mX7_alone l D g cI cJ hO.2.1 M N (xs (i + 1)) (xs (i + 2)) (xs (i + 3)) _ hw) (cwV 3 hts gL_law_X7_alone rfl rfl rfl (by decide +kernel) ⟨Nat.le_of_ble_eq_true rfl, Nat.le_of_ble_eq_true rfl⟩) rfl hl.1 rfl (Nat.le_of_ble_eq_true rfl) dL_law_934 ⟨Nat.le_of_ble_eq_true rfl, Nat.le_of_ble_eq_true rfl⟩ (fun r2 u2 H2 locs2 hv hPX2 hPM2 hS2 => ?_)
  obtain ⟨uM, uN⟩ := u2
  dsimp only at hv hPM2
  obtain ⟨hv, rfl, rfl⟩ := hv
  obtain ⟨he, hR2⟩ := hv
  refine W.lcmp hx hb dL_law_937 ?_
  exact lv_if_eq (tgt := 1493) hx hb dL_law_938 (by decide) (fun _ => kk _ _ _ _ _ _ hR2 hPX2 hPM2 hS2) (fun z => absurd ((lg_cmp_eq _ _).mpr he) z)
set_option maxHeartbeats 4000000 in
set_option maxRecDepth 100000 in
theorem lk_bounds (C0 : lw_At p s m meth c b Ln xs) (hE : lE D cI cJ t0 s.heap.size s) (hO : lw_ok h g s.heap.size) (hi : i + 6 ≤ Ln) (hL : Ln ≤ 384) (hl : lv_has ls 4 [(0, .ref b), (1, .ref (h 0)), (2, .ref (g 0)), (3, .int (nI i))]) (hR : bw_R S L M N) (hPX : va_P D vwCl (wX h cI cJ S L) H) (hPM : va_P D vwCl (wM g cI cJ M N) H) (hS : va_S (fun q => s.heap.size ≤ q) s.heap H locs) (kk : lw_K p l e s m below meth c b D cI cJ h g ls) : W p l e room_1 s m #[Value.ref b] below meth c H locs 75 1823 (lw_Z below #[Value.ref b] s) (F0 m 943 ls []) := by
  obtain ⟨hx, hb, hr, hml, hown, hts0, hX, hbl, hlocks, hgv⟩ := C0
  have hts : ∀ w ∈ wsL_law, w.before #[Value.ref b] s = true := fun w hw => hts0 w (wsL_law_in w hw)
  refine lv_aload_n hx hb dL_law_943 rfl (lv_at hl 1 rfl) ?_
  refine lw_arg hx hb hX hbl hS hl hi hL 1 (by decide) (by decide) dL_law_944 dL_law_945 dL_law_946 dL_law_947 dL_law_948 rfl rfl rfl rfl rfl ?_
  refine lw_arg hx hb hX hbl hS hl hi hL 2 (by decide) (by decide) dL_law_949 dL_law_950 dL_law_951 dL_law_952 dL_law_953 rfl rfl rfl rfl rfl ?_
  refine lw_arg hx hb hX hbl hS hl hi hL 3 (by decide) (by decide) dL_law_954 dL_law_955 dL_law_956 dL_law_957 dL_law_958 rfl rfl rfl rfl rfl ?_
  refine lcXi (As := [.int (xs (i + 1)), .int (xs (i + 2)), .int (xs (i + 3))]) (rest := []) hE hO hPX hPM hS ⟨hx, hb, hml, hown, hts⟩ (mX6_bounds l D h cI cJ t0 hO.1 S L (xs (i + 1)) (xs (i + 2)) (xs (i + 3)) _ (ok_bounds hR (xs (i + 1)) (xs (i + 2)) (xs (i + 3)))) (cwV 3 hts gL_law_X6_bounds rfl rfl rfl (by decide +kernel) ⟨Nat.le_of_ble_eq_true rfl, Nat.le_of_ble_eq_true rfl⟩) rfl hl.1 rfl (Nat.le_of_ble_eq_true rfl) dL_law_959 ⟨Nat.le_of_ble_eq_true rfl, Nat.le_of_ble_eq_true rfl⟩ (fun r u H1 locs1 hw hPX1 hPM1 hS1 => ?_)
  obtain ⟨uS, uL⟩ := u
  dsimp only at hw hPX1
  obtain ⟨hw, rfl⟩ := hw
  refine lv_aload_n hx hb dL_law_962 rfl (lv_at hl 2 rfl) ?_
  refine lw_arg hx hb hX hbl hS1 hl hi hL 1 (by decide) (by decide) dL_law_963 dL_law_964 dL_law_965 dL_law_966 dL_law_967 rfl rfl rfl rfl rfl ?_
  refine lw_arg hx hb hX hbl hS1 hl hi hL 2 (by decide) (by decide) dL_law_968 dL_law_969 dL_law_970 dL_law_971 dL_law_972 rfl rfl rfl rfl rfl ?_
  refine lw_arg hx hb hX hbl hS1 hl hi hL 3 (by decide) (by decide) dL_law_973 dL_law_974 dL_law_975 dL_law_976 dL_law_977 rfl rfl rfl rfl rfl ?_
  refine lcMi (As := [.int (xs (i + 1)), .int (xs (i + 2)), .int (xs (i + 3))]) (rest := [.int r]) hE hO hPX1 hPM1 hS1 ⟨hx, hb, hml, hown, hts⟩ (mX7_bounds l D g cI cJ hO.2.1 M N (xs (i + 1)) (xs (i + 2)) (xs (i + 3)) _ hw) (cwV 3 hts gL_law_X7_bounds rfl rfl rfl (by decide +kernel) ⟨Nat.le_of_ble_eq_true rfl, Nat.le_of_ble_eq_true rfl⟩) rfl hl.1 rfl (Nat.le_of_ble_eq_true rfl) dL_law_978 ⟨Nat.le_of_ble_eq_true rfl, Nat.le_of_ble_eq_true rfl⟩ (fun r2 u2 H2 locs2 hv hPX2 hPM2 hS2 => ?_)
  obtain ⟨uM, uN⟩ := u2
  dsimp only at hv hPM2
  obtain ⟨hv, rfl, rfl⟩ := hv
  obtain ⟨he, hR2⟩ := hv
  exact lv_icmp_eq (tgt := 1493) hx hb dL_law_981 (by decide) (fun _ => kk _ _ _ _ _ _ hR2 hPX2 hPM2 hS2) (fun z => absurd he z)
set_option maxHeartbeats 4000000 in
set_option maxRecDepth 100000 in
theorem lk_heap (C0 : lw_At p s m meth c b Ln xs) (hE : lE D cI cJ t0 s.heap.size s) (hO : lw_ok h g s.heap.size) (hi : i + 6 ≤ Ln) (hL : Ln ≤ 384) (hl : lv_has ls 4 [(0, .ref b), (1, .ref (h 0)), (2, .ref (g 0)), (3, .int (nI i))]) (hR : bw_R S L M N) (hPX : va_P D vwCl (wX h cI cJ S L) H) (hPM : va_P D vwCl (wM g cI cJ M N) H) (hS : va_S (fun q => s.heap.size ≤ q) s.heap H locs) (kk : lw_K p l e s m below meth c b D cI cJ h g ls) : W p l e room_1 s m #[Value.ref b] below meth c H locs 75 1823 (lw_Z below #[Value.ref b] s) (F0 m 986 ls []) := by
  obtain ⟨hx, hb, hr, hml, hown, hts0, hX, hbl, hlocks, hgv⟩ := C0
  have hts : ∀ w ∈ wsL_law, w.before #[Value.ref b] s = true := fun w hw => hts0 w (wsL_law_in w hw)
  refine lv_aload_n hx hb dL_law_986 rfl (lv_at hl 1 rfl) ?_
  refine lw_arg hx hb hX hbl hS hl hi hL 1 (by decide) (by decide) dL_law_987 dL_law_988 dL_law_989 dL_law_990 dL_law_991 rfl rfl rfl rfl rfl ?_
  refine lw_arg hx hb hX hbl hS hl hi hL 2 (by decide) (by decide) dL_law_992 dL_law_993 dL_law_994 dL_law_995 dL_law_996 rfl rfl rfl rfl rfl ?_
  refine lw_arg hx hb hX hbl hS hl hi hL 3 (by decide) (by decide) dL_law_997 dL_law_998 dL_law_999 dL_law_1000 dL_law_1001 rfl rfl rfl rfl rfl ?_
  refine lcXi (As := [.int (xs (i + 1)), .int (xs (i + 2)), .int (xs (i + 3))]) (rest := []) hE hO hPX hPM hS ⟨hx, hb, hml, hown, hts⟩ (mX6_heap l D h cI cJ t0 hO.1 S L (xs (i + 1)) (xs (i + 2)) (xs (i + 3)) _ (ok_heap hR (xs (i + 1)) (xs (i + 2)) (xs (i + 3)))) (cwV 3 hts gL_law_X6_heap rfl rfl rfl (by decide +kernel) ⟨Nat.le_of_ble_eq_true rfl, Nat.le_of_ble_eq_true rfl⟩) rfl hl.1 rfl (Nat.le_of_ble_eq_true rfl) dL_law_1002 ⟨Nat.le_of_ble_eq_true rfl, Nat.le_of_ble_eq_true rfl⟩ (fun r u H1 locs1 hw hPX1 hPM1 hS1 => ?_)
  obtain ⟨uS, uL⟩ := u
  dsimp only at hw hPX1
  obtain ⟨hw, rfl, rfl⟩ := hw
  refine lv_aload_n hx hb dL_law_1005 rfl (lv_at hl 2 rfl) ?_
  refine lw_arg hx hb hX hbl hS1 hl hi hL 1 (by decide) (by decide) dL_law_1006 dL_law_1007 dL_law_1008 dL_law_1009 dL_law_1010 rfl rfl rfl rfl rfl ?_
  refine lw_arg hx hb hX hbl hS1 hl hi hL 2 (by decide) (by decide) dL_law_1011 dL_law_1012 dL_law_1013 dL_law_1014 dL_law_1015 rfl rfl rfl rfl rfl ?_
  refine lw_arg hx hb hX hbl hS1 hl hi hL 3 (by decide) (by decide) dL_law_1016 dL_law_1017 dL_law_1018 dL_law_1019 dL_law_1020 rfl rfl rfl rfl rfl ?_
  refine lcMi (As := [.int (xs (i + 1)), .int (xs (i + 2)), .int (xs (i + 3))]) (rest := [.int r]) hE hO hPX1 hPM1 hS1 ⟨hx, hb, hml, hown, hts⟩ (mX7_heap l D g cI cJ hO.2.1 M N (xs (i + 1)) (xs (i + 2)) (xs (i + 3)) _ hw) (cwV 3 hts gL_law_X7_heap rfl rfl rfl (by decide +kernel) ⟨Nat.le_of_ble_eq_true rfl, Nat.le_of_ble_eq_true rfl⟩) rfl hl.1 rfl (Nat.le_of_ble_eq_true rfl) dL_law_1021 ⟨Nat.le_of_ble_eq_true rfl, Nat.le_of_ble_eq_true rfl⟩ (fun r2 u2 H2 locs2 hv hPX2 hPM2 hS2 => ?_)
  obtain ⟨uM, uN⟩ := u2
  dsimp only at hv hPM2
  obtain ⟨hv, rfl, rfl⟩ := hv
  have hR2 := hR
  have he := hv
  exact lv_icmp_eq (tgt := 1493) hx hb dL_law_1024 (by decide) (fun _ => kk _ _ _ _ _ _ hR2 hPX2 hPM2 hS2) (fun z => absurd he z)
set_option maxHeartbeats 4000000 in
set_option maxRecDepth 100000 in
theorem lk_beside (C0 : lw_At p s m meth c b Ln xs) (hE : lE D cI cJ t0 s.heap.size s) (hO : lw_ok h g s.heap.size) (hi : i + 6 ≤ Ln) (hL : Ln ≤ 384) (hl : lv_has ls 4 [(0, .ref b), (1, .ref (h 0)), (2, .ref (g 0)), (3, .int (nI i))]) (hR : bw_R S L M N) (hPX : va_P D vwCl (wX h cI cJ S L) H) (hPM : va_P D vwCl (wM g cI cJ M N) H) (hS : va_S (fun q => s.heap.size ≤ q) s.heap H locs) (kk : lw_K p l e s m below meth c b D cI cJ h g ls) : W p l e room_1 s m #[Value.ref b] below meth c H locs 75 1823 (lw_Z below #[Value.ref b] s) (F0 m 1029 ls []) := by
  obtain ⟨hx, hb, hr, hml, hown, hts0, hX, hbl, hlocks, hgv⟩ := C0
  have hts : ∀ w ∈ wsL_law, w.before #[Value.ref b] s = true := fun w hw => hts0 w (wsL_law_in w hw)
  refine lv_aload_n hx hb dL_law_1029 rfl (lv_at hl 1 rfl) ?_
  refine lw_arg hx hb hX hbl hS hl hi hL 1 (by decide) (by decide) dL_law_1030 dL_law_1031 dL_law_1032 dL_law_1033 dL_law_1034 rfl rfl rfl rfl rfl ?_
  refine lw_arg hx hb hX hbl hS hl hi hL 2 (by decide) (by decide) dL_law_1035 dL_law_1036 dL_law_1037 dL_law_1038 dL_law_1039 rfl rfl rfl rfl rfl ?_
  refine lv_i2l hx hb dL_law_1040 rfl ?_
  refine lv_bipush (v := (32 : Int32)) hx hb dL_law_1041 (by decide) ?_
  refine lv_lshl hx hb dL_law_1043 rfl ?_
  refine lw_arg hx hb hX hbl hS hl hi hL 3 (by decide) (by decide) dL_law_1044 dL_law_1045 dL_law_1046 dL_law_1047 dL_law_1048 rfl rfl rfl rfl rfl ?_
  refine lv_i2l hx hb dL_law_1049 rfl ?_
  refine lv_ldc2 (v := (4294967295 : Int64)) hx hb hown (hts _ lw_c41) dL_law_1050 ?_
  refine lv_land hx hb dL_law_1053 ?_
  refine lv_lor hx hb dL_law_1054 ?_
  refine lw_arg hx hb hX hbl hS hl hi hL 4 (by decide) (by decide) dL_law_1055 dL_law_1056 dL_law_1057 dL_law_1058 dL_law_1059 rfl rfl rfl rfl rfl ?_
  refine lv_i2l hx hb dL_law_1060 rfl ?_
  refine lv_bipush (v := (32 : Int32)) hx hb dL_law_1061 (by decide) ?_
  refine lv_lshl hx hb dL_law_1063 rfl ?_
  refine lw_arg hx hb hX hbl hS hl hi hL 5 (by decide) (by decide) dL_law_1064 dL_law_1065 dL_law_1066 dL_law_1067 dL_law_1068 rfl rfl rfl rfl rfl ?_
  refine lv_i2l hx hb dL_law_1069 rfl ?_
  refine lv_ldc2 (v := (4294967295 : Int64)) hx hb hown (hts _ lw_c41) dL_law_1070 ?_
  refine lv_land hx hb dL_law_1073 ?_
  refine lv_lor hx hb dL_law_1074 ?_
  refine lcXi (As := [.int (xs (i + 1)), .long (lw_lo (xs (i + 2)) (xs (i + 3))), .long (lw_lo (xs (i + 4)) (xs (i + 5)))]) (rest := []) hE hO hPX hPM hS ⟨hx, hb, hml, hown, hts⟩ (mX6_beside l D h cI cJ t0 hO.1 S L (xs (i + 1)) (lw_lo (xs (i + 2)) (xs (i + 3))) (lw_lo (xs (i + 4)) (xs (i + 5))) _ (ok_beside hR (xs (i + 1)) (lw_lo (xs (i + 2)) (xs (i + 3))) (lw_lo (xs (i + 4)) (xs (i + 5))))) (cwV 3 hts gL_law_X6_beside rfl rfl rfl (by decide +kernel) ⟨Nat.le_of_ble_eq_true rfl, Nat.le_of_ble_eq_true rfl⟩) rfl hl.1 rfl (Nat.le_of_ble_eq_true rfl) dL_law_1075 ⟨Nat.le_of_ble_eq_true rfl, Nat.le_of_ble_eq_true rfl⟩ (fun r u H1 locs1 hw hPX1 hPM1 hS1 => ?_)
  obtain ⟨uS, uL⟩ := u
  dsimp only at hw hPX1
  refine lv_aload_n hx hb dL_law_1078 rfl (lv_at hl 2 rfl) ?_
  refine lw_arg hx hb hX hbl hS1 hl hi hL 1 (by decide) (by decide) dL_law_1079 dL_law_1080 dL_law_1081 dL_law_1082 dL_law_1083 rfl rfl rfl rfl rfl ?_
  refine lw_arg hx hb hX hbl hS1 hl hi hL 2 (by decide) (by decide) dL_law_1084 dL_law_1085 dL_law_1086 dL_law_1087 dL_law_1088 rfl rfl rfl rfl rfl ?_
  refine lv_i2l hx hb dL_law_1089 rfl ?_
  refine lv_bipush (v := (32 : Int32)) hx hb dL_law_1090 (by decide) ?_
  refine lv_lshl hx hb dL_law_1092 rfl ?_
  refine lw_arg hx hb hX hbl hS1 hl hi hL 3 (by decide) (by decide) dL_law_1093 dL_law_1094 dL_law_1095 dL_law_1096 dL_law_1097 rfl rfl rfl rfl rfl ?_
  refine lv_i2l hx hb dL_law_1098 rfl ?_
  refine lv_ldc2 (v := (4294967295 : Int64)) hx hb hown (hts _ lw_c41) dL_law_1099 ?_
  refine lv_land hx hb dL_law_1102 ?_
  refine lv_lor hx hb dL_law_1103 ?_
  refine lw_arg hx hb hX hbl hS1 hl hi hL 4 (by decide) (by decide) dL_law_1104 dL_law_1105 dL_law_1106 dL_law_1107 dL_law_1108 rfl rfl rfl rfl rfl ?_
  refine lv_i2l hx hb dL_law_1109 rfl ?_
  refine lv_bipush (v := (32 : Int32)) hx hb dL_law_1110 (by decide) ?_
  refine lv_lshl hx hb dL_law_1112 rfl ?_
  refine lw_arg hx hb hX hbl hS1 hl hi hL 5 (by decide) (by decide) dL_law_1113 dL_law_1114 dL_law_1115 dL_law_1116 dL_law_1117 rfl rfl rfl rfl rfl ?_
  refine lv_i2l hx hb dL_law_1118 rfl ?_
  refine lv_ldc2 (v := (4294967295 : Int64)) hx hb hown (hts _ lw_c41) dL_law_1119 ?_
  refine lv_land hx hb dL_law_1122 ?_
  refine lv_lor hx hb dL_law_1123 ?_
  refine lcMi (As := [.int (xs (i + 1)), .long (lw_lo (xs (i + 2)) (xs (i + 3))), .long (lw_lo (xs (i + 4)) (xs (i + 5)))]) (rest := [.int r]) hE hO hPX1 hPM1 hS1 ⟨hx, hb, hml, hown, hts⟩ (mX7_beside l D g cI cJ hO.2.1 M N (xs (i + 1)) (lw_lo (xs (i + 2)) (xs (i + 3))) (lw_lo (xs (i + 4)) (xs (i + 5))) _ hw) (cwV 3 hts gL_law_X7_beside rfl rfl rfl (by decide +kernel) ⟨Nat.le_of_ble_eq_true rfl, Nat.le_of_ble_eq_true rfl⟩) rfl hl.1 rfl (Nat.le_of_ble_eq_true rfl) dL_law_1124 ⟨Nat.le_of_ble_eq_true rfl, Nat.le_of_ble_eq_true rfl⟩ (fun r2 u2 H2 locs2 hv hPX2 hPM2 hS2 => ?_)
  obtain ⟨uM, uN⟩ := u2
  dsimp only at hv hPM2
  obtain ⟨he, hR2⟩ := hv
  exact lv_icmp_eq (tgt := 1493) hx hb dL_law_1127 (by decide) (fun _ => kk _ _ _ _ _ _ hR2 hPX2 hPM2 hS2) (fun z => absurd he z)
set_option maxHeartbeats 4000000 in
set_option maxRecDepth 100000 in
theorem lk_fights (C0 : lw_At p s m meth c b Ln xs) (hE : lE D cI cJ t0 s.heap.size s) (hO : lw_ok h g s.heap.size) (hi : i + 6 ≤ Ln) (hL : Ln ≤ 384) (hl : lv_has ls 4 [(0, .ref b), (1, .ref (h 0)), (2, .ref (g 0)), (3, .int (nI i))]) (hR : bw_R S L M N) (hPX : va_P D vwCl (wX h cI cJ S L) H) (hPM : va_P D vwCl (wM g cI cJ M N) H) (hS : va_S (fun q => s.heap.size ≤ q) s.heap H locs) (kk : lw_K p l e s m below meth c b D cI cJ h g ls) : W p l e room_1 s m #[Value.ref b] below meth c H locs 75 1823 (lw_Z below #[Value.ref b] s) (F0 m 1132 ls []) := by
  obtain ⟨hx, hb, hr, hml, hown, hts0, hX, hbl, hlocks, hgv⟩ := C0
  have hts : ∀ w ∈ wsL_law, w.before #[Value.ref b] s = true := fun w hw => hts0 w (wsL_law_in w hw)
  refine lv_aload_n hx hb dL_law_1132 rfl (lv_at hl 1 rfl) ?_
  refine lcXi (As := []) (rest := []) hE hO hPX hPM hS ⟨hx, hb, hml, hown, hts⟩ (mX6_fights l D h cI cJ t0 hO.1 S L  _ (ok_fights hR )) (cwV 0 hts gL_law_X6_fights rfl rfl rfl (by decide +kernel) ⟨Nat.le_of_ble_eq_true rfl, Nat.le_of_ble_eq_true rfl⟩) rfl hl.1 rfl (Nat.le_of_ble_eq_true rfl) dL_law_1133 ⟨Nat.le_of_ble_eq_true rfl, Nat.le_of_ble_eq_true rfl⟩ (fun r u H1 locs1 hw hPX1 hPM1 hS1 => ?_)
  obtain ⟨uS, uL⟩ := u
  dsimp only at hw hPX1
  obtain ⟨hw, rfl, rfl⟩ := hw
  refine lv_aload_n hx hb dL_law_1136 rfl (lv_at hl 2 rfl) ?_
  refine lcMi (As := []) (rest := [.int r]) hE hO hPX1 hPM1 hS1 ⟨hx, hb, hml, hown, hts⟩ (mX7_fights l D g cI cJ hO.2.1 M N  _ hw) (cwV 0 hts gL_law_X7_fights rfl rfl rfl (by decide +kernel) ⟨Nat.le_of_ble_eq_true rfl, Nat.le_of_ble_eq_true rfl⟩) rfl hl.1 rfl (Nat.le_of_ble_eq_true rfl) dL_law_1137 ⟨Nat.le_of_ble_eq_true rfl, Nat.le_of_ble_eq_true rfl⟩ (fun r2 u2 H2 locs2 hv hPX2 hPM2 hS2 => ?_)
  obtain ⟨uM, uN⟩ := u2
  dsimp only at hv hPM2
  obtain ⟨hv, rfl, rfl⟩ := hv
  have hR2 := hR
  have he := hv
  exact lv_icmp_eq (tgt := 1493) hx hb dL_law_1140 (by decide) (fun _ => kk _ _ _ _ _ _ hR2 hPX2 hPM2 hS2) (fun z => absurd he z)
set_option maxHeartbeats 4000000 in
set_option maxRecDepth 100000 in
theorem lk_fall (C0 : lw_At p s m meth c b Ln xs) (hE : lE D cI cJ t0 s.heap.size s) (hO : lw_ok h g s.heap.size) (hi : i + 6 ≤ Ln) (hL : Ln ≤ 384) (hl : lv_has ls 4 [(0, .ref b), (1, .ref (h 0)), (2, .ref (g 0)), (3, .int (nI i))]) (hR : bw_R S L M N) (hPX : va_P D vwCl (wX h cI cJ S L) H) (hPM : va_P D vwCl (wM g cI cJ M N) H) (hS : va_S (fun q => s.heap.size ≤ q) s.heap H locs) (kk : lw_K p l e s m below meth c b D cI cJ h g ls) : W p l e room_1 s m #[Value.ref b] below meth c H locs 75 1823 (lw_Z below #[Value.ref b] s) (F0 m 1145 ls []) := by
  obtain ⟨hx, hb, hr, hml, hown, hts0, hX, hbl, hlocks, hgv⟩ := C0
  have hts : ∀ w ∈ wsL_law, w.before #[Value.ref b] s = true := fun w hw => hts0 w (wsL_law_in w hw)
  refine lv_aload_n hx hb dL_law_1145 rfl (lv_at hl 1 rfl) ?_
  refine lw_arg hx hb hX hbl hS hl hi hL 1 (by decide) (by decide) dL_law_1146 dL_law_1147 dL_law_1148 dL_law_1149 dL_law_1150 rfl rfl rfl rfl rfl ?_
  refine lw_arg hx hb hX hbl hS hl hi hL 2 (by decide) (by decide) dL_law_1151 dL_law_1152 dL_law_1153 dL_law_1154 dL_law_1155 rfl rfl rfl rfl rfl ?_
  refine lw_arg hx hb hX hbl hS hl hi hL 3 (by decide) (by decide) dL_law_1156 dL_law_1157 dL_law_1158 dL_law_1159 dL_law_1160 rfl rfl rfl rfl rfl ?_
  refine lcXl (As := [.int (xs (i + 1)), .int (xs (i + 2)), .int (xs (i + 3))]) (rest := []) hE hO hPX hPM hS ⟨hx, hb, hml, hown, hts⟩ (mX6_fall l D h cI cJ t0 hO.1 S L (xs (i + 1)) (xs (i + 2)) (xs (i + 3)) _ (ok_fall hR (xs (i + 1)) (xs (i + 2)) (xs (i + 3)))) (cwV 3 hts gL_law_X6_fall rfl rfl rfl (by decide +kernel) ⟨Nat.le_of_ble_eq_true rfl, Nat.le_of_ble_eq_true rfl⟩) rfl hl.1 rfl (Nat.le_of_ble_eq_true rfl) dL_law_1161 ⟨Nat.le_of_ble_eq_true rfl, Nat.le_of_ble_eq_true rfl⟩ (fun r u H1 locs1 hw hPX1 hPM1 hS1 => ?_)
  obtain ⟨uS, uL⟩ := u
  dsimp only at hw hPX1
  obtain ⟨hw, rfl, rfl⟩ := hw
  refine lv_aload_n hx hb dL_law_1164 rfl (lv_at hl 2 rfl) ?_
  refine lw_arg hx hb hX hbl hS1 hl hi hL 1 (by decide) (by decide) dL_law_1165 dL_law_1166 dL_law_1167 dL_law_1168 dL_law_1169 rfl rfl rfl rfl rfl ?_
  refine lw_arg hx hb hX hbl hS1 hl hi hL 2 (by decide) (by decide) dL_law_1170 dL_law_1171 dL_law_1172 dL_law_1173 dL_law_1174 rfl rfl rfl rfl rfl ?_
  refine lw_arg hx hb hX hbl hS1 hl hi hL 3 (by decide) (by decide) dL_law_1175 dL_law_1176 dL_law_1177 dL_law_1178 dL_law_1179 rfl rfl rfl rfl rfl ?_
  refine lcMl (As := [.int (xs (i + 1)), .int (xs (i + 2)), .int (xs (i + 3))]) (rest := [.long r]) hE hO hPX1 hPM1 hS1 ⟨hx, hb, hml, hown, hts⟩ (mX7_fall l D g cI cJ hO.2.1 M N (xs (i + 1)) (xs (i + 2)) (xs (i + 3)) _ hw) (cwV 3 hts gL_law_X7_fall rfl rfl rfl (by decide +kernel) ⟨Nat.le_of_ble_eq_true rfl, Nat.le_of_ble_eq_true rfl⟩) rfl hl.1 rfl (Nat.le_of_ble_eq_true rfl) dL_law_1180 ⟨Nat.le_of_ble_eq_true rfl, Nat.le_of_ble_eq_true rfl⟩ (fun r2 u2 H2 locs2 hv hPX2 hPM2 hS2 => ?_)
  obtain ⟨uM, uN⟩ := u2
  dsimp only at hv hPM2
  obtain ⟨hv, rfl, rfl⟩ := hv
  have hR2 := hR
  have he := hv
  refine W.lcmp hx hb dL_law_1183 ?_
  exact lv_if_eq (tgt := 1493) hx hb dL_law_1184 (by decide) (fun _ => kk _ _ _ _ _ _ hR2 hPX2 hPM2 hS2) (fun z => absurd ((lg_cmp_eq _ _).mpr he) z)
set_option maxHeartbeats 4000000 in
set_option maxRecDepth 100000 in
theorem lk_image (C0 : lw_At p s m meth c b Ln xs) (hE : lE D cI cJ t0 s.heap.size s) (hO : lw_ok h g s.heap.size) (hi : i + 6 ≤ Ln) (hL : Ln ≤ 384) (hl : lv_has ls 4 [(0, .ref b), (1, .ref (h 0)), (2, .ref (g 0)), (3, .int (nI i))]) (hR : bw_R S L M N) (hPX : va_P D vwCl (wX h cI cJ S L) H) (hPM : va_P D vwCl (wM g cI cJ M N) H) (hS : va_S (fun q => s.heap.size ≤ q) s.heap H locs) (kk : lw_K p l e s m below meth c b D cI cJ h g ls) : W p l e room_1 s m #[Value.ref b] below meth c H locs 75 1823 (lw_Z below #[Value.ref b] s) (F0 m 1189 ls []) := by
  obtain ⟨hx, hb, hr, hml, hown, hts0, hX, hbl, hlocks, hgv⟩ := C0
  have hts : ∀ w ∈ wsL_law, w.before #[Value.ref b] s = true := fun w hw => hts0 w (wsL_law_in w hw)
  refine lv_aload_n hx hb dL_law_1189 rfl (lv_at hl 1 rfl) ?_
  refine lcXi (As := []) (rest := []) hE hO hPX hPM hS ⟨hx, hb, hml, hown, hts⟩ (mX6_image l D h cI cJ t0 hO.1 S L  _ (ok_image hR )) (cwV 0 hts gL_law_X6_image rfl rfl rfl (by decide +kernel) ⟨Nat.le_of_ble_eq_true rfl, Nat.le_of_ble_eq_true rfl⟩) rfl hl.1 rfl (Nat.le_of_ble_eq_true rfl) dL_law_1190 ⟨Nat.le_of_ble_eq_true rfl, Nat.le_of_ble_eq_true rfl⟩ (fun r u H1 locs1 hw hPX1 hPM1 hS1 => ?_)
  obtain ⟨uS, uL⟩ := u
  dsimp only at hw hPX1
  refine lv_aload_n hx hb dL_law_1193 rfl (lv_at hl 2 rfl) ?_
  refine lcMi (As := []) (rest := [.int r]) hE hO hPX1 hPM1 hS1 ⟨hx, hb, hml, hown, hts⟩ (mX7_image l D g cI cJ hO.2.1 M N  _ hw) (cwV 0 hts gL_law_X7_image rfl rfl rfl (by decide +kernel) ⟨Nat.le_of_ble_eq_true rfl, Nat.le_of_ble_eq_true rfl⟩) rfl hl.1 rfl (Nat.le_of_ble_eq_true rfl) dL_law_1194 ⟨Nat.le_of_ble_eq_true rfl, Nat.le_of_ble_eq_true rfl⟩ (fun r2 u2 H2 locs2 hv hPX2 hPM2 hS2 => ?_)
  obtain ⟨uM, uN⟩ := u2
  dsimp only at hv hPM2
  obtain ⟨he, hR2⟩ := hv
  exact lv_icmp_eq (tgt := 1493) hx hb dL_law_1197 (by decide) (fun _ => kk _ _ _ _ _ _ hR2 hPX2 hPM2 hS2) (fun z => absurd he z)
set_option maxHeartbeats 4000000 in
set_option maxRecDepth 100000 in
theorem lk_restore (C0 : lw_At p s m meth c b Ln xs) (hE : lE D cI cJ t0 s.heap.size s) (hO : lw_ok h g s.heap.size) (hi : i + 6 ≤ Ln) (hL : Ln ≤ 384) (hl : lv_has ls 4 [(0, .ref b), (1, .ref (h 0)), (2, .ref (g 0)), (3, .int (nI i))]) (hR : bw_R S L M N) (hPX : va_P D vwCl (wX h cI cJ S L) H) (hPM : va_P D vwCl (wM g cI cJ M N) H) (hS : va_S (fun q => s.heap.size ≤ q) s.heap H locs) (kk : lw_K p l e s m below meth c b D cI cJ h g ls) : W p l e room_1 s m #[Value.ref b] below meth c H locs 75 1823 (lw_Z below #[Value.ref b] s) (F0 m 1202 ls []) := by
  obtain ⟨hx, hb, hr, hml, hown, hts0, hX, hbl, hlocks, hgv⟩ := C0
  have hts : ∀ w ∈ wsL_law, w.before #[Value.ref b] s = true := fun w hw => hts0 w (wsL_law_in w hw)
  refine lv_aload_n hx hb dL_law_1202 rfl (lv_at hl 1 rfl) ?_
  refine lcXi (As := []) (rest := []) hE hO hPX hPM hS ⟨hx, hb, hml, hown, hts⟩ (mX6_restore l D h cI cJ t0 hO.1 S L  _ (ok_restore hR )) (cwV 0 hts gL_law_X6_restore rfl rfl rfl (by decide +kernel) ⟨Nat.le_of_ble_eq_true rfl, Nat.le_of_ble_eq_true rfl⟩) rfl hl.1 rfl (Nat.le_of_ble_eq_true rfl) dL_law_1203 ⟨Nat.le_of_ble_eq_true rfl, Nat.le_of_ble_eq_true rfl⟩ (fun r u H1 locs1 hw hPX1 hPM1 hS1 => ?_)
  obtain ⟨uS, uL⟩ := u
  dsimp only at hw hPX1
  refine lv_aload_n hx hb dL_law_1206 rfl (lv_at hl 2 rfl) ?_
  refine lcMi (As := []) (rest := [.int r]) hE hO hPX1 hPM1 hS1 ⟨hx, hb, hml, hown, hts⟩ (mX7_restore l D g cI cJ hO.2.1 M N  _ hw) (cwV 0 hts gL_law_X7_restore rfl rfl rfl (by decide +kernel) ⟨Nat.le_of_ble_eq_true rfl, Nat.le_of_ble_eq_true rfl⟩) rfl hl.1 rfl (Nat.le_of_ble_eq_true rfl) dL_law_1207 ⟨Nat.le_of_ble_eq_true rfl, Nat.le_of_ble_eq_true rfl⟩ (fun r2 u2 H2 locs2 hv hPX2 hPM2 hS2 => ?_)
  obtain ⟨uM, uN⟩ := u2
  dsimp only at hv hPM2
  obtain ⟨he, hR2⟩ := hv
  exact lv_icmp_eq (tgt := 1493) hx hb dL_law_1210 (by decide) (fun _ => kk _ _ _ _ _ _ hR2 hPX2 hPM2 hS2) (fun z => absurd he z)
set_option maxHeartbeats 4000000 in
set_option maxRecDepth 100000 in
theorem lk_book (C0 : lw_At p s m meth c b Ln xs) (hE : lE D cI cJ t0 s.heap.size s) (hO : lw_ok h g s.heap.size) (hi : i + 6 ≤ Ln) (hL : Ln ≤ 384) (hl : lv_has ls 4 [(0, .ref b), (1, .ref (h 0)), (2, .ref (g 0)), (3, .int (nI i))]) (hR : bw_R S L M N) (hPX : va_P D vwCl (wX h cI cJ S L) H) (hPM : va_P D vwCl (wM g cI cJ M N) H) (hS : va_S (fun q => s.heap.size ≤ q) s.heap H locs) (kk : lw_K p l e s m below meth c b D cI cJ h g ls) : W p l e room_1 s m #[Value.ref b] below meth c H locs 75 1823 (lw_Z below #[Value.ref b] s) (F0 m 1215 ls []) := by
  obtain ⟨hx, hb, hr, hml, hown, hts0, hX, hbl, hlocks, hgv⟩ := C0
  have hts : ∀ w ∈ wsL_law, w.before #[Value.ref b] s = true := fun w hw => hts0 w (wsL_law_in w hw)
  refine lv_aload_n hx hb dL_law_1215 rfl (lv_at hl 1 rfl) ?_
  refine lw_arg hx hb hX hbl hS hl hi hL 1 (by decide) (by decide) dL_law_1216 dL_law_1217 dL_law_1218 dL_law_1219 dL_law_1220 rfl rfl rfl rfl rfl ?_
  refine lw_arg hx hb hX hbl hS hl hi hL 2 (by decide) (by decide) dL_law_1221 dL_law_1222 dL_law_1223 dL_law_1224 dL_law_1225 rfl rfl rfl rfl rfl ?_
  refine lw_arg hx hb hX hbl hS hl hi hL 3 (by decide) (by decide) dL_law_1226 dL_law_1227 dL_law_1228 dL_law_1229 dL_law_1230 rfl rfl rfl rfl rfl ?_
  refine lw_arg hx hb hX hbl hS hl hi hL 4 (by decide) (by decide) dL_law_1231 dL_law_1232 dL_law_1233 dL_law_1234 dL_law_1235 rfl rfl rfl rfl rfl ?_
  refine lcXi (As := [.int (xs (i + 1)), .int (xs (i + 2)), .int (xs (i + 3)), .int (xs (i + 4))]) (rest := []) hE hO hPX hPM hS ⟨hx, hb, hml, hown, hts⟩ (mX6_book l D h cI cJ t0 hO.1 S L (xs (i + 1)) (xs (i + 2)) (xs (i + 3)) (xs (i + 4)) _ (ok_book hR (xs (i + 1)) (xs (i + 2)) (xs (i + 3)) (xs (i + 4)))) (cwV 4 hts gL_law_X6_book rfl rfl rfl (by decide +kernel) ⟨Nat.le_of_ble_eq_true rfl, Nat.le_of_ble_eq_true rfl⟩) rfl hl.1 rfl (Nat.le_of_ble_eq_true rfl) dL_law_1236 ⟨Nat.le_of_ble_eq_true rfl, Nat.le_of_ble_eq_true rfl⟩ (fun r u H1 locs1 hw hPX1 hPM1 hS1 => ?_)
  obtain ⟨uS, uL⟩ := u
  dsimp only at hw hPX1
  obtain ⟨hw, rfl⟩ := hw
  refine lv_aload_n hx hb dL_law_1239 rfl (lv_at hl 2 rfl) ?_
  refine lw_arg hx hb hX hbl hS1 hl hi hL 1 (by decide) (by decide) dL_law_1240 dL_law_1241 dL_law_1242 dL_law_1243 dL_law_1244 rfl rfl rfl rfl rfl ?_
  refine lw_arg hx hb hX hbl hS1 hl hi hL 2 (by decide) (by decide) dL_law_1245 dL_law_1246 dL_law_1247 dL_law_1248 dL_law_1249 rfl rfl rfl rfl rfl ?_
  refine lw_arg hx hb hX hbl hS1 hl hi hL 3 (by decide) (by decide) dL_law_1250 dL_law_1251 dL_law_1252 dL_law_1253 dL_law_1254 rfl rfl rfl rfl rfl ?_
  refine lw_arg hx hb hX hbl hS1 hl hi hL 4 (by decide) (by decide) dL_law_1255 dL_law_1256 dL_law_1257 dL_law_1258 dL_law_1259 rfl rfl rfl rfl rfl ?_
  refine lcMi (As := [.int (xs (i + 1)), .int (xs (i + 2)), .int (xs (i + 3)), .int (xs (i + 4))]) (rest := [.int r]) hE hO hPX1 hPM1 hS1 ⟨hx, hb, hml, hown, hts⟩ (mX7_book l D g cI cJ hO.2.1 M N (xs (i + 1)) (xs (i + 2)) (xs (i + 3)) (xs (i + 4)) _ hw) (cwV 4 hts gL_law_X7_book rfl rfl rfl (by decide +kernel) ⟨Nat.le_of_ble_eq_true rfl, Nat.le_of_ble_eq_true rfl⟩) rfl hl.1 rfl (Nat.le_of_ble_eq_true rfl) dL_law_1260 ⟨Nat.le_of_ble_eq_true rfl, Nat.le_of_ble_eq_true rfl⟩ (fun r2 u2 H2 locs2 hv hPX2 hPM2 hS2 => ?_)
  obtain ⟨uM, uN⟩ := u2
  dsimp only at hv hPM2
  obtain ⟨hv, rfl⟩ := hv
  obtain ⟨he, hR2⟩ := hv
  exact lv_icmp_eq (tgt := 1493) hx hb dL_law_1263 (by decide) (fun _ => kk _ _ _ _ _ _ hR2 hPX2 hPM2 hS2) (fun z => absurd he z)
set_option maxHeartbeats 4000000 in
set_option maxRecDepth 100000 in
theorem lk_crowds (C0 : lw_At p s m meth c b Ln xs) (hE : lE D cI cJ t0 s.heap.size s) (hO : lw_ok h g s.heap.size) (hi : i + 6 ≤ Ln) (hL : Ln ≤ 384) (hl : lv_has ls 4 [(0, .ref b), (1, .ref (h 0)), (2, .ref (g 0)), (3, .int (nI i))]) (hR : bw_R S L M N) (hPX : va_P D vwCl (wX h cI cJ S L) H) (hPM : va_P D vwCl (wM g cI cJ M N) H) (hS : va_S (fun q => s.heap.size ≤ q) s.heap H locs) (kk : lw_K p l e s m below meth c b D cI cJ h g ls) : W p l e room_1 s m #[Value.ref b] below meth c H locs 75 1823 (lw_Z below #[Value.ref b] s) (F0 m 1268 ls []) := by
  obtain ⟨hx, hb, hr, hml, hown, hts0, hX, hbl, hlocks, hgv⟩ := C0
  have hts : ∀ w ∈ wsL_law, w.before #[Value.ref b] s = true := fun w hw => hts0 w (wsL_law_in w hw)
  refine lv_aload_n hx hb dL_law_1268 rfl (lv_at hl 1 rfl) ?_
  refine lw_arg hx hb hX hbl hS hl hi hL 1 (by decide) (by decide) dL_law_1269 dL_law_1270 dL_law_1271 dL_law_1272 dL_law_1273 rfl rfl rfl rfl rfl ?_
  refine lw_arg hx hb hX hbl hS hl hi hL 2 (by decide) (by decide) dL_law_1274 dL_law_1275 dL_law_1276 dL_law_1277 dL_law_1278 rfl rfl rfl rfl rfl ?_
  refine lw_arg hx hb hX hbl hS hl hi hL 3 (by decide) (by decide) dL_law_1279 dL_law_1280 dL_law_1281 dL_law_1282 dL_law_1283 rfl rfl rfl rfl rfl ?_
  refine lcXi (As := [.int (xs (i + 1)), .int (xs (i + 2)), .int (xs (i + 3))]) (rest := []) hE hO hPX hPM hS ⟨hx, hb, hml, hown, hts⟩ (mX6_crowds l D h cI cJ t0 hO.1 S L (xs (i + 1)) (xs (i + 2)) (xs (i + 3)) _ (ok_crowds hR (xs (i + 1)) (xs (i + 2)) (xs (i + 3)))) (cwV 3 hts gL_law_X6_crowds rfl rfl rfl (by decide +kernel) ⟨Nat.le_of_ble_eq_true rfl, Nat.le_of_ble_eq_true rfl⟩) rfl hl.1 rfl (Nat.le_of_ble_eq_true rfl) dL_law_1284 ⟨Nat.le_of_ble_eq_true rfl, Nat.le_of_ble_eq_true rfl⟩ (fun r u H1 locs1 hw hPX1 hPM1 hS1 => ?_)
  obtain ⟨uS, uL⟩ := u
  dsimp only at hw hPX1
  obtain ⟨hw, rfl⟩ := hw
  refine lv_aload_n hx hb dL_law_1287 rfl (lv_at hl 2 rfl) ?_
  refine lw_arg hx hb hX hbl hS1 hl hi hL 1 (by decide) (by decide) dL_law_1288 dL_law_1289 dL_law_1290 dL_law_1291 dL_law_1292 rfl rfl rfl rfl rfl ?_
  refine lw_arg hx hb hX hbl hS1 hl hi hL 2 (by decide) (by decide) dL_law_1293 dL_law_1294 dL_law_1295 dL_law_1296 dL_law_1297 rfl rfl rfl rfl rfl ?_
  refine lw_arg hx hb hX hbl hS1 hl hi hL 3 (by decide) (by decide) dL_law_1298 dL_law_1299 dL_law_1300 dL_law_1301 dL_law_1302 rfl rfl rfl rfl rfl ?_
  refine lcMi (As := [.int (xs (i + 1)), .int (xs (i + 2)), .int (xs (i + 3))]) (rest := [.int r]) hE hO hPX1 hPM1 hS1 ⟨hx, hb, hml, hown, hts⟩ (mX7_crowds l D g cI cJ hO.2.1 M N (xs (i + 1)) (xs (i + 2)) (xs (i + 3)) _ hw) (cwV 3 hts gL_law_X7_crowds rfl rfl rfl (by decide +kernel) ⟨Nat.le_of_ble_eq_true rfl, Nat.le_of_ble_eq_true rfl⟩) rfl hl.1 rfl (Nat.le_of_ble_eq_true rfl) dL_law_1303 ⟨Nat.le_of_ble_eq_true rfl, Nat.le_of_ble_eq_true rfl⟩ (fun r2 u2 H2 locs2 hv hPX2 hPM2 hS2 => ?_)
  obtain ⟨uM, uN⟩ := u2
  dsimp only at hv hPM2
  obtain ⟨hv, rfl⟩ := hv
  obtain ⟨he, hR2⟩ := hv
  exact lv_icmp_eq (tgt := 1493) hx hb dL_law_1306 (by decide) (fun _ => kk _ _ _ _ _ _ hR2 hPX2 hPM2 hS2) (fun z => absurd he z)
set_option maxHeartbeats 4000000 in
set_option maxRecDepth 100000 in
theorem lk_sheet (C0 : lw_At p s m meth c b Ln xs) (hE : lE D cI cJ t0 s.heap.size s) (hO : lw_ok h g s.heap.size) (hi : i + 6 ≤ Ln) (hL : Ln ≤ 384) (hl : lv_has ls 4 [(0, .ref b), (1, .ref (h 0)), (2, .ref (g 0)), (3, .int (nI i))]) (hR : bw_R S L M N) (hPX : va_P D vwCl (wX h cI cJ S L) H) (hPM : va_P D vwCl (wM g cI cJ M N) H) (hS : va_S (fun q => s.heap.size ≤ q) s.heap H locs) (kk : lw_K p l e s m below meth c b D cI cJ h g ls) : W p l e room_1 s m #[Value.ref b] below meth c H locs 75 1823 (lw_Z below #[Value.ref b] s) (F0 m 1311 ls []) := by
  obtain ⟨hx, hb, hr, hml, hown, hts0, hX, hbl, hlocks, hgv⟩ := C0
  have hts : ∀ w ∈ wsL_law, w.before #[Value.ref b] s = true := fun w hw => hts0 w (wsL_law_in w hw)
  refine lv_aload_n hx hb dL_law_1311 rfl (lv_at hl 1 rfl) ?_
  refine lw_arg hx hb hX hbl hS hl hi hL 1 (by decide) (by decide) dL_law_1312 dL_law_1313 dL_law_1314 dL_law_1315 dL_law_1316 rfl rfl rfl rfl rfl ?_
  refine lw_arg hx hb hX hbl hS hl hi hL 2 (by decide) (by decide) dL_law_1317 dL_law_1318 dL_law_1319 dL_law_1320 dL_law_1321 rfl rfl rfl rfl rfl ?_
  refine lw_arg hx hb hX hbl hS hl hi hL 3 (by decide) (by decide) dL_law_1322 dL_law_1323 dL_law_1324 dL_law_1325 dL_law_1326 rfl rfl rfl rfl rfl ?_
  refine lcXi (As := [.int (xs (i + 1)), .int (xs (i + 2)), .int (xs (i + 3))]) (rest := []) hE hO hPX hPM hS ⟨hx, hb, hml, hown, hts⟩ (mX6_sheet l D h cI cJ t0 hO.1 S L (xs (i + 1)) (xs (i + 2)) (xs (i + 3)) _ (ok_sheet hR (xs (i + 1)) (xs (i + 2)) (xs (i + 3)))) (cwV 3 hts gL_law_X6_sheet rfl rfl rfl (by decide +kernel) ⟨Nat.le_of_ble_eq_true rfl, Nat.le_of_ble_eq_true rfl⟩) rfl hl.1 rfl (Nat.le_of_ble_eq_true rfl) dL_law_1327 ⟨Nat.le_of_ble_eq_true rfl, Nat.le_of_ble_eq_true rfl⟩ (fun r u H1 locs1 hw hPX1 hPM1 hS1 => ?_)
  obtain ⟨uS, uL⟩ := u
  dsimp only at hw hPX1
  obtain ⟨hw, rfl⟩ := hw
  refine lv_aload_n hx hb dL_law_1330 rfl (lv_at hl 2 rfl) ?_
  refine lw_arg hx hb hX hbl hS1 hl hi hL 1 (by decide) (by decide) dL_law_1331 dL_law_1332 dL_law_1333 dL_law_1334 dL_law_1335 rfl rfl rfl rfl rfl ?_
  refine lw_arg hx hb hX hbl hS1 hl hi hL 2 (by decide) (by decide) dL_law_1336 dL_law_1337 dL_law_1338 dL_law_1339 dL_law_1340 rfl rfl rfl rfl rfl ?_
  refine lw_arg hx hb hX hbl hS1 hl hi hL 3 (by decide) (by decide) dL_law_1341 dL_law_1342 dL_law_1343 dL_law_1344 dL_law_1345 rfl rfl rfl rfl rfl ?_
  refine lcMi (As := [.int (xs (i + 1)), .int (xs (i + 2)), .int (xs (i + 3))]) (rest := [.int r]) hE hO hPX1 hPM1 hS1 ⟨hx, hb, hml, hown, hts⟩ (mX7_sheet l D g cI cJ hO.2.1 M N (xs (i + 1)) (xs (i + 2)) (xs (i + 3)) _ hw) (cwV 3 hts gL_law_X7_sheet rfl rfl rfl (by decide +kernel) ⟨Nat.le_of_ble_eq_true rfl, Nat.le_of_ble_eq_true rfl⟩) rfl hl.1 rfl (Nat.le_of_ble_eq_true rfl) dL_law_1346 ⟨Nat.le_of_ble_eq_true rfl, Nat.le_of_ble_eq_true rfl⟩ (fun r2 u2 H2 locs2 hv hPX2 hPM2 hS2 => ?_)
  obtain ⟨uM, uN⟩ := u2
  dsimp only at hv hPM2
  obtain ⟨hv, rfl⟩ := hv
  obtain ⟨he, hR2⟩ := hv
  exact lv_icmp_eq (tgt := 1493) hx hb dL_law_1349 (by decide) (fun _ => kk _ _ _ _ _ _ hR2 hPX2 hPM2 hS2) (fun z => absurd he z)
set_option maxHeartbeats 4000000 in
set_option maxRecDepth 100000 in
theorem lk_drop (C0 : lw_At p s m meth c b Ln xs) (hE : lE D cI cJ t0 s.heap.size s) (hO : lw_ok h g s.heap.size) (hi : i + 6 ≤ Ln) (hL : Ln ≤ 384) (hl : lv_has ls 4 [(0, .ref b), (1, .ref (h 0)), (2, .ref (g 0)), (3, .int (nI i))]) (hR : bw_R S L M N) (hPX : va_P D vwCl (wX h cI cJ S L) H) (hPM : va_P D vwCl (wM g cI cJ M N) H) (hS : va_S (fun q => s.heap.size ≤ q) s.heap H locs) (kk : lw_K p l e s m below meth c b D cI cJ h g ls) : W p l e room_1 s m #[Value.ref b] below meth c H locs 75 1823 (lw_Z below #[Value.ref b] s) (F0 m 1354 ls []) := by
  obtain ⟨hx, hb, hr, hml, hown, hts0, hX, hbl, hlocks, hgv⟩ := C0
  have hts : ∀ w ∈ wsL_law, w.before #[Value.ref b] s = true := fun w hw => hts0 w (wsL_law_in w hw)
  refine lv_aload_n hx hb dL_law_1354 rfl (lv_at hl 1 rfl) ?_
  refine lw_arg hx hb hX hbl hS hl hi hL 1 (by decide) (by decide) dL_law_1355 dL_law_1356 dL_law_1357 dL_law_1358 dL_law_1359 rfl rfl rfl rfl rfl ?_
  refine lcXi (As := [.int (xs (i + 1))]) (rest := []) hE hO hPX hPM hS ⟨hx, hb, hml, hown, hts⟩ (mX6_drop l D h cI cJ t0 hO.1 S L (xs (i + 1)) _ (ok_drop hR (xs (i + 1)))) (cwV 1 hts gL_law_X6_drop rfl rfl rfl (by decide +kernel) ⟨Nat.le_of_ble_eq_true rfl, Nat.le_of_ble_eq_true rfl⟩) rfl hl.1 rfl (Nat.le_of_ble_eq_true rfl) dL_law_1360 ⟨Nat.le_of_ble_eq_true rfl, Nat.le_of_ble_eq_true rfl⟩ (fun r u H1 locs1 hw hPX1 hPM1 hS1 => ?_)
  obtain ⟨uS, uL⟩ := u
  dsimp only at hw hPX1
  obtain ⟨hw, rfl⟩ := hw
  refine lv_aload_n hx hb dL_law_1363 rfl (lv_at hl 2 rfl) ?_
  refine lw_arg hx hb hX hbl hS1 hl hi hL 1 (by decide) (by decide) dL_law_1364 dL_law_1365 dL_law_1366 dL_law_1367 dL_law_1368 rfl rfl rfl rfl rfl ?_
  refine lcMi (As := [.int (xs (i + 1))]) (rest := [.int r]) hE hO hPX1 hPM1 hS1 ⟨hx, hb, hml, hown, hts⟩ (mX7_drop l D g cI cJ hO.2.1 M N (xs (i + 1)) _ hw) (cwV 1 hts gL_law_X7_drop rfl rfl rfl (by decide +kernel) ⟨Nat.le_of_ble_eq_true rfl, Nat.le_of_ble_eq_true rfl⟩) rfl hl.1 rfl (Nat.le_of_ble_eq_true rfl) dL_law_1369 ⟨Nat.le_of_ble_eq_true rfl, Nat.le_of_ble_eq_true rfl⟩ (fun r2 u2 H2 locs2 hv hPX2 hPM2 hS2 => ?_)
  obtain ⟨uM, uN⟩ := u2
  dsimp only at hv hPM2
  obtain ⟨hv, rfl⟩ := hv
  obtain ⟨he, hR2⟩ := hv
  exact lv_icmp_eq (tgt := 1493) hx hb dL_law_1372 (by decide) (fun _ => kk _ _ _ _ _ _ hR2 hPX2 hPM2 hS2) (fun z => absurd he z)
set_option maxHeartbeats 4000000 in
set_option maxRecDepth 100000 in
theorem lk_item (C0 : lw_At p s m meth c b Ln xs) (hE : lE D cI cJ t0 s.heap.size s) (hO : lw_ok h g s.heap.size) (hi : i + 6 ≤ Ln) (hL : Ln ≤ 384) (hl : lv_has ls 4 [(0, .ref b), (1, .ref (h 0)), (2, .ref (g 0)), (3, .int (nI i))]) (hR : bw_R S L M N) (hPX : va_P D vwCl (wX h cI cJ S L) H) (hPM : va_P D vwCl (wM g cI cJ M N) H) (hS : va_S (fun q => s.heap.size ≤ q) s.heap H locs) (kk : lw_K p l e s m below meth c b D cI cJ h g ls) : W p l e room_1 s m #[Value.ref b] below meth c H locs 75 1823 (lw_Z below #[Value.ref b] s) (F0 m 1377 ls []) := by
  obtain ⟨hx, hb, hr, hml, hown, hts0, hX, hbl, hlocks, hgv⟩ := C0
  have hts : ∀ w ∈ wsL_law, w.before #[Value.ref b] s = true := fun w hw => hts0 w (wsL_law_in w hw)
  refine lv_aload_n hx hb dL_law_1377 rfl (lv_at hl 1 rfl) ?_
  refine lw_arg hx hb hX hbl hS hl hi hL 1 (by decide) (by decide) dL_law_1378 dL_law_1379 dL_law_1380 dL_law_1381 dL_law_1382 rfl rfl rfl rfl rfl ?_
  refine lw_arg hx hb hX hbl hS hl hi hL 2 (by decide) (by decide) dL_law_1383 dL_law_1384 dL_law_1385 dL_law_1386 dL_law_1387 rfl rfl rfl rfl rfl ?_
  refine lw_arg hx hb hX hbl hS hl hi hL 3 (by decide) (by decide) dL_law_1388 dL_law_1389 dL_law_1390 dL_law_1391 dL_law_1392 rfl rfl rfl rfl rfl ?_
  refine lw_arg hx hb hX hbl hS hl hi hL 4 (by decide) (by decide) dL_law_1393 dL_law_1394 dL_law_1395 dL_law_1396 dL_law_1397 rfl rfl rfl rfl rfl ?_
  refine lcXi (As := [.int (xs (i + 1)), .int (xs (i + 2)), .int (xs (i + 3)), .int (xs (i + 4))]) (rest := []) hE hO hPX hPM hS ⟨hx, hb, hml, hown, hts⟩ (mX6_item l D h cI cJ t0 hO.1 S L (xs (i + 1)) (xs (i + 2)) (xs (i + 3)) (xs (i + 4)) _ (ok_item hR (xs (i + 1)) (xs (i + 2)) (xs (i + 3)) (xs (i + 4)))) (cwV 4 hts gL_law_X6_item rfl rfl rfl (by decide +kernel) ⟨Nat.le_of_ble_eq_true rfl, Nat.le_of_ble_eq_true rfl⟩) rfl hl.1 rfl (Nat.le_of_ble_eq_true rfl) dL_law_1398 ⟨Nat.le_of_ble_eq_true rfl, Nat.le_of_ble_eq_true rfl⟩ (fun r u H1 locs1 hw hPX1 hPM1 hS1 => ?_)
  obtain ⟨uS, uL⟩ := u
  dsimp only at hw hPX1
  obtain ⟨hw, rfl⟩ := hw
  refine lv_aload_n hx hb dL_law_1401 rfl (lv_at hl 2 rfl) ?_
  refine lw_arg hx hb hX hbl hS1 hl hi hL 1 (by decide) (by decide) dL_law_1402 dL_law_1403 dL_law_1404 dL_law_1405 dL_law_1406 rfl rfl rfl rfl rfl ?_
  refine lw_arg hx hb hX hbl hS1 hl hi hL 2 (by decide) (by decide) dL_law_1407 dL_law_1408 dL_law_1409 dL_law_1410 dL_law_1411 rfl rfl rfl rfl rfl ?_
  refine lw_arg hx hb hX hbl hS1 hl hi hL 3 (by decide) (by decide) dL_law_1412 dL_law_1413 dL_law_1414 dL_law_1415 dL_law_1416 rfl rfl rfl rfl rfl ?_
  refine lw_arg hx hb hX hbl hS1 hl hi hL 4 (by decide) (by decide) dL_law_1417 dL_law_1418 dL_law_1419 dL_law_1420 dL_law_1421 rfl rfl rfl rfl rfl ?_
  refine lcMi (As := [.int (xs (i + 1)), .int (xs (i + 2)), .int (xs (i + 3)), .int (xs (i + 4))]) (rest := [.int r]) hE hO hPX1 hPM1 hS1 ⟨hx, hb, hml, hown, hts⟩ (mX7_item l D g cI cJ hO.2.1 M N (xs (i + 1)) (xs (i + 2)) (xs (i + 3)) (xs (i + 4)) _ hw) (cwV 4 hts gL_law_X7_item rfl rfl rfl (by decide +kernel) ⟨Nat.le_of_ble_eq_true rfl, Nat.le_of_ble_eq_true rfl⟩) rfl hl.1 rfl (Nat.le_of_ble_eq_true rfl) dL_law_1422 ⟨Nat.le_of_ble_eq_true rfl, Nat.le_of_ble_eq_true rfl⟩ (fun r2 u2 H2 locs2 hv hPX2 hPM2 hS2 => ?_)
  obtain ⟨uM, uN⟩ := u2
  dsimp only at hv hPM2
  obtain ⟨hv, rfl⟩ := hv
  obtain ⟨he, hR2⟩ := hv
  exact lv_icmp_eq (tgt := 1493) hx hb dL_law_1425 (by decide) (fun _ => kk _ _ _ _ _ _ hR2 hPX2 hPM2 hS2) (fun z => absurd he z)
set_option maxHeartbeats 4000000 in
set_option maxRecDepth 100000 in
theorem lk_copy (C0 : lw_At p s m meth c b Ln xs) (hE : lE D cI cJ t0 s.heap.size s) (hO : lw_ok h g s.heap.size) (hi : i + 6 ≤ Ln) (hL : Ln ≤ 384) (hl : lv_has ls 4 [(0, .ref b), (1, .ref (h 0)), (2, .ref (g 0)), (3, .int (nI i))]) (hR : bw_R S L M N) (hPX : va_P D vwCl (wX h cI cJ S L) H) (hPM : va_P D vwCl (wM g cI cJ M N) H) (hS : va_S (fun q => s.heap.size ≤ q) s.heap H locs) (kk : lw_K p l e s m below meth c b D cI cJ h g ls) : W p l e room_1 s m #[Value.ref b] below meth c H locs 75 1823 (lw_Z below #[Value.ref b] s) (F0 m 1430 ls []) := by
  obtain ⟨hx, hb, hr, hml, hown, hts0, hX, hbl, hlocks, hgv⟩ := C0
  have hts : ∀ w ∈ wsL_law, w.before #[Value.ref b] s = true := fun w hw => hts0 w (wsL_law_in w hw)
  refine lv_aload_n hx hb dL_law_1430 rfl (lv_at hl 1 rfl) ?_
  refine lw_arg hx hb hX hbl hS hl hi hL 1 (by decide) (by decide) dL_law_1431 dL_law_1432 dL_law_1433 dL_law_1434 dL_law_1435 rfl rfl rfl rfl rfl ?_
  refine lw_arg hx hb hX hbl hS hl hi hL 2 (by decide) (by decide) dL_law_1436 dL_law_1437 dL_law_1438 dL_law_1439 dL_law_1440 rfl rfl rfl rfl rfl ?_
  refine lw_arg hx hb hX hbl hS hl hi hL 3 (by decide) (by decide) dL_law_1441 dL_law_1442 dL_law_1443 dL_law_1444 dL_law_1445 rfl rfl rfl rfl rfl ?_
  refine lw_arg hx hb hX hbl hS hl hi hL 4 (by decide) (by decide) dL_law_1446 dL_law_1447 dL_law_1448 dL_law_1449 dL_law_1450 rfl rfl rfl rfl rfl ?_
  refine lw_arg hx hb hX hbl hS hl hi hL 5 (by decide) (by decide) dL_law_1451 dL_law_1452 dL_law_1453 dL_law_1454 dL_law_1455 rfl rfl rfl rfl rfl ?_
  refine lcXi (As := [.int (xs (i + 1)), .int (xs (i + 2)), .int (xs (i + 3)), .int (xs (i + 4)), .int (xs (i + 5))]) (rest := []) hE hO hPX hPM hS ⟨hx, hb, hml, hown, hts⟩ (mX6_copy l D h cI cJ t0 hO.1 S L (xs (i + 1)) (xs (i + 2)) (xs (i + 3)) (xs (i + 4)) (xs (i + 5)) _ (ok_copy hR (xs (i + 1)) (xs (i + 2)) (xs (i + 3)) (xs (i + 4)) (xs (i + 5)))) (cwV 5 hts gL_law_X6_copy rfl rfl rfl (by decide +kernel) ⟨Nat.le_of_ble_eq_true rfl, Nat.le_of_ble_eq_true rfl⟩) rfl hl.1 rfl (Nat.le_of_ble_eq_true rfl) dL_law_1456 ⟨Nat.le_of_ble_eq_true rfl, Nat.le_of_ble_eq_true rfl⟩ (fun r u H1 locs1 hw hPX1 hPM1 hS1 => ?_)
  obtain ⟨uS, uL⟩ := u
  dsimp only at hw hPX1
  obtain ⟨hw, rfl⟩ := hw
  refine lv_aload_n hx hb dL_law_1459 rfl (lv_at hl 2 rfl) ?_
  refine lw_arg hx hb hX hbl hS1 hl hi hL 1 (by decide) (by decide) dL_law_1460 dL_law_1461 dL_law_1462 dL_law_1463 dL_law_1464 rfl rfl rfl rfl rfl ?_
  refine lw_arg hx hb hX hbl hS1 hl hi hL 2 (by decide) (by decide) dL_law_1465 dL_law_1466 dL_law_1467 dL_law_1468 dL_law_1469 rfl rfl rfl rfl rfl ?_
  refine lw_arg hx hb hX hbl hS1 hl hi hL 3 (by decide) (by decide) dL_law_1470 dL_law_1471 dL_law_1472 dL_law_1473 dL_law_1474 rfl rfl rfl rfl rfl ?_
  refine lw_arg hx hb hX hbl hS1 hl hi hL 4 (by decide) (by decide) dL_law_1475 dL_law_1476 dL_law_1477 dL_law_1478 dL_law_1479 rfl rfl rfl rfl rfl ?_
  refine lw_arg hx hb hX hbl hS1 hl hi hL 5 (by decide) (by decide) dL_law_1480 dL_law_1481 dL_law_1482 dL_law_1483 dL_law_1484 rfl rfl rfl rfl rfl ?_
  refine lcMi (As := [.int (xs (i + 1)), .int (xs (i + 2)), .int (xs (i + 3)), .int (xs (i + 4)), .int (xs (i + 5))]) (rest := [.int r]) hE hO hPX1 hPM1 hS1 ⟨hx, hb, hml, hown, hts⟩ (mX7_copy l D g cI cJ hO.2.1 M N (xs (i + 1)) (xs (i + 2)) (xs (i + 3)) (xs (i + 4)) (xs (i + 5)) _ hw) (cwV 5 hts gL_law_X7_copy rfl rfl rfl (by decide +kernel) ⟨Nat.le_of_ble_eq_true rfl, Nat.le_of_ble_eq_true rfl⟩) rfl hl.1 rfl (Nat.le_of_ble_eq_true rfl) dL_law_1485 ⟨Nat.le_of_ble_eq_true rfl, Nat.le_of_ble_eq_true rfl⟩ (fun r2 u2 H2 locs2 hv hPX2 hPM2 hS2 => ?_)
  obtain ⟨uM, uN⟩ := u2
  dsimp only at hv hPM2
  obtain ⟨hv, rfl⟩ := hv
  obtain ⟨he, hR2⟩ := hv
  exact lv_icmp_eq (tgt := 1493) hx hb dL_law_1488 (by decide) (fun _ => kk _ _ _ _ _ _ hR2 hPX2 hPM2 hS2) (fun z => absurd he z)
end LK
