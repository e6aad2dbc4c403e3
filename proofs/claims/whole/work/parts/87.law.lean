/-! THE LAW: a turn -/
abbrev lv5 (G : GT) (b i : Nat) : List (Nat × Value) := [(4, .int (nI i)), (0, .ref b), (1, .ref (gA G 0)), (2, .ref (gA G 61)), (3, .ref (gA G 75))]
def Lc (p : Program) (l : Launch) (s : State) (m : MethodId) (meth : Method) (c : Code) (G : GT) (b L : Nat) (xs : Nat → Int32) : Prop := p.tables.exec = Jvm.exec ∧ c.code = cL_law ∧ c.maxLocals = 8 ∧ s.vm.findClass RL = some m.cls ∧ (∀ w ∈ wsL_law, w.before #[Value.ref b] s = true) ∧ va_X b L xs s s.heap ∧ b < s.heap.size ∧ meth.locks = false ∧ meth.sig.returnType = ret ∧ Kw G s ∧ Xs G s ∧ gL G = s.heap.size ∧ Dw G ∧ L ≤ 3072 ∧ l.stackTraces = false
section LAW
variable {p : Program} {l : Launch} {e : Env} {R : Room} {s : State} {m : MethodId} {below : List Frame} {meth : Method} {c : Code} {H : Heap} {locs : List Loc} {cells slots : Nat} {Q : State → Prop}
variable {G : GT} {σ : St} {b L i pc : Nat} {xs : Nat → Int32} {ls : Array Slot} {rest : List Value}
theorem law_arg (C : Lc p l s m meth c G b L xs) (hS : va_S (AG G) s.heap H locs) (hi : i + 6 ≤ L) {lv : List (Nat × Value)} (hl : lv_has ls 8 lv) (j : Nat) {n : Int} (hj : j < 6) (h4 : lv[0]? = some (4, .int (nI i))) (h0 : lv[1]? = some (0, .ref b)) (hv : Int32.ofInt n = nI j) (d0 : decode cL_law pc = .ok (.aload_n 0, 1)) (d1 : decode cL_law (pc + 1) = .ok (.iload 4, 2)) (d3 : decode cL_law (pc + 3) = .ok (.iconst n, 1)) (d4 : decode cL_law (pc + 4) = .ok (.iadd, 1)) (d5 : decode cL_law (pc + 5) = .ok (.iaload, 1)) (kk : W p l e R s m #[Value.ref b] below meth c H locs cells slots Q (F0 m (pc + 6) ls (.int (xs (i + j)) :: rest))) : W p l e R s m #[Value.ref b] below meth c H locs cells slots Q (F0 m pc ls rest) := by
  obtain ⟨hx, hb, hml, hown, hts, hX, hbl, hlk, hr, hK, hXs, hgL, hG, hL, hfl⟩ := C
  refine lv_aload_n hx hb d0 rfl (lv_at hl 1 h0) ?_
  refine lv_iload hx hb d1 (lv_at hl 0 h4) ?_
  refine lv_iconst (v := nI j) hx hb d3 hv ?_
  refine lv_iadd hx hb d4 ?_
  have e1 : nI i + nI j = nI (i + j) := nI_add i j
  refine va_sld hx hb hX hbl (show ¬ gL G ≤ b by omega) hS (i := nI i + nI j) (by rw [e1]; exact vp_in_nI (by omega) (by omega)) d5 ?_
  rw [e1, nI_clamp (by omega)]
  exact kk
set_option maxRecDepth 100000 in
set_option maxHeartbeats 4000000 in
theorem law_c0 (C : Lc p l s m meth c G b L xs) (hI : Inv σ) (hP : Pw G σ H) (hS : va_S (AG G) s.heap H locs) (hi : i + 6 ≤ L) (hl : lv_has ls 8 (lv5 G b i)) (hR : cells + 1 ≤ room_1.cells ∧ slots + 6 ≤ room_1.slots) (kk : ∀ (σ1 : St) (H1 : Heap) (locs1 : List Loc) (ls1 : Array Slot), Inv σ1 → Pw G σ1 H1 → va_S (AG G) s.heap H1 locs1 → lv_has ls1 8 (lv5 G b i) → W p l e room_1 s m #[Value.ref b] below meth c H1 locs1 (cells + 1) (slots + 6) Q (F0 m 1642 ls1 [])) : W p l e room_1 s m #[Value.ref b] below meth c H locs cells slots Q (F0 m 224 ls []) := by
  have C0 := C
  obtain ⟨hx, hb, hml, hown, hts, hX, hbl, hlk, hr, hK, hXs, hgL, hG, hL, hfl⟩ := C
  have Z : CallFix p m c cL_law 8 s #[Value.ref b] wsL_law RL := ⟨hx, hb, hml, hown, hts⟩
  have hc : cells ≤ room_1.cells ∧ slots ≤ room_1.slots := ⟨by omega, by omega⟩
  obtain ⟨r, σ1, σ2, e1, e2, hI⟩ := p_year hI (xs (i + 1))
  refine lv_aload_n hx hb dL_law_224 rfl (lv_at hl 2 rfl) ?_
  refine law_arg C0 hS hi hl 1 (n := 1) (by decide) rfl rfl (by decide) dL_law_225 dL_law_226 dL_law_228 dL_law_229 dL_law_230 ?_
  refine k_Vv (As := [.int (xs (i + 1))]) (rest := []) Z hK hP hS (t_X8_year l G hG (xs (i + 1)) σ _ e1) (cwV 1 hts gL_law_X8_year rfl rfl rfl (by decide +kernel) ⟨Nat.le_of_ble_eq_true rfl, Nat.le_of_ble_eq_true rfl⟩) (at_4 rfl) rfl rfl hl.1 rfl (Nat.le_of_ble_eq_true rfl) hc dL_law_231 (fun H locs hP hS => ?_)
  have hP : Pw G σ1 H := hP
  refine lv_aload_n hx hb dL_law_234 rfl (lv_at hl 3 rfl) ?_
  refine law_arg C0 hS hi hl 1 (n := 1) (by decide) rfl rfl (by decide) dL_law_235 dL_law_236 dL_law_238 dL_law_239 dL_law_240 ?_
  refine k_Vv (As := [.int (xs (i + 1))]) (rest := [.int r]) Z hK hP hS (t_X9_year l G hG (xs (i + 1)) σ1 _ e2) (cwV 1 hts gL_law_X9_year rfl rfl rfl (by decide +kernel) ⟨Nat.le_of_ble_eq_true rfl, Nat.le_of_ble_eq_true rfl⟩) (at_5 rfl) rfl rfl hl.1 rfl (Nat.le_of_ble_eq_true rfl) hc dL_law_241 (fun H locs hP hS => ?_)
  have hP : Pw G σ2 H := hP
  refine lv_icmp_eq (tgt := 1642) hx hb dL_law_244 (by decide) (fun _ => ?_) (fun h => absurd rfl h)
  refine W.widen (k := cells + 1) (n := slots + 6) (Nat.le_add_right _ _) (Nat.le_add_right _ _) ?_
  exact kk σ2 H locs ls hI hP hS hl
set_option maxRecDepth 100000 in
set_option maxHeartbeats 4000000 in
theorem law_c1 (C : Lc p l s m meth c G b L xs) (hI : Inv σ) (hP : Pw G σ H) (hS : va_S (AG G) s.heap H locs) (hi : i + 6 ≤ L) (hl : lv_has ls 8 (lv5 G b i)) (hR : cells + 1 ≤ room_1.cells ∧ slots + 6 ≤ room_1.slots) (kk : ∀ (σ1 : St) (H1 : Heap) (locs1 : List Loc) (ls1 : Array Slot), Inv σ1 → Pw G σ1 H1 → va_S (AG G) s.heap H1 locs1 → lv_has ls1 8 (lv5 G b i) → W p l e room_1 s m #[Value.ref b] below meth c H1 locs1 (cells + 1) (slots + 6) Q (F0 m 1642 ls1 [])) : W p l e room_1 s m #[Value.ref b] below meth c H locs cells slots Q (F0 m 249 ls []) := by
  have C0 := C
  obtain ⟨hx, hb, hml, hown, hts, hX, hbl, hlk, hr, hK, hXs, hgL, hG, hL, hfl⟩ := C
  have Z : CallFix p m c cL_law 8 s #[Value.ref b] wsL_law RL := ⟨hx, hb, hml, hown, hts⟩
  have hc : cells ≤ room_1.cells ∧ slots ≤ room_1.slots := ⟨by omega, by omega⟩
  obtain ⟨r, e1, e2⟩ := p_deed hI (xs (i + 1)) (xs (i + 2))
  refine lv_aload_n hx hb dL_law_249 rfl (lv_at hl 2 rfl) ?_
  refine law_arg C0 hS hi hl 1 (n := 1) (by decide) rfl rfl (by decide) dL_law_250 dL_law_251 dL_law_253 dL_law_254 dL_law_255 ?_
  refine law_arg C0 hS hi hl 2 (n := 2) (by decide) rfl rfl (by decide) dL_law_256 dL_law_257 dL_law_259 dL_law_260 dL_law_261 ?_
  refine k_Vv (As := [.int (xs (i + 1)), .int (xs (i + 2))]) (rest := []) Z hK hP hS (t_X8_deed l G hG (xs (i + 1)) (xs (i + 2)) σ _ e1) (cwV 2 hts gL_law_X8_deed rfl rfl rfl (by decide +kernel) ⟨Nat.le_of_ble_eq_true rfl, Nat.le_of_ble_eq_true rfl⟩) (at_4 rfl) rfl rfl hl.1 rfl (Nat.le_of_ble_eq_true rfl) hc dL_law_262 (fun H locs hP hS => ?_)
  have hP : Pw G σ H := hP
  refine lv_aload_n hx hb dL_law_265 rfl (lv_at hl 3 rfl) ?_
  refine law_arg C0 hS hi hl 1 (n := 1) (by decide) rfl rfl (by decide) dL_law_266 dL_law_267 dL_law_269 dL_law_270 dL_law_271 ?_
  refine law_arg C0 hS hi hl 2 (n := 2) (by decide) rfl rfl (by decide) dL_law_272 dL_law_273 dL_law_275 dL_law_276 dL_law_277 ?_
  refine k_Vv (As := [.int (xs (i + 1)), .int (xs (i + 2))]) (rest := [.int r]) Z hK hP hS (t_X9_deed l G hG (xs (i + 1)) (xs (i + 2)) σ _ e2) (cwV 2 hts gL_law_X9_deed rfl rfl rfl (by decide +kernel) ⟨Nat.le_of_ble_eq_true rfl, Nat.le_of_ble_eq_true rfl⟩) (at_5 rfl) rfl rfl hl.1 rfl (Nat.le_of_ble_eq_true rfl) hc dL_law_278 (fun H locs hP hS => ?_)
  have hP : Pw G σ H := hP
  refine lv_icmp_eq (tgt := 1642) hx hb dL_law_281 (by decide) (fun _ => ?_) (fun h => absurd rfl h)
  refine W.widen (k := cells + 1) (n := slots + 6) (Nat.le_add_right _ _) (Nat.le_add_right _ _) ?_
  exact kk σ H locs ls hI hP hS hl
set_option maxRecDepth 100000 in
set_option maxHeartbeats 4000000 in
theorem law_c2 (C : Lc p l s m meth c G b L xs) (hI : Inv σ) (hP : Pw G σ H) (hS : va_S (AG G) s.heap H locs) (hi : i + 6 ≤ L) (hl : lv_has ls 8 (lv5 G b i)) (hR : cells + 1 ≤ room_1.cells ∧ slots + 6 ≤ room_1.slots) (kk : ∀ (σ1 : St) (H1 : Heap) (locs1 : List Loc) (ls1 : Array Slot), Inv σ1 → Pw G σ1 H1 → va_S (AG G) s.heap H1 locs1 → lv_has ls1 8 (lv5 G b i) → W p l e room_1 s m #[Value.ref b] below meth c H1 locs1 (cells + 1) (slots + 6) Q (F0 m 1642 ls1 [])) : W p l e room_1 s m #[Value.ref b] below meth c H locs cells slots Q (F0 m 286 ls []) := by
  have C0 := C
  obtain ⟨hx, hb, hml, hown, hts, hX, hbl, hlk, hr, hK, hXs, hgL, hG, hL, hfl⟩ := C
  have Z : CallFix p m c cL_law 8 s #[Value.ref b] wsL_law RL := ⟨hx, hb, hml, hown, hts⟩
  have hc : cells ≤ room_1.cells ∧ slots ≤ room_1.slots := ⟨by omega, by omega⟩
  obtain ⟨r, e1, e2⟩ := p_guilt hI (xs (i + 1))
  refine lv_aload_n hx hb dL_law_286 rfl (lv_at hl 2 rfl) ?_
  refine law_arg C0 hS hi hl 1 (n := 1) (by decide) rfl rfl (by decide) dL_law_287 dL_law_288 dL_law_290 dL_law_291 dL_law_292 ?_
  refine k_Vv (As := [.int (xs (i + 1))]) (rest := []) Z hK hP hS (t_X8_guilt l G hG (xs (i + 1)) σ _ e1) (cwV 1 hts gL_law_X8_guilt rfl rfl rfl (by decide +kernel) ⟨Nat.le_of_ble_eq_true rfl, Nat.le_of_ble_eq_true rfl⟩) (at_4 rfl) rfl rfl hl.1 rfl (Nat.le_of_ble_eq_true rfl) hc dL_law_293 (fun H locs hP hS => ?_)
  have hP : Pw G σ H := hP
  refine lv_aload_n hx hb dL_law_296 rfl (lv_at hl 3 rfl) ?_
  refine law_arg C0 hS hi hl 1 (n := 1) (by decide) rfl rfl (by decide) dL_law_297 dL_law_298 dL_law_300 dL_law_301 dL_law_302 ?_
  refine k_Vv (As := [.int (xs (i + 1))]) (rest := [.int r]) Z hK hP hS (t_X9_guilt l G hG (xs (i + 1)) σ _ e2) (cwV 1 hts gL_law_X9_guilt rfl rfl rfl (by decide +kernel) ⟨Nat.le_of_ble_eq_true rfl, Nat.le_of_ble_eq_true rfl⟩) (at_5 rfl) rfl rfl hl.1 rfl (Nat.le_of_ble_eq_true rfl) hc dL_law_303 (fun H locs hP hS => ?_)
  have hP : Pw G σ H := hP
  refine lv_icmp_eq (tgt := 1642) hx hb dL_law_306 (by decide) (fun _ => ?_) (fun h => absurd rfl h)
  refine W.widen (k := cells + 1) (n := slots + 6) (Nat.le_add_right _ _) (Nat.le_add_right _ _) ?_
  exact kk σ H locs ls hI hP hS hl
set_option maxRecDepth 100000 in
set_option maxHeartbeats 4000000 in
theorem law_c3 (C : Lc p l s m meth c G b L xs) (hI : Inv σ) (hP : Pw G σ H) (hS : va_S (AG G) s.heap H locs) (hi : i + 6 ≤ L) (hl : lv_has ls 8 (lv5 G b i)) (hR : cells + 1 ≤ room_1.cells ∧ slots + 6 ≤ room_1.slots) (kk : ∀ (σ1 : St) (H1 : Heap) (locs1 : List Loc) (ls1 : Array Slot), Inv σ1 → Pw G σ1 H1 → va_S (AG G) s.heap H1 locs1 → lv_has ls1 8 (lv5 G b i) → W p l e room_1 s m #[Value.ref b] below meth c H1 locs1 (cells + 1) (slots + 6) Q (F0 m 1642 ls1 [])) : W p l e room_1 s m #[Value.ref b] below meth c H locs cells slots Q (F0 m 311 ls []) := by
  have C0 := C
  obtain ⟨hx, hb, hml, hown, hts, hX, hbl, hlk, hr, hK, hXs, hgL, hG, hL, hfl⟩ := C
  have Z : CallFix p m c cL_law 8 s #[Value.ref b] wsL_law RL := ⟨hx, hb, hml, hown, hts⟩
  have hc : cells ≤ room_1.cells ∧ slots ≤ room_1.slots := ⟨by omega, by omega⟩
  obtain ⟨r, σ1, σ2, e1, e2, hI⟩ := p_done hI (xs (i + 1)) (xs (i + 2)) (xs (i + 3)) (xs (i + 4))
  refine lv_aload_n hx hb dL_law_311 rfl (lv_at hl 2 rfl) ?_
  refine law_arg C0 hS hi hl 1 (n := 1) (by decide) rfl rfl (by decide) dL_law_312 dL_law_313 dL_law_315 dL_law_316 dL_law_317 ?_
  refine law_arg C0 hS hi hl 2 (n := 2) (by decide) rfl rfl (by decide) dL_law_318 dL_law_319 dL_law_321 dL_law_322 dL_law_323 ?_
  refine law_arg C0 hS hi hl 3 (n := 3) (by decide) rfl rfl (by decide) dL_law_324 dL_law_325 dL_law_327 dL_law_328 dL_law_329 ?_
  refine law_arg C0 hS hi hl 4 (n := 4) (by decide) rfl rfl (by decide) dL_law_330 dL_law_331 dL_law_333 dL_law_334 dL_law_335 ?_
  refine k_Vv (As := [.int (xs (i + 1)), .int (xs (i + 2)), .int (xs (i + 3)), .int (xs (i + 4))]) (rest := []) Z hK hP hS (t_X8_done l G hG (xs (i + 1)) (xs (i + 2)) (xs (i + 3)) (xs (i + 4)) σ _ e1) (cwV 4 hts gL_law_X8_done rfl rfl rfl (by decide +kernel) ⟨Nat.le_of_ble_eq_true rfl, Nat.le_of_ble_eq_true rfl⟩) (at_4 rfl) rfl rfl hl.1 rfl (Nat.le_of_ble_eq_true rfl) hc dL_law_336 (fun H locs hP hS => ?_)
  have hP : Pw G σ1 H := hP
  refine lv_aload_n hx hb dL_law_339 rfl (lv_at hl 3 rfl) ?_
  refine law_arg C0 hS hi hl 1 (n := 1) (by decide) rfl rfl (by decide) dL_law_340 dL_law_341 dL_law_343 dL_law_344 dL_law_345 ?_
  refine law_arg C0 hS hi hl 2 (n := 2) (by decide) rfl rfl (by decide) dL_law_346 dL_law_347 dL_law_349 dL_law_350 dL_law_351 ?_
  refine law_arg C0 hS hi hl 3 (n := 3) (by decide) rfl rfl (by decide) dL_law_352 dL_law_353 dL_law_355 dL_law_356 dL_law_357 ?_
  refine law_arg C0 hS hi hl 4 (n := 4) (by decide) rfl rfl (by decide) dL_law_358 dL_law_359 dL_law_361 dL_law_362 dL_law_363 ?_
  refine k_Vv (As := [.int (xs (i + 1)), .int (xs (i + 2)), .int (xs (i + 3)), .int (xs (i + 4))]) (rest := [.int r]) Z hK hP hS (t_X9_done l G hG (xs (i + 1)) (xs (i + 2)) (xs (i + 3)) (xs (i + 4)) σ1 _ e2) (cwV 4 hts gL_law_X9_done rfl rfl rfl (by decide +kernel) ⟨Nat.le_of_ble_eq_true rfl, Nat.le_of_ble_eq_true rfl⟩) (at_5 rfl) rfl rfl hl.1 rfl (Nat.le_of_ble_eq_true rfl) hc dL_law_364 (fun H locs hP hS => ?_)
  have hP : Pw G σ2 H := hP
  refine lv_icmp_eq (tgt := 1642) hx hb dL_law_367 (by decide) (fun _ => ?_) (fun h => absurd rfl h)
  refine W.widen (k := cells + 1) (n := slots + 6) (Nat.le_add_right _ _) (Nat.le_add_right _ _) ?_
  exact kk σ2 H locs ls hI hP hS hl
set_option maxRecDepth 100000 in
set_option maxHeartbeats 4000000 in
theorem law_c4 (C : Lc p l s m meth c G b L xs) (hI : Inv σ) (hP : Pw G σ H) (hS : va_S (AG G) s.heap H locs) (hi : i + 6 ≤ L) (hl : lv_has ls 8 (lv5 G b i)) (hR : cells + 1 ≤ room_1.cells ∧ slots + 6 ≤ room_1.slots) (kk : ∀ (σ1 : St) (H1 : Heap) (locs1 : List Loc) (ls1 : Array Slot), Inv σ1 → Pw G σ1 H1 → va_S (AG G) s.heap H1 locs1 → lv_has ls1 8 (lv5 G b i) → W p l e room_1 s m #[Value.ref b] below meth c H1 locs1 (cells + 1) (slots + 6) Q (F0 m 1642 ls1 [])) : W p l e room_1 s m #[Value.ref b] below meth c H locs cells slots Q (F0 m 372 ls []) := by
  have C0 := C
  obtain ⟨hx, hb, hml, hown, hts, hX, hbl, hlk, hr, hK, hXs, hgL, hG, hL, hfl⟩ := C
  have Z : CallFix p m c cL_law 8 s #[Value.ref b] wsL_law RL := ⟨hx, hb, hml, hown, hts⟩
  have hc : cells ≤ room_1.cells ∧ slots ≤ room_1.slots := ⟨by omega, by omega⟩
  obtain ⟨r, σ1, σ2, e1, e2, hI⟩ := p_sees hI (xs (i + 1)) (xs (i + 2))
  refine lv_aload_n hx hb dL_law_372 rfl (lv_at hl 2 rfl) ?_
  refine law_arg C0 hS hi hl 1 (n := 1) (by decide) rfl rfl (by decide) dL_law_373 dL_law_374 dL_law_376 dL_law_377 dL_law_378 ?_
  refine law_arg C0 hS hi hl 2 (n := 2) (by decide) rfl rfl (by decide) dL_law_379 dL_law_380 dL_law_382 dL_law_383 dL_law_384 ?_
  refine k_Vv (As := [.int (xs (i + 1)), .int (xs (i + 2))]) (rest := []) Z hK hP hS (t_X8_sees l G hG (xs (i + 1)) (xs (i + 2)) σ _ e1) (cwV 2 hts gL_law_X8_sees rfl rfl rfl (by decide +kernel) ⟨Nat.le_of_ble_eq_true rfl, Nat.le_of_ble_eq_true rfl⟩) (at_4 rfl) rfl rfl hl.1 rfl (Nat.le_of_ble_eq_true rfl) hc dL_law_385 (fun H locs hP hS => ?_)
  have hP : Pw G σ1 H := hP
  refine lv_aload_n hx hb dL_law_388 rfl (lv_at hl 3 rfl) ?_
  refine law_arg C0 hS hi hl 1 (n := 1) (by decide) rfl rfl (by decide) dL_law_389 dL_law_390 dL_law_392 dL_law_393 dL_law_394 ?_
  refine law_arg C0 hS hi hl 2 (n := 2) (by decide) rfl rfl (by decide) dL_law_395 dL_law_396 dL_law_398 dL_law_399 dL_law_400 ?_
  refine k_Vv (As := [.int (xs (i + 1)), .int (xs (i + 2))]) (rest := [.int r]) Z hK hP hS (t_X9_sees l G hG (xs (i + 1)) (xs (i + 2)) σ1 _ e2) (cwV 2 hts gL_law_X9_sees rfl rfl rfl (by decide +kernel) ⟨Nat.le_of_ble_eq_true rfl, Nat.le_of_ble_eq_true rfl⟩) (at_5 rfl) rfl rfl hl.1 rfl (Nat.le_of_ble_eq_true rfl) hc dL_law_401 (fun H locs hP hS => ?_)
  have hP : Pw G σ2 H := hP
  refine lv_icmp_eq (tgt := 1642) hx hb dL_law_404 (by decide) (fun _ => ?_) (fun h => absurd rfl h)
  refine W.widen (k := cells + 1) (n := slots + 6) (Nat.le_add_right _ _) (Nat.le_add_right _ _) ?_
  exact kk σ2 H locs ls hI hP hS hl
set_option maxRecDepth 100000 in
set_option maxHeartbeats 4000000 in
theorem law_c5 (C : Lc p l s m meth c G b L xs) (hI : Inv σ) (hP : Pw G σ H) (hS : va_S (AG G) s.heap H locs) (hi : i + 6 ≤ L) (hl : lv_has ls 8 (lv5 G b i)) (hR : cells + 1 ≤ room_1.cells ∧ slots + 6 ≤ room_1.slots) (kk : ∀ (σ1 : St) (H1 : Heap) (locs1 : List Loc) (ls1 : Array Slot), Inv σ1 → Pw G σ1 H1 → va_S (AG G) s.heap H1 locs1 → lv_has ls1 8 (lv5 G b i) → W p l e room_1 s m #[Value.ref b] below meth c H1 locs1 (cells + 1) (slots + 6) Q (F0 m 1642 ls1 [])) : W p l e room_1 s m #[Value.ref b] below meth c H locs cells slots Q (F0 m 409 ls []) := by
  have C0 := C
  obtain ⟨hx, hb, hml, hown, hts, hX, hbl, hlk, hr, hK, hXs, hgL, hG, hL, hfl⟩ := C
  have Z : CallFix p m c cL_law 8 s #[Value.ref b] wsL_law RL := ⟨hx, hb, hml, hown, hts⟩
  have hc : cells ≤ room_1.cells ∧ slots ≤ room_1.slots := ⟨by omega, by omega⟩
  obtain ⟨r, σ1, σ2, e1, e2, hI⟩ := p_today hI (xs (i + 1))
  refine lv_aload_n hx hb dL_law_409 rfl (lv_at hl 2 rfl) ?_
  refine law_arg C0 hS hi hl 1 (n := 1) (by decide) rfl rfl (by decide) dL_law_410 dL_law_411 dL_law_413 dL_law_414 dL_law_415 ?_
  refine k_Vv (As := [.int (xs (i + 1))]) (rest := []) Z hK hP hS (t_X8_today l G hG (xs (i + 1)) σ _ e1) (cwV 1 hts gL_law_X8_today rfl rfl rfl (by decide +kernel) ⟨Nat.le_of_ble_eq_true rfl, Nat.le_of_ble_eq_true rfl⟩) (at_4 rfl) rfl rfl hl.1 rfl (Nat.le_of_ble_eq_true rfl) hc dL_law_416 (fun H locs hP hS => ?_)
  have hP : Pw G σ1 H := hP
  refine lv_aload_n hx hb dL_law_419 rfl (lv_at hl 3 rfl) ?_
  refine law_arg C0 hS hi hl 1 (n := 1) (by decide) rfl rfl (by decide) dL_law_420 dL_law_421 dL_law_423 dL_law_424 dL_law_425 ?_
  refine k_Vv (As := [.int (xs (i + 1))]) (rest := [.int r]) Z hK hP hS (t_X9_today l G hG (xs (i + 1)) σ1 _ e2) (cwV 1 hts gL_law_X9_today rfl rfl rfl (by decide +kernel) ⟨Nat.le_of_ble_eq_true rfl, Nat.le_of_ble_eq_true rfl⟩) (at_5 rfl) rfl rfl hl.1 rfl (Nat.le_of_ble_eq_true rfl) hc dL_law_426 (fun H locs hP hS => ?_)
  have hP : Pw G σ2 H := hP
  refine lv_icmp_eq (tgt := 1642) hx hb dL_law_429 (by decide) (fun _ => ?_) (fun h => absurd rfl h)
  refine W.widen (k := cells + 1) (n := slots + 6) (Nat.le_add_right _ _) (Nat.le_add_right _ _) ?_
  exact kk σ2 H locs ls hI hP hS hl
set_option maxRecDepth 100000 in
set_option maxHeartbeats 4000000 in
theorem law_c6 (C : Lc p l s m meth c G b L xs) (hI : Inv σ) (hP : Pw G σ H) (hS : va_S (AG G) s.heap H locs) (hi : i + 6 ≤ L) (hl : lv_has ls 8 (lv5 G b i)) (hR : cells + 1 ≤ room_1.cells ∧ slots + 6 ≤ room_1.slots) (kk : ∀ (σ1 : St) (H1 : Heap) (locs1 : List Loc) (ls1 : Array Slot), Inv σ1 → Pw G σ1 H1 → va_S (AG G) s.heap H1 locs1 → lv_has ls1 8 (lv5 G b i) → W p l e room_1 s m #[Value.ref b] below meth c H1 locs1 (cells + 1) (slots + 6) Q (F0 m 1642 ls1 [])) : W p l e room_1 s m #[Value.ref b] below meth c H locs cells slots Q (F0 m 434 ls []) := by
  have C0 := C
  obtain ⟨hx, hb, hml, hown, hts, hX, hbl, hlk, hr, hK, hXs, hgL, hG, hL, hfl⟩ := C
  have Z : CallFix p m c cL_law 8 s #[Value.ref b] wsL_law RL := ⟨hx, hb, hml, hown, hts⟩
  have hc : cells ≤ room_1.cells ∧ slots ≤ room_1.slots := ⟨by omega, by omega⟩
  obtain ⟨r, e1, e2⟩ := p_remembers hI (xs (i + 1)) (xs (i + 2))
  refine lv_aload_n hx hb dL_law_434 rfl (lv_at hl 2 rfl) ?_
  refine law_arg C0 hS hi hl 1 (n := 1) (by decide) rfl rfl (by decide) dL_law_435 dL_law_436 dL_law_438 dL_law_439 dL_law_440 ?_
  refine law_arg C0 hS hi hl 2 (n := 2) (by decide) rfl rfl (by decide) dL_law_441 dL_law_442 dL_law_444 dL_law_445 dL_law_446 ?_
  refine k_Vv (As := [.int (xs (i + 1)), .int (xs (i + 2))]) (rest := []) Z hK hP hS (t_X8_remembers l G hG (xs (i + 1)) (xs (i + 2)) σ _ e1) (cwV 2 hts gL_law_X8_remembers rfl rfl rfl (by decide +kernel) ⟨Nat.le_of_ble_eq_true rfl, Nat.le_of_ble_eq_true rfl⟩) (at_4 rfl) rfl rfl hl.1 rfl (Nat.le_of_ble_eq_true rfl) hc dL_law_447 (fun H locs hP hS => ?_)
  have hP : Pw G σ H := hP
  refine lv_aload_n hx hb dL_law_450 rfl (lv_at hl 3 rfl) ?_
  refine law_arg C0 hS hi hl 1 (n := 1) (by decide) rfl rfl (by decide) dL_law_451 dL_law_452 dL_law_454 dL_law_455 dL_law_456 ?_
  refine law_arg C0 hS hi hl 2 (n := 2) (by decide) rfl rfl (by decide) dL_law_457 dL_law_458 dL_law_460 dL_law_461 dL_law_462 ?_
  refine k_Vv (As := [.int (xs (i + 1)), .int (xs (i + 2))]) (rest := [.int r]) Z hK hP hS (t_X9_remembers l G hG (xs (i + 1)) (xs (i + 2)) σ _ e2) (cwV 2 hts gL_law_X9_remembers rfl rfl rfl (by decide +kernel) ⟨Nat.le_of_ble_eq_true rfl, Nat.le_of_ble_eq_true rfl⟩) (at_5 rfl) rfl rfl hl.1 rfl (Nat.le_of_ble_eq_true rfl) hc dL_law_463 (fun H locs hP hS => ?_)
  have hP : Pw G σ H := hP
  refine lv_icmp_eq (tgt := 1642) hx hb dL_law_466 (by decide) (fun _ => ?_) (fun h => absurd rfl h)
  refine W.widen (k := cells + 1) (n := slots + 6) (Nat.le_add_right _ _) (Nat.le_add_right _ _) ?_
  exact kk σ H locs ls hI hP hS hl
set_option maxRecDepth 100000 in
set_option maxHeartbeats 4000000 in
theorem law_c7 (C : Lc p l s m meth c G b L xs) (hI : Inv σ) (hP : Pw G σ H) (hS : va_S (AG G) s.heap H locs) (hi : i + 6 ≤ L) (hl : lv_has ls 8 (lv5 G b i)) (hR : cells + 1 ≤ room_1.cells ∧ slots + 6 ≤ room_1.slots) (kk : ∀ (σ1 : St) (H1 : Heap) (locs1 : List Loc) (ls1 : Array Slot), Inv σ1 → Pw G σ1 H1 → va_S (AG G) s.heap H1 locs1 → lv_has ls1 8 (lv5 G b i) → W p l e room_1 s m #[Value.ref b] below meth c H1 locs1 (cells + 1) (slots + 6) Q (F0 m 1642 ls1 [])) : W p l e room_1 s m #[Value.ref b] below meth c H locs cells slots Q (F0 m 471 ls []) := by
  have C0 := C
  obtain ⟨hx, hb, hml, hown, hts, hX, hbl, hlk, hr, hK, hXs, hgL, hG, hL, hfl⟩ := C
  have Z : CallFix p m c cL_law 8 s #[Value.ref b] wsL_law RL := ⟨hx, hb, hml, hown, hts⟩
  have hc : cells ≤ room_1.cells ∧ slots ≤ room_1.slots := ⟨by omega, by omega⟩
  obtain ⟨r, e1, e2⟩ := p_knows hI (xs (i + 1))
  refine lv_aload_n hx hb dL_law_471 rfl (lv_at hl 2 rfl) ?_
  refine law_arg C0 hS hi hl 1 (n := 1) (by decide) rfl rfl (by decide) dL_law_472 dL_law_473 dL_law_475 dL_law_476 dL_law_477 ?_
  refine k_Vv (As := [.int (xs (i + 1))]) (rest := []) Z hK hP hS (t_X8_knows l G hG (xs (i + 1)) σ _ e1) (cwV 1 hts gL_law_X8_knows rfl rfl rfl (by decide +kernel) ⟨Nat.le_of_ble_eq_true rfl, Nat.le_of_ble_eq_true rfl⟩) (at_4 rfl) rfl rfl hl.1 rfl (Nat.le_of_ble_eq_true rfl) hc dL_law_478 (fun H locs hP hS => ?_)
  have hP : Pw G σ H := hP
  refine lv_aload_n hx hb dL_law_481 rfl (lv_at hl 3 rfl) ?_
  refine law_arg C0 hS hi hl 1 (n := 1) (by decide) rfl rfl (by decide) dL_law_482 dL_law_483 dL_law_485 dL_law_486 dL_law_487 ?_
  refine k_Vv (As := [.int (xs (i + 1))]) (rest := [.int r]) Z hK hP hS (t_X9_knows l G hG (xs (i + 1)) σ _ e2) (cwV 1 hts gL_law_X9_knows rfl rfl rfl (by decide +kernel) ⟨Nat.le_of_ble_eq_true rfl, Nat.le_of_ble_eq_true rfl⟩) (at_5 rfl) rfl rfl hl.1 rfl (Nat.le_of_ble_eq_true rfl) hc dL_law_488 (fun H locs hP hS => ?_)
  have hP : Pw G σ H := hP
  refine lv_icmp_eq (tgt := 1642) hx hb dL_law_491 (by decide) (fun _ => ?_) (fun h => absurd rfl h)
  refine W.widen (k := cells + 1) (n := slots + 6) (Nat.le_add_right _ _) (Nat.le_add_right _ _) ?_
  exact kk σ H locs ls hI hP hS hl
set_option maxRecDepth 100000 in
set_option maxHeartbeats 4000000 in
theorem law_c8 (C : Lc p l s m meth c G b L xs) (hI : Inv σ) (hP : Pw G σ H) (hS : va_S (AG G) s.heap H locs) (hi : i + 6 ≤ L) (hl : lv_has ls 8 (lv5 G b i)) (hR : cells + 1 ≤ room_1.cells ∧ slots + 6 ≤ room_1.slots) (kk : ∀ (σ1 : St) (H1 : Heap) (locs1 : List Loc) (ls1 : Array Slot), Inv σ1 → Pw G σ1 H1 → va_S (AG G) s.heap H1 locs1 → lv_has ls1 8 (lv5 G b i) → W p l e room_1 s m #[Value.ref b] below meth c H1 locs1 (cells + 1) (slots + 6) Q (F0 m 1642 ls1 [])) : W p l e room_1 s m #[Value.ref b] below meth c H locs cells slots Q (F0 m 496 ls []) := by
  have C0 := C
  obtain ⟨hx, hb, hml, hown, hts, hX, hbl, hlk, hr, hK, hXs, hgL, hG, hL, hfl⟩ := C
  have Z : CallFix p m c cL_law 8 s #[Value.ref b] wsL_law RL := ⟨hx, hb, hml, hown, hts⟩
  have hc : cells ≤ room_1.cells ∧ slots ≤ room_1.slots := ⟨by omega, by omega⟩
  obtain ⟨r, e1, e2⟩ := p_forgotten hI 
  refine lv_aload_n hx hb dL_law_496 rfl (lv_at hl 2 rfl) ?_
  refine k_Vv (As := []) (rest := []) Z hK hP hS (t_X8_forgotten l G hG  σ _ e1) (cwV 0 hts gL_law_X8_forgotten rfl rfl rfl (by decide +kernel) ⟨Nat.le_of_ble_eq_true rfl, Nat.le_of_ble_eq_true rfl⟩) (at_4 rfl) rfl rfl hl.1 rfl (Nat.le_of_ble_eq_true rfl) hc dL_law_497 (fun H locs hP hS => ?_)
  have hP : Pw G σ H := hP
  refine lv_aload_n hx hb dL_law_500 rfl (lv_at hl 3 rfl) ?_
  refine k_Vv (As := []) (rest := [.int r]) Z hK hP hS (t_X9_forgotten l G hG  σ _ e2) (cwV 0 hts gL_law_X9_forgotten rfl rfl rfl (by decide +kernel) ⟨Nat.le_of_ble_eq_true rfl, Nat.le_of_ble_eq_true rfl⟩) (at_5 rfl) rfl rfl hl.1 rfl (Nat.le_of_ble_eq_true rfl) hc dL_law_501 (fun H locs hP hS => ?_)
  have hP : Pw G σ H := hP
  refine lv_icmp_eq (tgt := 1642) hx hb dL_law_504 (by decide) (fun _ => ?_) (fun h => absurd rfl h)
  refine W.widen (k := cells + 1) (n := slots + 6) (Nat.le_add_right _ _) (Nat.le_add_right _ _) ?_
  exact kk σ H locs ls hI hP hS hl
set_option maxRecDepth 100000 in
set_option maxHeartbeats 4000000 in
theorem law_c9 (C : Lc p l s m meth c G b L xs) (hI : Inv σ) (hP : Pw G σ H) (hS : va_S (AG G) s.heap H locs) (hi : i + 6 ≤ L) (hl : lv_has ls 8 (lv5 G b i)) (hR : cells + 1 ≤ room_1.cells ∧ slots + 6 ≤ room_1.slots) (kk : ∀ (σ1 : St) (H1 : Heap) (locs1 : List Loc) (ls1 : Array Slot), Inv σ1 → Pw G σ1 H1 → va_S (AG G) s.heap H1 locs1 → lv_has ls1 8 (lv5 G b i) → W p l e room_1 s m #[Value.ref b] below meth c H1 locs1 (cells + 1) (slots + 6) Q (F0 m 1642 ls1 [])) : W p l e room_1 s m #[Value.ref b] below meth c H locs cells slots Q (F0 m 509 ls []) := by
  have C0 := C
  obtain ⟨hx, hb, hml, hown, hts, hX, hbl, hlk, hr, hK, hXs, hgL, hG, hL, hfl⟩ := C
  have Z : CallFix p m c cL_law 8 s #[Value.ref b] wsL_law RL := ⟨hx, hb, hml, hown, hts⟩
  have hc : cells ≤ room_1.cells ∧ slots ≤ room_1.slots := ⟨by omega, by omega⟩
  obtain ⟨r, σ2, e1, e2, hI⟩ := p_forgets hI (xs (i + 1)) (xs (i + 2))
  refine lv_aload_n hx hb dL_law_509 rfl (lv_at hl 2 rfl) ?_
  refine law_arg C0 hS hi hl 1 (n := 1) (by decide) rfl rfl (by decide) dL_law_510 dL_law_511 dL_law_513 dL_law_514 dL_law_515 ?_
  refine law_arg C0 hS hi hl 2 (n := 2) (by decide) rfl rfl (by decide) dL_law_516 dL_law_517 dL_law_519 dL_law_520 dL_law_521 ?_
  refine k_Vv (As := [.int (xs (i + 1)), .int (xs (i + 2))]) (rest := []) Z hK hP hS (t_X8_forgets l G hG (xs (i + 1)) (xs (i + 2)) σ _ e1) (cwV 2 hts gL_law_X8_forgets rfl rfl rfl (by decide +kernel) ⟨Nat.le_of_ble_eq_true rfl, Nat.le_of_ble_eq_true rfl⟩) (at_4 rfl) rfl rfl hl.1 rfl (Nat.le_of_ble_eq_true rfl) hc dL_law_522 (fun H locs hP hS => ?_)
  have hP : Pw G σ H := hP
  refine lv_aload_n hx hb dL_law_525 rfl (lv_at hl 3 rfl) ?_
  refine law_arg C0 hS hi hl 1 (n := 1) (by decide) rfl rfl (by decide) dL_law_526 dL_law_527 dL_law_529 dL_law_530 dL_law_531 ?_
  refine law_arg C0 hS hi hl 2 (n := 2) (by decide) rfl rfl (by decide) dL_law_532 dL_law_533 dL_law_535 dL_law_536 dL_law_537 ?_
  refine k_Vv (As := [.int (xs (i + 1)), .int (xs (i + 2))]) (rest := [.int r]) Z hK hP hS (t_X9_forgets l G hG (xs (i + 1)) (xs (i + 2)) σ _ e2) (cwV 2 hts gL_law_X9_forgets rfl rfl rfl (by decide +kernel) ⟨Nat.le_of_ble_eq_true rfl, Nat.le_of_ble_eq_true rfl⟩) (at_5 rfl) rfl rfl hl.1 rfl (Nat.le_of_ble_eq_true rfl) hc dL_law_538 (fun H locs hP hS => ?_)
  have hP : Pw G σ2 H := hP
  refine lv_icmp_eq (tgt := 1642) hx hb dL_law_541 (by decide) (fun _ => ?_) (fun h => absurd rfl h)
  refine W.widen (k := cells + 1) (n := slots + 6) (Nat.le_add_right _ _) (Nat.le_add_right _ _) ?_
  exact kk σ2 H locs ls hI hP hS hl
set_option maxRecDepth 100000 in
set_option maxHeartbeats 4000000 in
theorem law_c10 (C : Lc p l s m meth c G b L xs) (hI : Inv σ) (hP : Pw G σ H) (hS : va_S (AG G) s.heap H locs) (hi : i + 6 ≤ L) (hl : lv_has ls 8 (lv5 G b i)) (hR : cells + 1 ≤ room_1.cells ∧ slots + 6 ≤ room_1.slots) (kk : ∀ (σ1 : St) (H1 : Heap) (locs1 : List Loc) (ls1 : Array Slot), Inv σ1 → Pw G σ1 H1 → va_S (AG G) s.heap H1 locs1 → lv_has ls1 8 (lv5 G b i) → W p l e room_1 s m #[Value.ref b] below meth c H1 locs1 (cells + 1) (slots + 6) Q (F0 m 1642 ls1 [])) : W p l e room_1 s m #[Value.ref b] below meth c H locs cells slots Q (F0 m 546 ls []) := by
  have C0 := C
  obtain ⟨hx, hb, hml, hown, hts, hX, hbl, hlk, hr, hK, hXs, hgL, hG, hL, hfl⟩ := C
  have Z : CallFix p m c cL_law 8 s #[Value.ref b] wsL_law RL := ⟨hx, hb, hml, hown, hts⟩
  have hc : cells ≤ room_1.cells ∧ slots ≤ room_1.slots := ⟨by omega, by omega⟩
  obtain ⟨r, e1, e2⟩ := p_only hI 
  refine lv_aload_n hx hb dL_law_546 rfl (lv_at hl 2 rfl) ?_
  refine k_Vv (As := []) (rest := []) Z hK hP hS (t_X8_only l G hG  σ _ e1) (cwV 0 hts gL_law_X8_only rfl rfl rfl (by decide +kernel) ⟨Nat.le_of_ble_eq_true rfl, Nat.le_of_ble_eq_true rfl⟩) (at_4 rfl) rfl rfl hl.1 rfl (Nat.le_of_ble_eq_true rfl) hc dL_law_547 (fun H locs hP hS => ?_)
  have hP : Pw G σ H := hP
  refine lv_aload_n hx hb dL_law_550 rfl (lv_at hl 3 rfl) ?_
  refine k_Vv (As := []) (rest := [.int r]) Z hK hP hS (t_X9_only l G hG  σ _ e2) (cwV 0 hts gL_law_X9_only rfl rfl rfl (by decide +kernel) ⟨Nat.le_of_ble_eq_true rfl, Nat.le_of_ble_eq_true rfl⟩) (at_5 rfl) rfl rfl hl.1 rfl (Nat.le_of_ble_eq_true rfl) hc dL_law_551 (fun H locs hP hS => ?_)
  have hP : Pw G σ H := hP
  refine lv_icmp_eq (tgt := 1642) hx hb dL_law_554 (by decide) (fun _ => ?_) (fun h => absurd rfl h)
  refine W.widen (k := cells + 1) (n := slots + 6) (Nat.le_add_right _ _) (Nat.le_add_right _ _) ?_
  exact kk σ H locs ls hI hP hS hl
set_option maxRecDepth 100000 in
set_option maxHeartbeats 4000000 in
theorem law_c11 (C : Lc p l s m meth c G b L xs) (hI : Inv σ) (hP : Pw G σ H) (hS : va_S (AG G) s.heap H locs) (hi : i + 6 ≤ L) (hl : lv_has ls 8 (lv5 G b i)) (hR : cells + 1 ≤ room_1.cells ∧ slots + 6 ≤ room_1.slots) (kk : ∀ (σ1 : St) (H1 : Heap) (locs1 : List Loc) (ls1 : Array Slot), Inv σ1 → Pw G σ1 H1 → va_S (AG G) s.heap H1 locs1 → lv_has ls1 8 (lv5 G b i) → W p l e room_1 s m #[Value.ref b] below meth c H1 locs1 (cells + 1) (slots + 6) Q (F0 m 1642 ls1 [])) : W p l e room_1 s m #[Value.ref b] below meth c H locs cells slots Q (F0 m 559 ls []) := by
  have C0 := C
  obtain ⟨hx, hb, hml, hown, hts, hX, hbl, hlk, hr, hK, hXs, hgL, hG, hL, hfl⟩ := C
  have Z : CallFix p m c cL_law 8 s #[Value.ref b] wsL_law RL := ⟨hx, hb, hml, hown, hts⟩
  have hc : cells ≤ room_1.cells ∧ slots ≤ room_1.slots := ⟨by omega, by omega⟩
  obtain ⟨r, e1, e2⟩ := p_witnesses hI 
  refine lv_aload_n hx hb dL_law_559 rfl (lv_at hl 2 rfl) ?_
  refine k_Vv (As := []) (rest := []) Z hK hP hS (t_X8_witnesses l G hG  σ _ e1) (cwV 0 hts gL_law_X8_witnesses rfl rfl rfl (by decide +kernel) ⟨Nat.le_of_ble_eq_true rfl, Nat.le_of_ble_eq_true rfl⟩) (at_4 rfl) rfl rfl hl.1 rfl (Nat.le_of_ble_eq_true rfl) hc dL_law_560 (fun H locs hP hS => ?_)
  have hP : Pw G σ H := hP
  refine lv_aload_n hx hb dL_law_563 rfl (lv_at hl 3 rfl) ?_
  refine k_Vv (As := []) (rest := [.int r]) Z hK hP hS (t_X9_witnesses l G hG  σ _ e2) (cwV 0 hts gL_law_X9_witnesses rfl rfl rfl (by decide +kernel) ⟨Nat.le_of_ble_eq_true rfl, Nat.le_of_ble_eq_true rfl⟩) (at_5 rfl) rfl rfl hl.1 rfl (Nat.le_of_ble_eq_true rfl) hc dL_law_564 (fun H locs hP hS => ?_)
  have hP : Pw G σ H := hP
  refine lv_icmp_eq (tgt := 1642) hx hb dL_law_567 (by decide) (fun _ => ?_) (fun h => absurd rfl h)
  refine W.widen (k := cells + 1) (n := slots + 6) (Nat.le_add_right _ _) (Nat.le_add_right _ _) ?_
  exact kk σ H locs ls hI hP hS hl
set_option maxRecDepth 100000 in
set_option maxHeartbeats 4000000 in
theorem law_c12 (C : Lc p l s m meth c G b L xs) (hI : Inv σ) (hP : Pw G σ H) (hS : va_S (AG G) s.heap H locs) (hi : i + 6 ≤ L) (hl : lv_has ls 8 (lv5 G b i)) (hR : cells + 1 ≤ room_1.cells ∧ slots + 6 ≤ room_1.slots) (kk : ∀ (σ1 : St) (H1 : Heap) (locs1 : List Loc) (ls1 : Array Slot), Inv σ1 → Pw G σ1 H1 → va_S (AG G) s.heap H1 locs1 → lv_has ls1 8 (lv5 G b i) → W p l e room_1 s m #[Value.ref b] below meth c H1 locs1 (cells + 1) (slots + 6) Q (F0 m 1642 ls1 [])) : W p l e room_1 s m #[Value.ref b] below meth c H locs cells slots Q (F0 m 572 ls []) := by
  have C0 := C
  obtain ⟨hx, hb, hml, hown, hts, hX, hbl, hlk, hr, hK, hXs, hgL, hG, hL, hfl⟩ := C
  have Z : CallFix p m c cL_law 8 s #[Value.ref b] wsL_law RL := ⟨hx, hb, hml, hown, hts⟩
  have hc : cells ≤ room_1.cells ∧ slots ≤ room_1.slots := ⟨by omega, by omega⟩
  obtain ⟨r, σ1, σ2, e1, e2, hI⟩ := p_place hI (xs (i + 1)) (xs (i + 2))
  refine lv_aload_n hx hb dL_law_572 rfl (lv_at hl 2 rfl) ?_
  refine law_arg C0 hS hi hl 1 (n := 1) (by decide) rfl rfl (by decide) dL_law_573 dL_law_574 dL_law_576 dL_law_577 dL_law_578 ?_
  refine law_arg C0 hS hi hl 2 (n := 2) (by decide) rfl rfl (by decide) dL_law_579 dL_law_580 dL_law_582 dL_law_583 dL_law_584 ?_
  refine k_Vv (As := [.int (xs (i + 1)), .int (xs (i + 2))]) (rest := []) Z hK hP hS (t_X8_place l G hG (xs (i + 1)) (xs (i + 2)) σ _ e1) (cwV 2 hts gL_law_X8_place rfl rfl rfl (by decide +kernel) ⟨Nat.le_of_ble_eq_true rfl, Nat.le_of_ble_eq_true rfl⟩) (at_4 rfl) rfl rfl hl.1 rfl (Nat.le_of_ble_eq_true rfl) hc dL_law_585 (fun H locs hP hS => ?_)
  have hP : Pw G σ1 H := hP
  refine lv_aload_n hx hb dL_law_588 rfl (lv_at hl 3 rfl) ?_
  refine law_arg C0 hS hi hl 1 (n := 1) (by decide) rfl rfl (by decide) dL_law_589 dL_law_590 dL_law_592 dL_law_593 dL_law_594 ?_
  refine law_arg C0 hS hi hl 2 (n := 2) (by decide) rfl rfl (by decide) dL_law_595 dL_law_596 dL_law_598 dL_law_599 dL_law_600 ?_
  refine k_Vv (As := [.int (xs (i + 1)), .int (xs (i + 2))]) (rest := [.int r]) Z hK hP hS (t_X9_place l G hG (xs (i + 1)) (xs (i + 2)) σ1 _ e2) (cwV 2 hts gL_law_X9_place rfl rfl rfl (by decide +kernel) ⟨Nat.le_of_ble_eq_true rfl, Nat.le_of_ble_eq_true rfl⟩) (at_5 rfl) rfl rfl hl.1 rfl (Nat.le_of_ble_eq_true rfl) hc dL_law_601 (fun H locs hP hS => ?_)
  have hP : Pw G σ2 H := hP
  refine lv_icmp_eq (tgt := 1642) hx hb dL_law_604 (by decide) (fun _ => ?_) (fun h => absurd rfl h)
  refine W.widen (k := cells + 1) (n := slots + 6) (Nat.le_add_right _ _) (Nat.le_add_right _ _) ?_
  exact kk σ2 H locs ls hI hP hS hl
set_option maxRecDepth 100000 in
set_option maxHeartbeats 4000000 in
theorem law_c13 (C : Lc p l s m meth c G b L xs) (hI : Inv σ) (hP : Pw G σ H) (hS : va_S (AG G) s.heap H locs) (hi : i + 6 ≤ L) (hl : lv_has ls 8 (lv5 G b i)) (hR : cells + 1 ≤ room_1.cells ∧ slots + 6 ≤ room_1.slots) (kk : ∀ (σ1 : St) (H1 : Heap) (locs1 : List Loc) (ls1 : Array Slot), Inv σ1 → Pw G σ1 H1 → va_S (AG G) s.heap H1 locs1 → lv_has ls1 8 (lv5 G b i) → W p l e room_1 s m #[Value.ref b] below meth c H1 locs1 (cells + 1) (slots + 6) Q (F0 m 1642 ls1 [])) : W p l e room_1 s m #[Value.ref b] below meth c H locs cells slots Q (F0 m 609 ls []) := by
  have C0 := C
  obtain ⟨hx, hb, hml, hown, hts, hX, hbl, hlk, hr, hK, hXs, hgL, hG, hL, hfl⟩ := C
  have Z : CallFix p m c cL_law 8 s #[Value.ref b] wsL_law RL := ⟨hx, hb, hml, hown, hts⟩
  have hc : cells ≤ room_1.cells ∧ slots ≤ room_1.slots := ⟨by omega, by omega⟩
  obtain ⟨r, σ1, σ2, e1, e2, hI⟩ := p_pages hI 
  refine lv_aload_n hx hb dL_law_609 rfl (lv_at hl 2 rfl) ?_
  refine k_Vv (As := []) (rest := []) Z hK hP hS (t_X8_pages l G hG  σ _ e1) (cwV 0 hts gL_law_X8_pages rfl rfl rfl (by decide +kernel) ⟨Nat.le_of_ble_eq_true rfl, Nat.le_of_ble_eq_true rfl⟩) (at_4 rfl) rfl rfl hl.1 rfl (Nat.le_of_ble_eq_true rfl) hc dL_law_610 (fun H locs hP hS => ?_)
  have hP : Pw G σ1 H := hP
  refine lv_aload_n hx hb dL_law_613 rfl (lv_at hl 3 rfl) ?_
  refine k_Vv (As := []) (rest := [.int r]) Z hK hP hS (t_X9_pages l G hG  σ1 _ e2) (cwV 0 hts gL_law_X9_pages rfl rfl rfl (by decide +kernel) ⟨Nat.le_of_ble_eq_true rfl, Nat.le_of_ble_eq_true rfl⟩) (at_5 rfl) rfl rfl hl.1 rfl (Nat.le_of_ble_eq_true rfl) hc dL_law_614 (fun H locs hP hS => ?_)
  have hP : Pw G σ2 H := hP
  refine lv_icmp_eq (tgt := 1642) hx hb dL_law_617 (by decide) (fun _ => ?_) (fun h => absurd rfl h)
  refine W.widen (k := cells + 1) (n := slots + 6) (Nat.le_add_right _ _) (Nat.le_add_right _ _) ?_
  exact kk σ2 H locs ls hI hP hS hl
end LAW
