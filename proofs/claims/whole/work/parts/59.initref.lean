theorem k_putFe {M : rM} {rm : Room} {g : rG} {sz : Nat} {A : Nat → Prop} {Wp : va_W → Prop} {pc : Nat} {ls : List (Nat × Value)} {st : List Value} {cells slots : Nat} {a ci N idx : Nat} {C : String} {T : u_T} {ty : Nat → FieldType} {wr : va_W} {v : Value} {fs gs : List Value} (k : Nat) (hc : rCl ci C T N ty) (hk : k < N) (hf : Cond.fieldLink (mO M) idx (T k).1 (T k).2.1 (T k).2.2.1 ∈ gW) (hfin : (T k).2.2.2 = true) (hdecl : (T k).1 = mO M) (hn : narrow (ty k) v = v ∧ fits (ty k) v = true) (hl : k < fs.length) (hs : fs.set k v = gs) (hd : decode (mC M) pc = .ok (.putfield idx, 3)) (kk : EK M rm g sz A Wp (pc + 3) ls st ((a, .inr (ci, gs)) :: wr) cells slots) : EK M rm g sz A Wp pc ls (v :: .ref a :: st) ((a, .inr (ci, fs)) :: wr) cells slots := by
  subst hs
  exact k_putF k hc hk hf hfin hdecl hn hl hd kk
theorem k_pute {M : rM} {rm : Room} {g : rG} {sz : Nat} {A : Nat → Prop} {Wp : va_W → Prop} {pc : Nat} {ls : List (Nat × Value)} {st : List Value} {cells slots : Nat} {a ci N idx : Nat} {C : String} {T : u_T} {ty : Nat → FieldType} {wr : va_W} {v : Value} {fs gs : List Value} (k : Nat) (hc : rCl ci C T N ty) (hk : k < N) (hf : Cond.fieldLink (mO M) idx (T k).1 (T k).2.1 (T k).2.2.1 ∈ gW) (hfin : (T k).2.2.2 = false) (hn : narrow (ty k) v = v ∧ fits (ty k) v = true) (hl : k < fs.length) (hs : fs.set k v = gs) (hd : decode (mC M) pc = .ok (.putfield idx, 3)) (kk : EK M rm g sz A Wp (pc + 3) ls st ((a, .inr (ci, gs)) :: wr) cells slots) : EK M rm g sz A Wp pc ls (v :: .ref a :: st) ((a, .inr (ci, fs)) :: wr) cells slots := by
  subst hs
  exact k_put k hc hk hf hfin hn hl hd kk
theorem k_wF0 {M : rM} {rm : Room} {g : rG} {sz : Nat} {A : Nat → Prop} {Wp : va_W → Prop} {pc : Nat} {ls : List (Nat × Value)} {st : List Value} {wr : va_W} {cells slots a n : Nat} {x : ClassId} (k : EK M rm g sz A Wp pc ls st (wr ++ [(a, .inl (x, (n, .inl (wF 0))))]) cells slots) : EK M rm g sz A Wp pc ls st (wr ++ [(a, .inl (x, (n, .inl (fun _ => 0))))]) cells slots := by
  rw [wF_0]
  exact k
theorem k_wast {M : rM} {rm : Room} {g : rG} {sz : Nat} {A : Nat → Prop} {Wp : va_W → Prop} {pc : Nat} {ls : List (Nat × Value)} {st : List Value} {wr : va_W} {cells slots : Nat} {a : Nat} {i x : Int32} (n j : Nat) (hi : vp_in i n) (hj : i.toNatClampNeg = j) (hx : wtb.getD j 0 = x) (hd : decode (mC M) pc = .ok (.iastore, 1)) (kk : EK M rm g sz A Wp (pc + 1) ls st (wr ++ [(a, .inl (g.2.1 1, (n, .inl (wF (j + 1)))))]) cells slots) : EK M rm g sz A Wp pc ls (.int x :: .int i :: .ref a :: st) (wr ++ [(a, .inl (g.2.1 1, (n, .inl (wF j))))]) cells slots := by
  subst hx
  refine k_iast (n := n) (f := wF j) wr.length (by rw [List.getElem?_append_right (Nat.le_refl _), Nat.sub_self]; rfl) hi (by rw [hj, wF_s, List.set_append_right (h := Nat.le_refl _), Nat.sub_self]; rfl) hd kk
set_option maxHeartbeats 4000000 in
theorem K_X6_w {g : rG} {h sz a : Nat} {A : Nat → Prop} {Wp : va_W → Prop} {wr : va_W} (kk : EK mX6_init rmX6 g sz A Wp 414 [(0, .ref h)] [.ref a, .ref h] (wr ++ [(a, .inl (g.2.1 1, (42, .inl (wF 42))))]) 20 1438) : EK mX6_init rmX6 g sz A Wp 168 [(0, .ref h)] [.ref a, .ref h] (wr ++ [(a, .inl (g.2.1 1, (42, .inl (wF 0))))]) 20 1438 := by
  refine k_dup dX6_init_168 rfl ?_
  refine k_iconst (0) dX6_init_169 rfl ?_
  refine k_bipush (102) dX6_init_170 rfl ?_
  refine k_wast 42 0 (vin 42 rfl (by decide)) rfl rfl dX6_init_172 ?_
  refine k_dup dX6_init_173 rfl ?_
  refine k_iconst (1) dX6_init_174 rfl ?_
  refine k_bipush (114) dX6_init_175 rfl ?_
  refine k_wast 42 1 (vin 42 rfl (by decide)) rfl rfl dX6_init_177 ?_
  refine k_dup dX6_init_178 rfl ?_
  refine k_iconst (2) dX6_init_179 rfl ?_
  refine k_bipush (101) dX6_init_180 rfl ?_
  refine k_wast 42 2 (vin 42 rfl (by decide)) rfl rfl dX6_init_182 ?_
  refine k_dup dX6_init_183 rfl ?_
  refine k_iconst (3) dX6_init_184 rfl ?_
  refine k_bipush (101) dX6_init_185 rfl ?_
  refine k_wast 42 3 (vin 42 rfl (by decide)) rfl rfl dX6_init_187 ?_
  refine k_dup dX6_init_188 rfl ?_
  refine k_iconst (4) dX6_init_189 rfl ?_
  refine k_bipush (32) dX6_init_190 rfl ?_
  refine k_wast 42 4 (vin 42 rfl (by decide)) rfl rfl dX6_init_192 ?_
  refine k_dup dX6_init_193 rfl ?_
  refine k_iconst (5) dX6_init_194 rfl ?_
  refine k_bipush (102) dX6_init_195 rfl ?_
  refine k_wast 42 5 (vin 42 rfl (by decide)) rfl rfl dX6_init_197 ?_
  refine k_dup dX6_init_198 rfl ?_
  refine k_bipush (6) dX6_init_199 rfl ?_
  refine k_bipush (108) dX6_init_201 rfl ?_
  refine k_wast 42 6 (vin 42 rfl (by decide)) rfl rfl dX6_init_203 ?_
  refine k_dup dX6_init_204 rfl ?_
  refine k_bipush (7) dX6_init_205 rfl ?_
  refine k_bipush (111) dX6_init_207 rfl ?_
  refine k_wast 42 7 (vin 42 rfl (by decide)) rfl rfl dX6_init_209 ?_
  refine k_dup dX6_init_210 rfl ?_
  refine k_bipush (8) dX6_init_211 rfl ?_
  refine k_bipush (111) dX6_init_213 rfl ?_
  refine k_wast 42 8 (vin 42 rfl (by decide)) rfl rfl dX6_init_215 ?_
  refine k_dup dX6_init_216 rfl ?_
  refine k_bipush (9) dX6_init_217 rfl ?_
  refine k_bipush (114) dX6_init_219 rfl ?_
  refine k_wast 42 9 (vin 42 rfl (by decide)) rfl rfl dX6_init_221 ?_
  refine k_dup dX6_init_222 rfl ?_
  refine k_bipush (10) dX6_init_223 rfl ?_
  refine k_bipush (32) dX6_init_225 rfl ?_
  refine k_wast 42 10 (vin 42 rfl (by decide)) rfl rfl dX6_init_227 ?_
  refine k_dup dX6_init_228 rfl ?_
  refine k_bipush (11) dX6_init_229 rfl ?_
  refine k_bipush (97) dX6_init_231 rfl ?_
  refine k_wast 42 11 (vin 42 rfl (by decide)) rfl rfl dX6_init_233 ?_
  refine k_dup dX6_init_234 rfl ?_
  refine k_bipush (12) dX6_init_235 rfl ?_
  refine k_bipush (110) dX6_init_237 rfl ?_
  refine k_wast 42 12 (vin 42 rfl (by decide)) rfl rfl dX6_init_239 ?_
  refine k_dup dX6_init_240 rfl ?_
  refine k_bipush (13) dX6_init_241 rfl ?_
  refine k_bipush (115) dX6_init_243 rfl ?_
  refine k_wast 42 13 (vin 42 rfl (by decide)) rfl rfl dX6_init_245 ?_
  refine k_dup dX6_init_246 rfl ?_
  refine k_bipush (14) dX6_init_247 rfl ?_
  refine k_bipush (119) dX6_init_249 rfl ?_
  refine k_wast 42 14 (vin 42 rfl (by decide)) rfl rfl dX6_init_251 ?_
  refine k_dup dX6_init_252 rfl ?_
  refine k_bipush (15) dX6_init_253 rfl ?_
  refine k_bipush (101) dX6_init_255 rfl ?_
  refine k_wast 42 15 (vin 42 rfl (by decide)) rfl rfl dX6_init_257 ?_
  refine k_dup dX6_init_258 rfl ?_
  refine k_bipush (16) dX6_init_259 rfl ?_
  refine k_bipush (114) dX6_init_261 rfl ?_
  refine k_wast 42 16 (vin 42 rfl (by decide)) rfl rfl dX6_init_263 ?_
  refine k_dup dX6_init_264 rfl ?_
  refine k_bipush (17) dX6_init_265 rfl ?_
  refine k_bipush (32) dX6_init_267 rfl ?_
  refine k_wast 42 17 (vin 42 rfl (by decide)) rfl rfl dX6_init_269 ?_
  refine k_dup dX6_init_270 rfl ?_
  refine k_bipush (18) dX6_init_271 rfl ?_
  refine k_bipush (115) dX6_init_273 rfl ?_
  refine k_wast 42 18 (vin 42 rfl (by decide)) rfl rfl dX6_init_275 ?_
  refine k_dup dX6_init_276 rfl ?_
  refine k_bipush (19) dX6_init_277 rfl ?_
  refine k_bipush (119) dX6_init_279 rfl ?_
  refine k_wast 42 19 (vin 42 rfl (by decide)) rfl rfl dX6_init_281 ?_
  refine k_dup dX6_init_282 rfl ?_
  refine k_bipush (20) dX6_init_283 rfl ?_
  refine k_bipush (101) dX6_init_285 rfl ?_
  refine k_wast 42 20 (vin 42 rfl (by decide)) rfl rfl dX6_init_287 ?_
  refine k_dup dX6_init_288 rfl ?_
  refine k_bipush (21) dX6_init_289 rfl ?_
  refine k_bipush (97) dX6_init_291 rfl ?_
  refine k_wast 42 21 (vin 42 rfl (by decide)) rfl rfl dX6_init_293 ?_
  refine k_dup dX6_init_294 rfl ?_
  refine k_bipush (22) dX6_init_295 rfl ?_
  refine k_bipush (114) dX6_init_297 rfl ?_
  refine k_wast 42 22 (vin 42 rfl (by decide)) rfl rfl dX6_init_299 ?_
  refine k_dup dX6_init_300 rfl ?_
  refine k_bipush (23) dX6_init_301 rfl ?_
  refine k_bipush (32) dX6_init_303 rfl ?_
  refine k_wast 42 23 (vin 42 rfl (by decide)) rfl rfl dX6_init_305 ?_
  refine k_dup dX6_init_306 rfl ?_
  refine k_bipush (24) dX6_init_307 rfl ?_
  refine k_bipush (98) dX6_init_309 rfl ?_
  refine k_wast 42 24 (vin 42 rfl (by decide)) rfl rfl dX6_init_311 ?_
  refine k_dup dX6_init_312 rfl ?_
  refine k_bipush (25) dX6_init_313 rfl ?_
  refine k_bipush (117) dX6_init_315 rfl ?_
  refine k_wast 42 25 (vin 42 rfl (by decide)) rfl rfl dX6_init_317 ?_
  refine k_dup dX6_init_318 rfl ?_
  refine k_bipush (26) dX6_init_319 rfl ?_
  refine k_bipush (114) dX6_init_321 rfl ?_
  refine k_wast 42 26 (vin 42 rfl (by decide)) rfl rfl dX6_init_323 ?_
  refine k_dup dX6_init_324 rfl ?_
  refine k_bipush (27) dX6_init_325 rfl ?_
  refine k_bipush (100) dX6_init_327 rfl ?_
  refine k_wast 42 27 (vin 42 rfl (by decide)) rfl rfl dX6_init_329 ?_
  refine k_dup dX6_init_330 rfl ?_
  refine k_bipush (28) dX6_init_331 rfl ?_
  refine k_bipush (101) dX6_init_333 rfl ?_
  refine k_wast 42 28 (vin 42 rfl (by decide)) rfl rfl dX6_init_335 ?_
  refine k_dup dX6_init_336 rfl ?_
  refine k_bipush (29) dX6_init_337 rfl ?_
  refine k_bipush (110) dX6_init_339 rfl ?_
  refine k_wast 42 29 (vin 42 rfl (by decide)) rfl rfl dX6_init_341 ?_
  refine k_dup dX6_init_342 rfl ?_
  refine k_bipush (30) dX6_init_343 rfl ?_
  refine k_bipush (32) dX6_init_345 rfl ?_
  refine k_wast 42 30 (vin 42 rfl (by decide)) rfl rfl dX6_init_347 ?_
  refine k_dup dX6_init_348 rfl ?_
  refine k_bipush (31) dX6_init_349 rfl ?_
  refine k_bipush (99) dX6_init_351 rfl ?_
  refine k_wast 42 31 (vin 42 rfl (by decide)) rfl rfl dX6_init_353 ?_
  refine k_dup dX6_init_354 rfl ?_
  refine k_bipush (32) dX6_init_355 rfl ?_
  refine k_bipush (111) dX6_init_357 rfl ?_
  refine k_wast 42 32 (vin 42 rfl (by decide)) rfl rfl dX6_init_359 ?_
  refine k_dup dX6_init_360 rfl ?_
  refine k_bipush (33) dX6_init_361 rfl ?_
  refine k_bipush (115) dX6_init_363 rfl ?_
  refine k_wast 42 33 (vin 42 rfl (by decide)) rfl rfl dX6_init_365 ?_
  refine k_dup dX6_init_366 rfl ?_
  refine k_bipush (34) dX6_init_367 rfl ?_
  refine k_bipush (116) dX6_init_369 rfl ?_
  refine k_wast 42 34 (vin 42 rfl (by decide)) rfl rfl dX6_init_371 ?_
  refine k_dup dX6_init_372 rfl ?_
  refine k_bipush (35) dX6_init_373 rfl ?_
  refine k_bipush (32) dX6_init_375 rfl ?_
  refine k_wast 42 35 (vin 42 rfl (by decide)) rfl rfl dX6_init_377 ?_
  refine k_dup dX6_init_378 rfl ?_
  refine k_bipush (36) dX6_init_379 rfl ?_
  refine k_bipush (115) dX6_init_381 rfl ?_
  refine k_wast 42 36 (vin 42 rfl (by decide)) rfl rfl dX6_init_383 ?_
  refine k_dup dX6_init_384 rfl ?_
  refine k_bipush (37) dX6_init_385 rfl ?_
  refine k_bipush (104) dX6_init_387 rfl ?_
  refine k_wast 42 37 (vin 42 rfl (by decide)) rfl rfl dX6_init_389 ?_
  refine k_dup dX6_init_390 rfl ?_
  refine k_bipush (38) dX6_init_391 rfl ?_
  refine k_bipush (97) dX6_init_393 rfl ?_
  refine k_wast 42 38 (vin 42 rfl (by decide)) rfl rfl dX6_init_395 ?_
  refine k_dup dX6_init_396 rfl ?_
  refine k_bipush (39) dX6_init_397 rfl ?_
  refine k_bipush (114) dX6_init_399 rfl ?_
  refine k_wast 42 39 (vin 42 rfl (by decide)) rfl rfl dX6_init_401 ?_
  refine k_dup dX6_init_402 rfl ?_
  refine k_bipush (40) dX6_init_403 rfl ?_
  refine k_bipush (101) dX6_init_405 rfl ?_
  refine k_wast 42 40 (vin 42 rfl (by decide)) rfl rfl dX6_init_407 ?_
  refine k_dup dX6_init_408 rfl ?_
  refine k_bipush (41) dX6_init_409 rfl ?_
  refine k_bipush (32) dX6_init_411 rfl ?_
  refine k_wast 42 41 (vin 42 rfl (by decide)) rfl rfl dX6_init_413 ?_
  exact kk
set_option maxHeartbeats 4000000 in
set_option maxRecDepth 100000 in
theorem K_X6 {g : rG} {h : Nat} : Kt mX6_init rmX6 g [.ref h] [(h, .inr (6, d6))] (fun w => ∃ q : Nat → Nat, w = wX6 g h q) := by
  refine K_of_EK rfl rfl rfl (Nat.le_of_ble_eq_true rfl) (fun sz => ?_)
  refine k_aload_n (a := h) 0 dX6_init_0 rfl ?_
  refine k_obj obX6 w_inst w_code dX6_init_1 (by decide) (by decide) ?_
  refine k_aload_n (a := h) 0 dX6_init_4 rfl ?_
  refine k_sipush (600) dX6_init_5 rfl ?_
  refine k_newa 1 600 w_arr_int rfl (fun _ => rfl) rfl ra_int (by decide) rfl (by decide) (by decide) (by decide) dX6_init_8 (fun q1 => ?_)
  refine k_putFe (M := mX6_init) (fs := (.null :: .int 0 :: .int 0 :: .null :: .null :: .null :: .int 0 :: .null :: .int 0 :: .int 0 :: .int 0 :: .null :: .null :: .null :: .null :: .int 0 :: .int 0 :: .int 0 :: .null :: .null :: .int 0 :: .int 0 :: .null :: .null :: .null :: .null :: .null :: .null :: .null :: .null :: .null :: .int 0 :: .int 0 :: .int 0 :: .int 0 :: .int 0 :: .int 0 :: [])) (gs := (.ref q1 :: .int 0 :: .int 0 :: .null :: .null :: .null :: .int 0 :: .null :: .int 0 :: .int 0 :: .int 0 :: .null :: .null :: .null :: .null :: .int 0 :: .int 0 :: .int 0 :: .null :: .null :: .int 0 :: .int 0 :: .null :: .null :: .null :: .null :: .null :: .null :: .null :: .null :: .null :: .int 0 :: .int 0 :: .int 0 :: .int 0 :: .int 0 :: .int 0 :: [])) 0 kX6 (by decide) fX6_7 rfl rfl ⟨rfl, rfl⟩ (Nat.le_of_ble_eq_true rfl) rfl dX6_init_10 ?_
  refine k_aload_n (a := h) 0 dX6_init_13 rfl ?_
  refine k_bipush (12) dX6_init_14 rfl ?_
  refine k_newa 1 12 w_arr_int rfl (fun _ => rfl) rfl ra_int (by decide) rfl (by decide) (by decide) (by decide) dX6_init_16 (fun q2 => ?_)
  refine k_putFe (M := mX6_init) (fs := (.ref q1 :: .int 0 :: .int 0 :: .null :: .null :: .null :: .int 0 :: .null :: .int 0 :: .int 0 :: .int 0 :: .null :: .null :: .null :: .null :: .int 0 :: .int 0 :: .int 0 :: .null :: .null :: .int 0 :: .int 0 :: .null :: .null :: .null :: .null :: .null :: .null :: .null :: .null :: .null :: .int 0 :: .int 0 :: .int 0 :: .int 0 :: .int 0 :: .int 0 :: [])) (gs := (.ref q1 :: .int 0 :: .int 0 :: .ref q2 :: .null :: .null :: .int 0 :: .null :: .int 0 :: .int 0 :: .int 0 :: .null :: .null :: .null :: .null :: .int 0 :: .int 0 :: .int 0 :: .null :: .null :: .int 0 :: .int 0 :: .null :: .null :: .null :: .null :: .null :: .null :: .null :: .null :: .null :: .int 0 :: .int 0 :: .int 0 :: .int 0 :: .int 0 :: .int 0 :: [])) 3 kX6 (by decide) fX6_13 rfl rfl ⟨rfl, rfl⟩ (Nat.le_of_ble_eq_true rfl) rfl dX6_init_18 ?_
  refine k_aload_n (a := h) 0 dX6_init_21 rfl ?_
  refine k_bipush (12) dX6_init_22 rfl ?_
  refine k_newa 1 12 w_arr_int rfl (fun _ => rfl) rfl ra_int (by decide) rfl (by decide) (by decide) (by decide) dX6_init_24 (fun q3 => ?_)
  refine k_putFe (M := mX6_init) (fs := (.ref q1 :: .int 0 :: .int 0 :: .ref q2 :: .null :: .null :: .int 0 :: .null :: .int 0 :: .int 0 :: .int 0 :: .null :: .null :: .null :: .null :: .int 0 :: .int 0 :: .int 0 :: .null :: .null :: .int 0 :: .int 0 :: .null :: .null :: .null :: .null :: .null :: .null :: .null :: .null :: .null :: .int 0 :: .int 0 :: .int 0 :: .int 0 :: .int 0 :: .int 0 :: [])) (gs := (.ref q1 :: .int 0 :: .int 0 :: .ref q2 :: .ref q3 :: .null :: .int 0 :: .null :: .int 0 :: .int 0 :: .int 0 :: .null :: .null :: .null :: .null :: .int 0 :: .int 0 :: .int 0 :: .null :: .null :: .int 0 :: .int 0 :: .null :: .null :: .null :: .null :: .null :: .null :: .null :: .null :: .null :: .int 0 :: .int 0 :: .int 0 :: .int 0 :: .int 0 :: .int 0 :: [])) 4 kX6 (by decide) fX6_16 rfl rfl ⟨rfl, rfl⟩ (Nat.le_of_ble_eq_true rfl) rfl dX6_init_26 ?_
  refine k_aload_n (a := h) 0 dX6_init_29 rfl ?_
  refine k_bipush (8) dX6_init_30 rfl ?_
  refine k_newa 1 8 w_arr_int rfl (fun _ => rfl) rfl ra_int (by decide) rfl (by decide) (by decide) (by decide) dX6_init_32 (fun q4 => ?_)
  refine k_putFe (M := mX6_init) (fs := (.ref q1 :: .int 0 :: .int 0 :: .ref q2 :: .ref q3 :: .null :: .int 0 :: .null :: .int 0 :: .int 0 :: .int 0 :: .null :: .null :: .null :: .null :: .int 0 :: .int 0 :: .int 0 :: .null :: .null :: .int 0 :: .int 0 :: .null :: .null :: .null :: .null :: .null :: .null :: .null :: .null :: .null :: .int 0 :: .int 0 :: .int 0 :: .int 0 :: .int 0 :: .int 0 :: [])) (gs := (.ref q1 :: .int 0 :: .int 0 :: .ref q2 :: .ref q3 :: .ref q4 :: .int 0 :: .null :: .int 0 :: .int 0 :: .int 0 :: .null :: .null :: .null :: .null :: .int 0 :: .int 0 :: .int 0 :: .null :: .null :: .int 0 :: .int 0 :: .null :: .null :: .null :: .null :: .null :: .null :: .null :: .null :: .null :: .int 0 :: .int 0 :: .int 0 :: .int 0 :: .int 0 :: .int 0 :: [])) 5 kX6 (by decide) fX6_19 rfl rfl ⟨rfl, rfl⟩ (Nat.le_of_ble_eq_true rfl) rfl dX6_init_34 ?_
  refine k_aload_n (a := h) 0 dX6_init_37 rfl ?_
  refine k_bipush (24) dX6_init_38 rfl ?_
  refine k_newa 1 24 w_arr_int rfl (fun _ => rfl) rfl ra_int (by decide) rfl (by decide) (by decide) (by decide) dX6_init_40 (fun q5 => ?_)
  refine k_putFe (M := mX6_init) (fs := (.ref q1 :: .int 0 :: .int 0 :: .ref q2 :: .ref q3 :: .ref q4 :: .int 0 :: .null :: .int 0 :: .int 0 :: .int 0 :: .null :: .null :: .null :: .null :: .int 0 :: .int 0 :: .int 0 :: .null :: .null :: .int 0 :: .int 0 :: .null :: .null :: .null :: .null :: .null :: .null :: .null :: .null :: .null :: .int 0 :: .int 0 :: .int 0 :: .int 0 :: .int 0 :: .int 0 :: [])) (gs := (.ref q1 :: .int 0 :: .int 0 :: .ref q2 :: .ref q3 :: .ref q4 :: .int 0 :: .ref q5 :: .int 0 :: .int 0 :: .int 0 :: .null :: .null :: .null :: .null :: .int 0 :: .int 0 :: .int 0 :: .null :: .null :: .int 0 :: .int 0 :: .null :: .null :: .null :: .null :: .null :: .null :: .null :: .null :: .null :: .int 0 :: .int 0 :: .int 0 :: .int 0 :: .int 0 :: .int 0 :: [])) 7 kX6 (by decide) fX6_22 rfl rfl ⟨rfl, rfl⟩ (Nat.le_of_ble_eq_true rfl) rfl dX6_init_42 ?_
  refine k_aload_n (a := h) 0 dX6_init_45 rfl ?_
  refine k_iconst (-1) dX6_init_46 rfl ?_
  refine k_pute (M := mX6_init) (fs := (.ref q1 :: .int 0 :: .int 0 :: .ref q2 :: .ref q3 :: .ref q4 :: .int 0 :: .ref q5 :: .int 0 :: .int 0 :: .int 0 :: .null :: .null :: .null :: .null :: .int 0 :: .int 0 :: .int 0 :: .null :: .null :: .int 0 :: .int 0 :: .null :: .null :: .null :: .null :: .null :: .null :: .null :: .null :: .null :: .int 0 :: .int 0 :: .int 0 :: .int 0 :: .int 0 :: .int 0 :: [])) (gs := (.ref q1 :: .int 0 :: .int 0 :: .ref q2 :: .ref q3 :: .ref q4 :: .int 0 :: .ref q5 :: .int 0 :: .int (-1) :: .int 0 :: .null :: .null :: .null :: .null :: .int 0 :: .int 0 :: .int 0 :: .null :: .null :: .int 0 :: .int 0 :: .null :: .null :: .null :: .null :: .null :: .null :: .null :: .null :: .null :: .int 0 :: .int 0 :: .int 0 :: .int 0 :: .int 0 :: .int 0 :: [])) 9 kX6 (by decide) fX6_25 rfl ⟨rfl, rfl⟩ (Nat.le_of_ble_eq_true rfl) rfl dX6_init_47 ?_
  refine k_aload_n (a := h) 0 dX6_init_50 rfl ?_
  refine k_bipush (24) dX6_init_51 rfl ?_
  refine k_newa 1 24 w_arr_int rfl (fun _ => rfl) rfl ra_int (by decide) rfl (by decide) (by decide) (by decide) dX6_init_53 (fun q6 => ?_)
  refine k_putFe (M := mX6_init) (fs := (.ref q1 :: .int 0 :: .int 0 :: .ref q2 :: .ref q3 :: .ref q4 :: .int 0 :: .ref q5 :: .int 0 :: .int (-1) :: .int 0 :: .null :: .null :: .null :: .null :: .int 0 :: .int 0 :: .int 0 :: .null :: .null :: .int 0 :: .int 0 :: .null :: .null :: .null :: .null :: .null :: .null :: .null :: .null :: .null :: .int 0 :: .int 0 :: .int 0 :: .int 0 :: .int 0 :: .int 0 :: [])) (gs := (.ref q1 :: .int 0 :: .int 0 :: .ref q2 :: .ref q3 :: .ref q4 :: .int 0 :: .ref q5 :: .int 0 :: .int (-1) :: .int 0 :: .ref q6 :: .null :: .null :: .null :: .int 0 :: .int 0 :: .int 0 :: .null :: .null :: .int 0 :: .int 0 :: .null :: .null :: .null :: .null :: .null :: .null :: .null :: .null :: .null :: .int 0 :: .int 0 :: .int 0 :: .int 0 :: .int 0 :: .int 0 :: [])) 11 kX6 (by decide) fX6_29 rfl rfl ⟨rfl, rfl⟩ (Nat.le_of_ble_eq_true rfl) rfl dX6_init_55 ?_
  refine k_aload_n (a := h) 0 dX6_init_58 rfl ?_
  refine k_bipush (24) dX6_init_59 rfl ?_
  refine k_newa 1 24 w_arr_int rfl (fun _ => rfl) rfl ra_int (by decide) rfl (by decide) (by decide) (by decide) dX6_init_61 (fun q7 => ?_)
  refine k_putFe (M := mX6_init) (fs := (.ref q1 :: .int 0 :: .int 0 :: .ref q2 :: .ref q3 :: .ref q4 :: .int 0 :: .ref q5 :: .int 0 :: .int (-1) :: .int 0 :: .ref q6 :: .null :: .null :: .null :: .int 0 :: .int 0 :: .int 0 :: .null :: .null :: .int 0 :: .int 0 :: .null :: .null :: .null :: .null :: .null :: .null :: .null :: .null :: .null :: .int 0 :: .int 0 :: .int 0 :: .int 0 :: .int 0 :: .int 0 :: [])) (gs := (.ref q1 :: .int 0 :: .int 0 :: .ref q2 :: .ref q3 :: .ref q4 :: .int 0 :: .ref q5 :: .int 0 :: .int (-1) :: .int 0 :: .ref q6 :: .ref q7 :: .null :: .null :: .int 0 :: .int 0 :: .int 0 :: .null :: .null :: .int 0 :: .int 0 :: .null :: .null :: .null :: .null :: .null :: .null :: .null :: .null :: .null :: .int 0 :: .int 0 :: .int 0 :: .int 0 :: .int 0 :: .int 0 :: [])) 12 kX6 (by decide) fX6_32 rfl rfl ⟨rfl, rfl⟩ (Nat.le_of_ble_eq_true rfl) rfl dX6_init_63 ?_
  refine k_aload_n (a := h) 0 dX6_init_66 rfl ?_
  refine k_bipush (24) dX6_init_67 rfl ?_
  refine k_newa 1 24 w_arr_int rfl (fun _ => rfl) rfl ra_int (by decide) rfl (by decide) (by decide) (by decide) dX6_init_69 (fun q8 => ?_)
  refine k_putFe (M := mX6_init) (fs := (.ref q1 :: .int 0 :: .int 0 :: .ref q2 :: .ref q3 :: .ref q4 :: .int 0 :: .ref q5 :: .int 0 :: .int (-1) :: .int 0 :: .ref q6 :: .ref q7 :: .null :: .null :: .int 0 :: .int 0 :: .int 0 :: .null :: .null :: .int 0 :: .int 0 :: .null :: .null :: .null :: .null :: .null :: .null :: .null :: .null :: .null :: .int 0 :: .int 0 :: .int 0 :: .int 0 :: .int 0 :: .int 0 :: [])) (gs := (.ref q1 :: .int 0 :: .int 0 :: .ref q2 :: .ref q3 :: .ref q4 :: .int 0 :: .ref q5 :: .int 0 :: .int (-1) :: .int 0 :: .ref q6 :: .ref q7 :: .ref q8 :: .null :: .int 0 :: .int 0 :: .int 0 :: .null :: .null :: .int 0 :: .int 0 :: .null :: .null :: .null :: .null :: .null :: .null :: .null :: .null :: .null :: .int 0 :: .int 0 :: .int 0 :: .int 0 :: .int 0 :: .int 0 :: [])) 13 kX6 (by decide) fX6_35 rfl rfl ⟨rfl, rfl⟩ (Nat.le_of_ble_eq_true rfl) rfl dX6_init_71 ?_
  refine k_aload_n (a := h) 0 dX6_init_74 rfl ?_
  refine k_bipush (12) dX6_init_75 rfl ?_
  refine k_newa 1 12 w_arr_int rfl (fun _ => rfl) rfl ra_int (by decide) rfl (by decide) (by decide) (by decide) dX6_init_77 (fun q9 => ?_)
  refine k_putFe (M := mX6_init) (fs := (.ref q1 :: .int 0 :: .int 0 :: .ref q2 :: .ref q3 :: .ref q4 :: .int 0 :: .ref q5 :: .int 0 :: .int (-1) :: .int 0 :: .ref q6 :: .ref q7 :: .ref q8 :: .null :: .int 0 :: .int 0 :: .int 0 :: .null :: .null :: .int 0 :: .int 0 :: .null :: .null :: .null :: .null :: .null :: .null :: .null :: .null :: .null :: .int 0 :: .int 0 :: .int 0 :: .int 0 :: .int 0 :: .int 0 :: [])) (gs := (.ref q1 :: .int 0 :: .int 0 :: .ref q2 :: .ref q3 :: .ref q4 :: .int 0 :: .ref q5 :: .int 0 :: .int (-1) :: .int 0 :: .ref q6 :: .ref q7 :: .ref q8 :: .ref q9 :: .int 0 :: .int 0 :: .int 0 :: .null :: .null :: .int 0 :: .int 0 :: .null :: .null :: .null :: .null :: .null :: .null :: .null :: .null :: .null :: .int 0 :: .int 0 :: .int 0 :: .int 0 :: .int 0 :: .int 0 :: [])) 14 kX6 (by decide) fX6_38 rfl rfl ⟨rfl, rfl⟩ (Nat.le_of_ble_eq_true rfl) rfl dX6_init_79 ?_
  refine k_aload_n (a := h) 0 dX6_init_82 rfl ?_
  refine k_bipush (48) dX6_init_83 rfl ?_
  refine k_newa 1 48 w_arr_int rfl (fun _ => rfl) rfl ra_int (by decide) rfl (by decide) (by decide) (by decide) dX6_init_85 (fun q10 => ?_)
  refine k_putFe (M := mX6_init) (fs := (.ref q1 :: .int 0 :: .int 0 :: .ref q2 :: .ref q3 :: .ref q4 :: .int 0 :: .ref q5 :: .int 0 :: .int (-1) :: .int 0 :: .ref q6 :: .ref q7 :: .ref q8 :: .ref q9 :: .int 0 :: .int 0 :: .int 0 :: .null :: .null :: .int 0 :: .int 0 :: .null :: .null :: .null :: .null :: .null :: .null :: .null :: .null :: .null :: .int 0 :: .int 0 :: .int 0 :: .int 0 :: .int 0 :: .int 0 :: [])) (gs := (.ref q1 :: .int 0 :: .int 0 :: .ref q2 :: .ref q3 :: .ref q4 :: .int 0 :: .ref q5 :: .int 0 :: .int (-1) :: .int 0 :: .ref q6 :: .ref q7 :: .ref q8 :: .ref q9 :: .int 0 :: .int 0 :: .int 0 :: .ref q10 :: .null :: .int 0 :: .int 0 :: .null :: .null :: .null :: .null :: .null :: .null :: .null :: .null :: .null :: .int 0 :: .int 0 :: .int 0 :: .int 0 :: .int 0 :: .int 0 :: [])) 18 kX6 (by decide) fX6_41 rfl rfl ⟨rfl, rfl⟩ (Nat.le_of_ble_eq_true rfl) rfl dX6_init_87 ?_
  refine k_aload_n (a := h) 0 dX6_init_90 rfl ?_
  refine k_sipush (288) dX6_init_91 rfl ?_
  refine k_newa 3 288 w_arr_boolean rfl (fun _ => rfl) rfl ra_bool (by decide) rfl (by decide) (by decide) (by decide) dX6_init_94 (fun q11 => ?_)
  refine k_putFe (M := mX6_init) (fs := (.ref q1 :: .int 0 :: .int 0 :: .ref q2 :: .ref q3 :: .ref q4 :: .int 0 :: .ref q5 :: .int 0 :: .int (-1) :: .int 0 :: .ref q6 :: .ref q7 :: .ref q8 :: .ref q9 :: .int 0 :: .int 0 :: .int 0 :: .ref q10 :: .null :: .int 0 :: .int 0 :: .null :: .null :: .null :: .null :: .null :: .null :: .null :: .null :: .null :: .int 0 :: .int 0 :: .int 0 :: .int 0 :: .int 0 :: .int 0 :: [])) (gs := (.ref q1 :: .int 0 :: .int 0 :: .ref q2 :: .ref q3 :: .ref q4 :: .int 0 :: .ref q5 :: .int 0 :: .int (-1) :: .int 0 :: .ref q6 :: .ref q7 :: .ref q8 :: .ref q9 :: .int 0 :: .int 0 :: .int 0 :: .ref q10 :: .ref q11 :: .int 0 :: .int 0 :: .null :: .null :: .null :: .null :: .null :: .null :: .null :: .null :: .null :: .int 0 :: .int 0 :: .int 0 :: .int 0 :: .int 0 :: .int 0 :: [])) 19 kX6 (by decide) fX6_44 rfl rfl ⟨rfl, rfl⟩ (Nat.le_of_ble_eq_true rfl) rfl dX6_init_96 ?_
  refine k_aload_n (a := h) 0 dX6_init_99 rfl ?_
  refine k_bipush (40) dX6_init_100 rfl ?_
  refine k_newa 1 40 w_arr_int rfl (fun _ => rfl) rfl ra_int (by decide) rfl (by decide) (by decide) (by decide) dX6_init_102 (fun q12 => ?_)
  refine k_putFe (M := mX6_init) (fs := (.ref q1 :: .int 0 :: .int 0 :: .ref q2 :: .ref q3 :: .ref q4 :: .int 0 :: .ref q5 :: .int 0 :: .int (-1) :: .int 0 :: .ref q6 :: .ref q7 :: .ref q8 :: .ref q9 :: .int 0 :: .int 0 :: .int 0 :: .ref q10 :: .ref q11 :: .int 0 :: .int 0 :: .null :: .null :: .null :: .null :: .null :: .null :: .null :: .null :: .null :: .int 0 :: .int 0 :: .int 0 :: .int 0 :: .int 0 :: .int 0 :: [])) (gs := (.ref q1 :: .int 0 :: .int 0 :: .ref q2 :: .ref q3 :: .ref q4 :: .int 0 :: .ref q5 :: .int 0 :: .int (-1) :: .int 0 :: .ref q6 :: .ref q7 :: .ref q8 :: .ref q9 :: .int 0 :: .int 0 :: .int 0 :: .ref q10 :: .ref q11 :: .int 0 :: .int 0 :: .ref q12 :: .null :: .null :: .null :: .null :: .null :: .null :: .null :: .null :: .int 0 :: .int 0 :: .int 0 :: .int 0 :: .int 0 :: .int 0 :: [])) 22 kX6 (by decide) fX6_48 rfl rfl ⟨rfl, rfl⟩ (Nat.le_of_ble_eq_true rfl) rfl dX6_init_104 ?_
  refine k_aload_n (a := h) 0 dX6_init_107 rfl ?_
  refine k_bipush (40) dX6_init_108 rfl ?_
  refine k_newa 1 40 w_arr_int rfl (fun _ => rfl) rfl ra_int (by decide) rfl (by decide) (by decide) (by decide) dX6_init_110 (fun q13 => ?_)
  refine k_putFe (M := mX6_init) (fs := (.ref q1 :: .int 0 :: .int 0 :: .ref q2 :: .ref q3 :: .ref q4 :: .int 0 :: .ref q5 :: .int 0 :: .int (-1) :: .int 0 :: .ref q6 :: .ref q7 :: .ref q8 :: .ref q9 :: .int 0 :: .int 0 :: .int 0 :: .ref q10 :: .ref q11 :: .int 0 :: .int 0 :: .ref q12 :: .null :: .null :: .null :: .null :: .null :: .null :: .null :: .null :: .int 0 :: .int 0 :: .int 0 :: .int 0 :: .int 0 :: .int 0 :: [])) (gs := (.ref q1 :: .int 0 :: .int 0 :: .ref q2 :: .ref q3 :: .ref q4 :: .int 0 :: .ref q5 :: .int 0 :: .int (-1) :: .int 0 :: .ref q6 :: .ref q7 :: .ref q8 :: .ref q9 :: .int 0 :: .int 0 :: .int 0 :: .ref q10 :: .ref q11 :: .int 0 :: .int 0 :: .ref q12 :: .ref q13 :: .null :: .null :: .null :: .null :: .null :: .null :: .null :: .int 0 :: .int 0 :: .int 0 :: .int 0 :: .int 0 :: .int 0 :: [])) 23 kX6 (by decide) fX6_51 rfl rfl ⟨rfl, rfl⟩ (Nat.le_of_ble_eq_true rfl) rfl dX6_init_112 ?_
  refine k_aload_n (a := h) 0 dX6_init_115 rfl ?_
  refine k_bipush (40) dX6_init_116 rfl ?_
  refine k_newa 1 40 w_arr_int rfl (fun _ => rfl) rfl ra_int (by decide) rfl (by decide) (by decide) (by decide) dX6_init_118 (fun q14 => ?_)
  refine k_putFe (M := mX6_init) (fs := (.ref q1 :: .int 0 :: .int 0 :: .ref q2 :: .ref q3 :: .ref q4 :: .int 0 :: .ref q5 :: .int 0 :: .int (-1) :: .int 0 :: .ref q6 :: .ref q7 :: .ref q8 :: .ref q9 :: .int 0 :: .int 0 :: .int 0 :: .ref q10 :: .ref q11 :: .int 0 :: .int 0 :: .ref q12 :: .ref q13 :: .null :: .null :: .null :: .null :: .null :: .null :: .null :: .int 0 :: .int 0 :: .int 0 :: .int 0 :: .int 0 :: .int 0 :: [])) (gs := (.ref q1 :: .int 0 :: .int 0 :: .ref q2 :: .ref q3 :: .ref q4 :: .int 0 :: .ref q5 :: .int 0 :: .int (-1) :: .int 0 :: .ref q6 :: .ref q7 :: .ref q8 :: .ref q9 :: .int 0 :: .int 0 :: .int 0 :: .ref q10 :: .ref q11 :: .int 0 :: .int 0 :: .ref q12 :: .ref q13 :: .ref q14 :: .null :: .null :: .null :: .null :: .null :: .null :: .int 0 :: .int 0 :: .int 0 :: .int 0 :: .int 0 :: .int 0 :: [])) 24 kX6 (by decide) fX6_54 rfl rfl ⟨rfl, rfl⟩ (Nat.le_of_ble_eq_true rfl) rfl dX6_init_120 ?_
  refine k_aload_n (a := h) 0 dX6_init_123 rfl ?_
  refine k_bipush (40) dX6_init_124 rfl ?_
  refine k_newa 1 40 w_arr_int rfl (fun _ => rfl) rfl ra_int (by decide) rfl (by decide) (by decide) (by decide) dX6_init_126 (fun q15 => ?_)
  refine k_putFe (M := mX6_init) (fs := (.ref q1 :: .int 0 :: .int 0 :: .ref q2 :: .ref q3 :: .ref q4 :: .int 0 :: .ref q5 :: .int 0 :: .int (-1) :: .int 0 :: .ref q6 :: .ref q7 :: .ref q8 :: .ref q9 :: .int 0 :: .int 0 :: .int 0 :: .ref q10 :: .ref q11 :: .int 0 :: .int 0 :: .ref q12 :: .ref q13 :: .ref q14 :: .null :: .null :: .null :: .null :: .null :: .null :: .int 0 :: .int 0 :: .int 0 :: .int 0 :: .int 0 :: .int 0 :: [])) (gs := (.ref q1 :: .int 0 :: .int 0 :: .ref q2 :: .ref q3 :: .ref q4 :: .int 0 :: .ref q5 :: .int 0 :: .int (-1) :: .int 0 :: .ref q6 :: .ref q7 :: .ref q8 :: .ref q9 :: .int 0 :: .int 0 :: .int 0 :: .ref q10 :: .ref q11 :: .int 0 :: .int 0 :: .ref q12 :: .ref q13 :: .ref q14 :: .ref q15 :: .null :: .null :: .null :: .null :: .null :: .int 0 :: .int 0 :: .int 0 :: .int 0 :: .int 0 :: .int 0 :: [])) 25 kX6 (by decide) fX6_57 rfl rfl ⟨rfl, rfl⟩ (Nat.le_of_ble_eq_true rfl) rfl dX6_init_128 ?_
  refine k_aload_n (a := h) 0 dX6_init_131 rfl ?_
  refine k_bipush (40) dX6_init_132 rfl ?_
  refine k_newa 1 40 w_arr_int rfl (fun _ => rfl) rfl ra_int (by decide) rfl (by decide) (by decide) (by decide) dX6_init_134 (fun q16 => ?_)
  refine k_putFe (M := mX6_init) (fs := (.ref q1 :: .int 0 :: .int 0 :: .ref q2 :: .ref q3 :: .ref q4 :: .int 0 :: .ref q5 :: .int 0 :: .int (-1) :: .int 0 :: .ref q6 :: .ref q7 :: .ref q8 :: .ref q9 :: .int 0 :: .int 0 :: .int 0 :: .ref q10 :: .ref q11 :: .int 0 :: .int 0 :: .ref q12 :: .ref q13 :: .ref q14 :: .ref q15 :: .null :: .null :: .null :: .null :: .null :: .int 0 :: .int 0 :: .int 0 :: .int 0 :: .int 0 :: .int 0 :: [])) (gs := (.ref q1 :: .int 0 :: .int 0 :: .ref q2 :: .ref q3 :: .ref q4 :: .int 0 :: .ref q5 :: .int 0 :: .int (-1) :: .int 0 :: .ref q6 :: .ref q7 :: .ref q8 :: .ref q9 :: .int 0 :: .int 0 :: .int 0 :: .ref q10 :: .ref q11 :: .int 0 :: .int 0 :: .ref q12 :: .ref q13 :: .ref q14 :: .ref q15 :: .ref q16 :: .null :: .null :: .null :: .null :: .int 0 :: .int 0 :: .int 0 :: .int 0 :: .int 0 :: .int 0 :: [])) 26 kX6 (by decide) fX6_60 rfl rfl ⟨rfl, rfl⟩ (Nat.le_of_ble_eq_true rfl) rfl dX6_init_136 ?_
  refine k_aload_n (a := h) 0 dX6_init_139 rfl ?_
  refine k_bipush (40) dX6_init_140 rfl ?_
  refine k_newa 1 40 w_arr_int rfl (fun _ => rfl) rfl ra_int (by decide) rfl (by decide) (by decide) (by decide) dX6_init_142 (fun q17 => ?_)
  refine k_putFe (M := mX6_init) (fs := (.ref q1 :: .int 0 :: .int 0 :: .ref q2 :: .ref q3 :: .ref q4 :: .int 0 :: .ref q5 :: .int 0 :: .int (-1) :: .int 0 :: .ref q6 :: .ref q7 :: .ref q8 :: .ref q9 :: .int 0 :: .int 0 :: .int 0 :: .ref q10 :: .ref q11 :: .int 0 :: .int 0 :: .ref q12 :: .ref q13 :: .ref q14 :: .ref q15 :: .ref q16 :: .null :: .null :: .null :: .null :: .int 0 :: .int 0 :: .int 0 :: .int 0 :: .int 0 :: .int 0 :: [])) (gs := (.ref q1 :: .int 0 :: .int 0 :: .ref q2 :: .ref q3 :: .ref q4 :: .int 0 :: .ref q5 :: .int 0 :: .int (-1) :: .int 0 :: .ref q6 :: .ref q7 :: .ref q8 :: .ref q9 :: .int 0 :: .int 0 :: .int 0 :: .ref q10 :: .ref q11 :: .int 0 :: .int 0 :: .ref q12 :: .ref q13 :: .ref q14 :: .ref q15 :: .ref q16 :: .ref q17 :: .null :: .null :: .null :: .int 0 :: .int 0 :: .int 0 :: .int 0 :: .int 0 :: .int 0 :: [])) 27 kX6 (by decide) fX6_63 rfl rfl ⟨rfl, rfl⟩ (Nat.le_of_ble_eq_true rfl) rfl dX6_init_144 ?_
  refine k_aload_n (a := h) 0 dX6_init_147 rfl ?_
  refine k_bipush (40) dX6_init_148 rfl ?_
  refine k_newa 3 40 w_arr_boolean rfl (fun _ => rfl) rfl ra_bool (by decide) rfl (by decide) (by decide) (by decide) dX6_init_150 (fun q18 => ?_)
  refine k_putFe (M := mX6_init) (fs := (.ref q1 :: .int 0 :: .int 0 :: .ref q2 :: .ref q3 :: .ref q4 :: .int 0 :: .ref q5 :: .int 0 :: .int (-1) :: .int 0 :: .ref q6 :: .ref q7 :: .ref q8 :: .ref q9 :: .int 0 :: .int 0 :: .int 0 :: .ref q10 :: .ref q11 :: .int 0 :: .int 0 :: .ref q12 :: .ref q13 :: .ref q14 :: .ref q15 :: .ref q16 :: .ref q17 :: .null :: .null :: .null :: .int 0 :: .int 0 :: .int 0 :: .int 0 :: .int 0 :: .int 0 :: [])) (gs := (.ref q1 :: .int 0 :: .int 0 :: .ref q2 :: .ref q3 :: .ref q4 :: .int 0 :: .ref q5 :: .int 0 :: .int (-1) :: .int 0 :: .ref q6 :: .ref q7 :: .ref q8 :: .ref q9 :: .int 0 :: .int 0 :: .int 0 :: .ref q10 :: .ref q11 :: .int 0 :: .int 0 :: .ref q12 :: .ref q13 :: .ref q14 :: .ref q15 :: .ref q16 :: .ref q17 :: .ref q18 :: .null :: .null :: .int 0 :: .int 0 :: .int 0 :: .int 0 :: .int 0 :: .int 0 :: [])) 28 kX6 (by decide) fX6_66 rfl rfl ⟨rfl, rfl⟩ (Nat.le_of_ble_eq_true rfl) rfl dX6_init_152 ?_
  refine k_aload_n (a := h) 0 dX6_init_155 rfl ?_
  refine k_bipush (40) dX6_init_156 rfl ?_
  refine k_newa 3 40 w_arr_boolean rfl (fun _ => rfl) rfl ra_bool (by decide) rfl (by decide) (by decide) (by decide) dX6_init_158 (fun q19 => ?_)
  refine k_putFe (M := mX6_init) (fs := (.ref q1 :: .int 0 :: .int 0 :: .ref q2 :: .ref q3 :: .ref q4 :: .int 0 :: .ref q5 :: .int 0 :: .int (-1) :: .int 0 :: .ref q6 :: .ref q7 :: .ref q8 :: .ref q9 :: .int 0 :: .int 0 :: .int 0 :: .ref q10 :: .ref q11 :: .int 0 :: .int 0 :: .ref q12 :: .ref q13 :: .ref q14 :: .ref q15 :: .ref q16 :: .ref q17 :: .ref q18 :: .null :: .null :: .int 0 :: .int 0 :: .int 0 :: .int 0 :: .int 0 :: .int 0 :: [])) (gs := (.ref q1 :: .int 0 :: .int 0 :: .ref q2 :: .ref q3 :: .ref q4 :: .int 0 :: .ref q5 :: .int 0 :: .int (-1) :: .int 0 :: .ref q6 :: .ref q7 :: .ref q8 :: .ref q9 :: .int 0 :: .int 0 :: .int 0 :: .ref q10 :: .ref q11 :: .int 0 :: .int 0 :: .ref q12 :: .ref q13 :: .ref q14 :: .ref q15 :: .ref q16 :: .ref q17 :: .ref q18 :: .ref q19 :: .null :: .int 0 :: .int 0 :: .int 0 :: .int 0 :: .int 0 :: .int 0 :: [])) 29 kX6 (by decide) fX6_69 rfl rfl ⟨rfl, rfl⟩ (Nat.le_of_ble_eq_true rfl) rfl dX6_init_160 ?_
  refine k_aload_n (a := h) 0 dX6_init_163 rfl ?_
  refine k_bipush (42) dX6_init_164 rfl ?_
  refine k_newa 1 42 w_arr_int rfl (fun _ => rfl) rfl ra_int (by decide) rfl (by decide) (by decide) (by decide) dX6_init_166 (fun q20 => ?_)
  refine k_wF0 ?_
  refine K_X6_w ?_
  refine k_putFe (M := mX6_init) (fs := (.ref q1 :: .int 0 :: .int 0 :: .ref q2 :: .ref q3 :: .ref q4 :: .int 0 :: .ref q5 :: .int 0 :: .int (-1) :: .int 0 :: .ref q6 :: .ref q7 :: .ref q8 :: .ref q9 :: .int 0 :: .int 0 :: .int 0 :: .ref q10 :: .ref q11 :: .int 0 :: .int 0 :: .ref q12 :: .ref q13 :: .ref q14 :: .ref q15 :: .ref q16 :: .ref q17 :: .ref q18 :: .ref q19 :: .null :: .int 0 :: .int 0 :: .int 0 :: .int 0 :: .int 0 :: .int 0 :: [])) (gs := (.ref q1 :: .int 0 :: .int 0 :: .ref q2 :: .ref q3 :: .ref q4 :: .int 0 :: .ref q5 :: .int 0 :: .int (-1) :: .int 0 :: .ref q6 :: .ref q7 :: .ref q8 :: .ref q9 :: .int 0 :: .int 0 :: .int 0 :: .ref q10 :: .ref q11 :: .int 0 :: .int 0 :: .ref q12 :: .ref q13 :: .ref q14 :: .ref q15 :: .ref q16 :: .ref q17 :: .ref q18 :: .ref q19 :: .ref q20 :: .int 0 :: .int 0 :: .int 0 :: .int 0 :: .int 0 :: .int 0 :: [])) 30 kX6 (by decide) fX6_72 rfl rfl ⟨rfl, rfl⟩ (Nat.le_of_ble_eq_true rfl) rfl dX6_init_414 ?_
  exact k_ret rfl (by decide) (by decide) dX6_init_417 ⟨(fun k => if k = 0 then q1 else if k = 3 then q2 else if k = 4 then q3 else if k = 5 then q4 else if k = 7 then q5 else if k = 11 then q6 else if k = 12 then q7 else if k = 13 then q8 else if k = 14 then q9 else if k = 18 then q10 else if k = 19 then q11 else if k = 22 then q12 else if k = 23 then q13 else if k = 24 then q14 else if k = 25 then q15 else if k = 26 then q16 else if k = 27 then q17 else if k = 28 then q18 else if k = 29 then q19 else if k = 30 then q20 else 0), rfl⟩
