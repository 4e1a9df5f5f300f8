/-! THE LAW: calls that may throw -/
section OP
variable {X : jX} {w : jW} {b L i sz nc ns : Nat} {xs : Nat → Int32} {G : GS} {h : jH}
theorem op_1 (Z : LC X w b L xs) (hi : i + 8 ≤ L) (hcs : nc + 1 ≤ 601024 ∧ ns + 6 ≤ 7293000) (H : LI sz G h) (N : LN X w b i sz (nc + 1) (ns + 6)) : JP X (va_P w.1 vwCl (jws w h)) (jAb w) nc ns 141 (lvL w b i) [] := by
  obtain ⟨C, hw, hR, hl9, hXk, hNK, hX, hbl, hbA, hnL, hL⟩ := Z
  obtain ⟨hKI, hRI, hLF⟩ := H
  have hAB := jA_b hw
  refine q_aload_n C dL_law_141 rfl ?_
  refine q_aload_n C dL_law_142 rfl ?_
  refine p_callH (As := [.ref (jad w 0), .ref (jad w 98)]) (r := []) C hAB hXk hNK nH_52 (v_Mod hw.ok hl9 hKI) rfl rfl (Nat.le_of_ble_eq_true rfl) ⟨by rw [hR]; decide, by rw [hR]; decide⟩ ⟨by rw [hR]; show _ ≤ 601024; omega, by rw [hR]; show _ ≤ 7293000; omega⟩ dL_law_143 ?_
  rintro v1 h1 ⟨rfl, K1, F1, hlong⟩
  refine q_istore C dL_law_146 (by rw [hnL]; decide) ?_
  refine q_aload_n C dL_law_148 rfl ?_
  refine p_callV (k := 70) (ci := 5) (As := []) (r := []) C hAB mL_55 (r_Mod hw.ok (RI_keep F1 hRI)) jCl5.1 (by decide) rfl rfl rfl (Nat.le_of_ble_eq_true rfl) ⟨by rw [hR]; decide, by rw [hR]; decide⟩ ⟨by rw [hR]; show _ ≤ 601024; omega, by rw [hR]; show _ ≤ 7293000; omega⟩ dL_law_149 ?_
  rintro v2 h2 ⟨rfl, hth, R2, F2⟩
  refine q_istore C dL_law_152 (by rw [hnL]; decide) ?_
  refine q_aload_n C dL_law_154 rfl ?_
  refine p_callV (k := 70) (ci := 5) (As := []) (r := []) C hAB mL_56 (r_thrown hw.ok) jCl5.1 (by decide) rfl rfl rfl (Nat.le_of_ble_eq_true rfl) ⟨by rw [hR]; decide, by rw [hR]; decide⟩ ⟨by rw [hR]; show _ ≤ 601024; omega, by rw [hR]; show _ ≤ 7293000; omega⟩ dL_law_155 ?_
  rintro v3 h3 ⟨rfl, rfl⟩
  refine q_iload C dL_law_158 rfl ?_
  refine p_icmp_eq C 165 dL_law_160 (by decide) (fun c160 => ?_) (fun c160 => ?_)
  · refine q_iload C dL_law_165 rfl ?_
    refine p_if_ne C 182 dL_law_167 (by decide) (fun c167 => ?_) (fun c167 => ?_)
    · refine p_goto C 565 dL_law_182 (by decide) ?_
      exact p_mono (show ∀ q ∈ lvL w b i, q ∈ lvL w b i ++ [(5, _), (6, _)] from fun q hq => List.mem_append_left _ hq) (N _ _ ⟨KI_rF K1 F2, R2, LF_mod hLF⟩)
    · refine q_aload_n C dL_law_170 rfl ?_
      refine p_iconst (v := 0) C dL_law_171 (by decide) ?_
      refine p_lald C rfl dL_law_172 ?_
      refine q_iload C dL_law_173 rfl ?_
      refine p_i2l C dL_law_175 rfl ?_
      rw [show h3.2.2 98 0 = (nI (gMod G).2.1).toInt64 by rw [F2.1]; exact hlong c167]
      refine p_lcmp0 C dL_law_176 ?_
      refine p_if_eq C 182 dL_law_177 (by decide) (fun c177 => ?_) (fun c177 => ?_)
      · refine p_goto C 565 dL_law_182 (by decide) ?_
        exact p_mono (show ∀ q ∈ lvL w b i, q ∈ lvL w b i ++ [(5, _), (6, _)] from fun q hq => List.mem_append_left _ hq) (N _ _ ⟨KI_rF K1 F2, R2, LF_mod hLF⟩)
      · exact absurd rfl c177 -- stop
  · exact absurd hth c160 -- stop
theorem op_4 (Z : LC X w b L xs) (hi : i + 8 ≤ L) (hcs : nc + 1 ≤ 601024 ∧ ns + 6 ≤ 7293000) (H : LI sz G h) (N : LN X w b i sz (nc + 1) (ns + 6)) : JP X (va_P w.1 vwCl (jws w h)) (jAb w) nc ns 234 (lvL w b i) [] := by
  obtain ⟨C, hw, hR, hl9, hXk, hNK, hX, hbl, hbA, hnL, hL⟩ := Z
  obtain ⟨hKI, hRI, hLF⟩ := H
  have hAB := jA_b hw
  refine q_aload_n C dL_law_234 rfl ?_
  refine q_aload_n C dL_law_235 rfl ?_
  refine p_callH (As := [.ref (jad w 0), .ref (jad w 98)]) (r := []) C hAB hXk hNK nH_67 (v_Link hw.ok hl9 hKI) rfl rfl (Nat.le_of_ble_eq_true rfl) ⟨by rw [hR]; decide, by rw [hR]; decide⟩ ⟨by rw [hR]; show _ ≤ 601024; omega, by rw [hR]; show _ ≤ 7293000; omega⟩ dL_law_236 ?_
  rintro v1 h1 ⟨rfl, K1, F1, hlong⟩
  refine q_istore C dL_law_239 (by rw [hnL]; decide) ?_
  refine q_aload_n C dL_law_241 rfl ?_
  refine p_callV (k := 70) (ci := 5) (As := []) (r := []) C hAB mL_69 (r_Link hw.ok (RI_keep F1 hRI)) jCl5.1 (by decide) rfl rfl rfl (Nat.le_of_ble_eq_true rfl) ⟨by rw [hR]; decide, by rw [hR]; decide⟩ ⟨by rw [hR]; show _ ≤ 601024; omega, by rw [hR]; show _ ≤ 7293000; omega⟩ dL_law_242 ?_
  rintro v2 h2 ⟨rfl, hth, R2, F2⟩
  refine q_istore C dL_law_245 (by rw [hnL]; decide) ?_
  refine q_aload_n C dL_law_247 rfl ?_
  refine p_callV (k := 70) (ci := 5) (As := []) (r := []) C hAB mL_56 (r_thrown hw.ok) jCl5.1 (by decide) rfl rfl rfl (Nat.le_of_ble_eq_true rfl) ⟨by rw [hR]; decide, by rw [hR]; decide⟩ ⟨by rw [hR]; show _ ≤ 601024; omega, by rw [hR]; show _ ≤ 7293000; omega⟩ dL_law_248 ?_
  rintro v3 h3 ⟨rfl, rfl⟩
  refine q_iload C dL_law_251 rfl ?_
  refine p_icmp_eq C 258 dL_law_253 (by decide) (fun c253 => ?_) (fun c253 => ?_)
  · refine q_iload C dL_law_258 rfl ?_
    refine p_if_ne C 275 dL_law_260 (by decide) (fun c260 => ?_) (fun c260 => ?_)
    · refine p_goto C 565 dL_law_275 (by decide) ?_
      exact p_mono (show ∀ q ∈ lvL w b i, q ∈ lvL w b i ++ [(5, _), (6, _)] from fun q hq => List.mem_append_left _ hq) (N _ _ ⟨KI_rF K1 F2, R2, LF_link hLF⟩)
    · refine q_aload_n C dL_law_263 rfl ?_
      refine p_iconst (v := 0) C dL_law_264 (by decide) ?_
      refine p_lald C rfl dL_law_265 ?_
      refine q_iload C dL_law_266 rfl ?_
      refine p_i2l C dL_law_268 rfl ?_
      rw [show h3.2.2 98 0 = (nI (gLink G).2.1).toInt64 by rw [F2.1]; exact hlong c260]
      refine p_lcmp0 C dL_law_269 ?_
      refine p_if_eq C 275 dL_law_270 (by decide) (fun c270 => ?_) (fun c270 => ?_)
      · refine p_goto C 565 dL_law_275 (by decide) ?_
        exact p_mono (show ∀ q ∈ lvL w b i, q ∈ lvL w b i ++ [(5, _), (6, _)] from fun q hq => List.mem_append_left _ hq) (N _ _ ⟨KI_rF K1 F2, R2, LF_link hLF⟩)
      · exact absurd rfl c270 -- stop
  · exact absurd hth c253 -- stop
theorem op_6 (Z : LC X w b L xs) (hi : i + 8 ≤ L) (hcs : nc + 1 ≤ 601024 ∧ ns + 6 ≤ 7293000) (H : LI sz G h) (N : LN X w b i sz (nc + 1) (ns + 6)) : JP X (va_P w.1 vwCl (jws w h)) (jAb w) nc ns 303 (lvL w b i) [] := by
  obtain ⟨C, hw, hR, hl9, hXk, hNK, hX, hbl, hbA, hnL, hL⟩ := Z
  obtain ⟨hKI, hRI, hLF⟩ := H
  have hAB := jA_b hw
  refine q_aload_n C dL_law_303 rfl ?_
  refine q_aload_n C dL_law_304 rfl ?_
  refine q_iload C dL_law_305 rfl ?_
  refine p_iconst (v := 1) C dL_law_307 (by decide) ?_
  refine p_iadd C dL_law_308 ?_
  refine p_sld (n := i + 1) C hX hbl hbA (nI_add i 1) (by omega) (by omega) dL_law_309 ?_
  refine q_aload_n C dL_law_310 rfl ?_
  refine q_iload C dL_law_311 rfl ?_
  refine p_iconst (v := 2) C dL_law_313 (by decide) ?_
  refine p_iadd C dL_law_314 ?_
  refine p_sld (n := i + 2) C hX hbl hbA (nI_add i 2) (by omega) (by omega) dL_law_315 ?_
  refine q_aload_n C dL_law_316 rfl ?_
  refine q_iload C dL_law_317 rfl ?_
  refine p_iconst (v := 3) C dL_law_319 (by decide) ?_
  refine p_iadd C dL_law_320 ?_
  refine p_sld (n := i + 3) C hX hbl hbA (nI_add i 3) (by omega) (by omega) dL_law_321 ?_
  refine q_aload_n C dL_law_322 rfl ?_
  refine p_callH (As := [.ref (jad w 0), .int (xs (i + 1)), .int (xs (i + 2)), .int (xs (i + 3)), .ref (jad w 98)]) (r := []) C hAB hXk hNK nH_75 (v_About hw.ok hl9 hKI (xs (i + 1)) (xs (i + 2)) (xs (i + 3))) rfl rfl (Nat.le_of_ble_eq_true rfl) ⟨by rw [hR]; decide, by rw [hR]; decide⟩ ⟨by rw [hR]; show _ ≤ 601024; omega, by rw [hR]; show _ ≤ 7293000; omega⟩ dL_law_323 ?_
  rintro v1 h1 ⟨rfl, K1, F1, hlong⟩
  refine q_istore C dL_law_326 (by rw [hnL]; decide) ?_
  refine q_aload_n C dL_law_328 rfl ?_
  refine q_aload_n C dL_law_329 rfl ?_
  refine q_iload C dL_law_330 rfl ?_
  refine p_iconst (v := 1) C dL_law_332 (by decide) ?_
  refine p_iadd C dL_law_333 ?_
  refine p_sld (n := i + 1) C hX hbl hbA (nI_add i 1) (by omega) (by omega) dL_law_334 ?_
  refine q_aload_n C dL_law_335 rfl ?_
  refine q_iload C dL_law_336 rfl ?_
  refine p_iconst (v := 2) C dL_law_338 (by decide) ?_
  refine p_iadd C dL_law_339 ?_
  refine p_sld (n := i + 2) C hX hbl hbA (nI_add i 2) (by omega) (by omega) dL_law_340 ?_
  refine q_aload_n C dL_law_341 rfl ?_
  refine q_iload C dL_law_342 rfl ?_
  refine p_iconst (v := 3) C dL_law_344 (by decide) ?_
  refine p_iadd C dL_law_345 ?_
  refine p_sld (n := i + 3) C hX hbl hbA (nI_add i 3) (by omega) (by omega) dL_law_346 ?_
  refine p_callV (k := 70) (ci := 5) (As := [.int (xs (i + 1)), .int (xs (i + 2)), .int (xs (i + 3))]) (r := []) C hAB mL_78 (r_About hw.ok (RI_keep F1 hRI) (xs (i + 1)) (xs (i + 2)) (xs (i + 3))) jCl5.1 (by decide) rfl rfl rfl (Nat.le_of_ble_eq_true rfl) ⟨by rw [hR]; decide, by rw [hR]; decide⟩ ⟨by rw [hR]; show _ ≤ 601024; omega, by rw [hR]; show _ ≤ 7293000; omega⟩ dL_law_347 ?_
  rintro v2 h2 ⟨rfl, hth, R2, F2⟩
  refine q_istore C dL_law_350 (by rw [hnL]; decide) ?_
  refine q_aload_n C dL_law_352 rfl ?_
  refine p_callV (k := 70) (ci := 5) (As := []) (r := []) C hAB mL_56 (r_thrown hw.ok) jCl5.1 (by decide) rfl rfl rfl (Nat.le_of_ble_eq_true rfl) ⟨by rw [hR]; decide, by rw [hR]; decide⟩ ⟨by rw [hR]; show _ ≤ 601024; omega, by rw [hR]; show _ ≤ 7293000; omega⟩ dL_law_353 ?_
  rintro v3 h3 ⟨rfl, rfl⟩
  refine q_iload C dL_law_356 rfl ?_
  refine p_icmp_eq C 363 dL_law_358 (by decide) (fun c358 => ?_) (fun c358 => ?_)
  · refine q_iload C dL_law_363 rfl ?_
    refine p_if_ne C 380 dL_law_365 (by decide) (fun c365 => ?_) (fun c365 => ?_)
    · refine p_goto C 565 dL_law_380 (by decide) ?_
      exact p_mono (show ∀ q ∈ lvL w b i, q ∈ lvL w b i ++ [(5, _), (6, _)] from fun q hq => List.mem_append_left _ hq) (N _ _ ⟨KI_rF K1 F2, R2, hLF⟩)
    · refine q_aload_n C dL_law_368 rfl ?_
      refine p_iconst (v := 0) C dL_law_369 (by decide) ?_
      refine p_lald C rfl dL_law_370 ?_
      refine q_iload C dL_law_371 rfl ?_
      refine p_i2l C dL_law_373 rfl ?_
      rw [show h3.2.2 98 0 = (nI (gAbout G (xs (i + 1)) (xs (i + 2)) (xs (i + 3))).2).toInt64 by rw [F2.1]; exact hlong c365]
      refine p_lcmp0 C dL_law_374 ?_
      refine p_if_eq C 380 dL_law_375 (by decide) (fun c375 => ?_) (fun c375 => ?_)
      · refine p_goto C 565 dL_law_380 (by decide) ?_
        exact p_mono (show ∀ q ∈ lvL w b i, q ∈ lvL w b i ++ [(5, _), (6, _)] from fun q hq => List.mem_append_left _ hq) (N _ _ ⟨KI_rF K1 F2, R2, hLF⟩)
      · exact absurd rfl c375 -- stop
  · exact absurd hth c358 -- stop
theorem op_7 (Z : LC X w b L xs) (hi : i + 8 ≤ L) (hcs : nc + 1 ≤ 601024 ∧ ns + 6 ≤ 7293000) (H : LI sz G h) (N : LN X w b i sz (nc + 1) (ns + 6)) : JP X (va_P w.1 vwCl (jws w h)) (jAb w) nc ns 383 (lvL w b i) [] := by
  obtain ⟨C, hw, hR, hl9, hXk, hNK, hX, hbl, hbA, hnL, hL⟩ := Z
  obtain ⟨hKI, hRI, hLF⟩ := H
  have hAB := jA_b hw
  have hlk : G.2.2.1.1 = true → lnk G.2.1.1 G.2.1.2 := by obtain ⟨_, _, _, _, _, e⟩ := hKI; exact e
  refine q_aload_n C dL_law_383 rfl ?_
  refine q_aload_n C dL_law_384 rfl ?_
  refine q_iload C dL_law_385 rfl ?_
  refine p_iconst (v := 1) C dL_law_387 (by decide) ?_
  refine p_iadd C dL_law_388 ?_
  refine p_sld (n := i + 1) C hX hbl hbA (nI_add i 1) (by omega) (by omega) dL_law_389 ?_
  refine q_aload_n C dL_law_390 rfl ?_
  refine q_iload C dL_law_391 rfl ?_
  refine p_iconst (v := 2) C dL_law_393 (by decide) ?_
  refine p_iadd C dL_law_394 ?_
  refine p_sld (n := i + 2) C hX hbl hbA (nI_add i 2) (by omega) (by omega) dL_law_395 ?_
  refine q_aload_n C dL_law_396 rfl ?_
  refine q_iload C dL_law_397 rfl ?_
  refine p_iconst (v := 3) C dL_law_399 (by decide) ?_
  refine p_iadd C dL_law_400 ?_
  refine p_sld (n := i + 3) C hX hbl hbA (nI_add i 3) (by omega) (by omega) dL_law_401 ?_
  refine q_aload_n C dL_law_402 rfl ?_
  refine q_iload C dL_law_403 rfl ?_
  refine p_iconst (v := 4) C dL_law_405 (by decide) ?_
  refine p_iadd C dL_law_406 ?_
  refine p_sld (n := i + 4) C hX hbl hbA (nI_add i 4) (by omega) (by omega) dL_law_407 ?_
  refine q_aload_n C dL_law_408 rfl ?_
  refine q_iload C dL_law_409 rfl ?_
  refine p_iconst (v := 5) C dL_law_411 (by decide) ?_
  refine p_iadd C dL_law_412 ?_
  refine p_sld (n := i + 5) C hX hbl hbA (nI_add i 5) (by omega) (by omega) dL_law_413 ?_
  refine q_aload_n C dL_law_414 rfl ?_
  refine q_iload C dL_law_415 rfl ?_
  refine p_bipush (v := 6) C dL_law_417 (by decide) ?_
  refine p_iadd C dL_law_419 ?_
  refine p_sld (n := i + 6) C hX hbl hbA (nI_add i 6) (by omega) (by omega) dL_law_420 ?_
  refine q_aload_n C dL_law_421 rfl ?_
  refine q_iload C dL_law_422 rfl ?_
  refine p_bipush (v := 7) C dL_law_424 (by decide) ?_
  refine p_iadd C dL_law_426 ?_
  refine p_sld (n := i + 7) C hX hbl hbA (nI_add i 7) (by omega) (by omega) dL_law_427 ?_
  refine q_aload_n C dL_law_428 rfl ?_
  refine p_callH (As := [.ref (jad w 0), .int (xs (i + 1)), .int (xs (i + 2)), .int (xs (i + 3)), .int (xs (i + 4)), .int (xs (i + 5)), .int (xs (i + 6)), .int (xs (i + 7)), .ref (jad w 98)]) (r := []) C hAB hXk hNK nH_79 (v_Call hw.ok hl9 hKI (xs (i + 1)) (xs (i + 2)) (xs (i + 3)) (xs (i + 4)) (xs (i + 5)) (xs (i + 6)) (xs (i + 7))) rfl rfl (Nat.le_of_ble_eq_true rfl) ⟨by rw [hR]; decide, by rw [hR]; decide⟩ ⟨by rw [hR]; show _ ≤ 601024; omega, by rw [hR]; show _ ≤ 7293000; omega⟩ dL_law_429 ?_
  rintro v1 h1 ⟨rfl, K1, F1, hlong⟩
  refine q_istore C dL_law_432 (by rw [hnL]; decide) ?_
  refine q_aload_n C dL_law_434 rfl ?_
  refine q_aload_n C dL_law_435 rfl ?_
  refine q_iload C dL_law_436 rfl ?_
  refine p_iconst (v := 1) C dL_law_438 (by decide) ?_
  refine p_iadd C dL_law_439 ?_
  refine p_sld (n := i + 1) C hX hbl hbA (nI_add i 1) (by omega) (by omega) dL_law_440 ?_
  refine q_aload_n C dL_law_441 rfl ?_
  refine q_iload C dL_law_442 rfl ?_
  refine p_iconst (v := 2) C dL_law_444 (by decide) ?_
  refine p_iadd C dL_law_445 ?_
  refine p_sld (n := i + 2) C hX hbl hbA (nI_add i 2) (by omega) (by omega) dL_law_446 ?_
  refine q_aload_n C dL_law_447 rfl ?_
  refine q_iload C dL_law_448 rfl ?_
  refine p_iconst (v := 3) C dL_law_450 (by decide) ?_
  refine p_iadd C dL_law_451 ?_
  refine p_sld (n := i + 3) C hX hbl hbA (nI_add i 3) (by omega) (by omega) dL_law_452 ?_
  refine q_aload_n C dL_law_453 rfl ?_
  refine q_iload C dL_law_454 rfl ?_
  refine p_iconst (v := 4) C dL_law_456 (by decide) ?_
  refine p_iadd C dL_law_457 ?_
  refine p_sld (n := i + 4) C hX hbl hbA (nI_add i 4) (by omega) (by omega) dL_law_458 ?_
  refine q_aload_n C dL_law_459 rfl ?_
  refine q_iload C dL_law_460 rfl ?_
  refine p_iconst (v := 5) C dL_law_462 (by decide) ?_
  refine p_iadd C dL_law_463 ?_
  refine p_sld (n := i + 5) C hX hbl hbA (nI_add i 5) (by omega) (by omega) dL_law_464 ?_
  refine q_aload_n C dL_law_465 rfl ?_
  refine q_iload C dL_law_466 rfl ?_
  refine p_bipush (v := 6) C dL_law_468 (by decide) ?_
  refine p_iadd C dL_law_470 ?_
  refine p_sld (n := i + 6) C hX hbl hbA (nI_add i 6) (by omega) (by omega) dL_law_471 ?_
  refine q_aload_n C dL_law_472 rfl ?_
  refine q_iload C dL_law_473 rfl ?_
  refine p_bipush (v := 7) C dL_law_475 (by decide) ?_
  refine p_iadd C dL_law_477 ?_
  refine p_sld (n := i + 7) C hX hbl hbA (nI_add i 7) (by omega) (by omega) dL_law_478 ?_
  refine p_callV (k := 70) (ci := 5) (As := [.int (xs (i + 1)), .int (xs (i + 2)), .int (xs (i + 3)), .int (xs (i + 4)), .int (xs (i + 5)), .int (xs (i + 6)), .int (xs (i + 7))]) (r := []) C hAB mL_82 (r_Call hw.ok (RI_keep F1 hRI) hlk hLF (xs (i + 1)) (xs (i + 2)) (xs (i + 3)) (xs (i + 4)) (xs (i + 5)) (xs (i + 6)) (xs (i + 7))) jCl5.1 (by decide) rfl rfl rfl (Nat.le_of_ble_eq_true rfl) ⟨by rw [hR]; decide, by rw [hR]; decide⟩ ⟨by rw [hR]; show _ ≤ 601024; omega, by rw [hR]; show _ ≤ 7293000; omega⟩ dL_law_479 ?_
  rintro v2 h2 ⟨rfl, hth, R2, F2⟩
  refine q_istore C dL_law_482 (by rw [hnL]; decide) ?_
  refine q_aload_n C dL_law_484 rfl ?_
  refine p_callV (k := 70) (ci := 5) (As := []) (r := []) C hAB mL_56 (r_thrown hw.ok) jCl5.1 (by decide) rfl rfl rfl (Nat.le_of_ble_eq_true rfl) ⟨by rw [hR]; decide, by rw [hR]; decide⟩ ⟨by rw [hR]; show _ ≤ 601024; omega, by rw [hR]; show _ ≤ 7293000; omega⟩ dL_law_485 ?_
  rintro v3 h3 ⟨rfl, rfl⟩
  refine q_iload C dL_law_488 rfl ?_
  refine p_icmp_eq C 495 dL_law_490 (by decide) (fun c490 => ?_) (fun c490 => ?_)
  · refine q_iload C dL_law_495 rfl ?_
    refine p_if_ne C 512 dL_law_497 (by decide) (fun c497 => ?_) (fun c497 => ?_)
    · refine p_goto C 565 dL_law_512 (by decide) ?_
      exact p_mono (show ∀ q ∈ lvL w b i, q ∈ lvL w b i ++ [(5, _), (6, _)] from fun q hq => List.mem_append_left _ hq) (N _ _ ⟨KI_rF K1 F2, R2, LF_call hLF sz _ _ _ _ _ _ _⟩)
    · refine q_aload_n C dL_law_500 rfl ?_
      refine p_iconst (v := 0) C dL_law_501 (by decide) ?_
      refine p_lald C rfl dL_law_502 ?_
      refine q_iload C dL_law_503 rfl ?_
      refine p_i2l C dL_law_505 rfl ?_
      rw [show h3.2.2 98 0 = (nI (gCall sz G (xs (i + 1)) (xs (i + 2)) (xs (i + 3)) (xs (i + 4)) (xs (i + 5)) (xs (i + 6)) (xs (i + 7))).2.1).toInt64 by rw [F2.1]; exact hlong c497]
      refine p_lcmp0 C dL_law_506 ?_
      refine p_if_eq C 512 dL_law_507 (by decide) (fun c507 => ?_) (fun c507 => ?_)
      · refine p_goto C 565 dL_law_512 (by decide) ?_
        exact p_mono (show ∀ q ∈ lvL w b i, q ∈ lvL w b i ++ [(5, _), (6, _)] from fun q hq => List.mem_append_left _ hq) (N _ _ ⟨KI_rF K1 F2, R2, LF_call hLF sz _ _ _ _ _ _ _⟩)
      · exact absurd rfl c507 -- stop
  · exact absurd hth c490 -- stop
theorem op_3 (Z : LC X w b L xs) (hi : i + 8 ≤ L) (hcs : nc + 1 ≤ 601024 ∧ ns + 6 ≤ 7293000) (H : LI sz G h) (N : LN X w b i sz (nc + 1) (ns + 6)) : JP X (va_P w.1 vwCl (jws w h)) (jAb w) nc ns 198 (lvL w b i) [] := by
  obtain ⟨C, hw, hR, hl9, hXk, hNK, hX, hbl, hbA, hnL, hL⟩ := Z
  obtain ⟨hKI, hRI, hLF⟩ := H
  have hAB := jA_b hw
  refine q_aload_n C dL_law_198 rfl ?_
  refine q_aload_n C dL_law_199 rfl ?_
  refine q_iload C dL_law_200 rfl ?_
  refine p_iconst (v := 1) C dL_law_202 (by decide) ?_
  refine p_iadd C dL_law_203 ?_
  refine p_sld (n := i + 1) C hX hbl hbA (nI_add i 1) (by omega) (by omega) dL_law_204 ?_
  refine p_callH (As := [.ref (jad w 0), .int (xs (i + 1))]) (r := []) C hAB hXk hNK nH_63 (v_Drop hw.ok hl9 hKI (xs (i + 1))) rfl rfl (Nat.le_of_ble_eq_true rfl) ⟨by rw [hR]; decide, by rw [hR]; decide⟩ ⟨by rw [hR]; show _ ≤ 601024; omega, by rw [hR]; show _ ≤ 7293000; omega⟩ dL_law_205 ?_
  rintro v1 h1 ⟨rfl, K1, F1⟩
  refine q_istore C dL_law_208 (by rw [hnL]; decide) ?_
  refine q_aload_n C dL_law_210 rfl ?_
  refine q_aload_n C dL_law_211 rfl ?_
  refine q_iload C dL_law_212 rfl ?_
  refine p_iconst (v := 1) C dL_law_214 (by decide) ?_
  refine p_iadd C dL_law_215 ?_
  refine p_sld (n := i + 1) C hX hbl hbA (nI_add i 1) (by omega) (by omega) dL_law_216 ?_
  refine p_callV (k := 70) (ci := 5) (As := [.int (xs (i + 1))]) (r := []) C hAB mL_66 (r_Drop hw.ok (RI_keep F1 hRI) (xs (i + 1))) jCl5.1 (by decide) rfl rfl rfl (Nat.le_of_ble_eq_true rfl) ⟨by rw [hR]; decide, by rw [hR]; decide⟩ ⟨by rw [hR]; show _ ≤ 601024; omega, by rw [hR]; show _ ≤ 7293000; omega⟩ dL_law_217 ?_
  rintro v2 h2 ⟨rfl, hth, R2, F2⟩
  refine q_aload_n C dL_law_220 rfl ?_
  refine p_callV (k := 70) (ci := 5) (As := []) (r := []) C hAB mL_56 (r_thrown hw.ok) jCl5.1 (by decide) rfl rfl rfl (Nat.le_of_ble_eq_true rfl) ⟨by rw [hR]; decide, by rw [hR]; decide⟩ ⟨by rw [hR]; show _ ≤ 601024; omega, by rw [hR]; show _ ≤ 7293000; omega⟩ dL_law_221 ?_
  rintro v3 h3 ⟨rfl, rfl⟩
  refine q_iload C dL_law_224 rfl ?_
  refine p_icmp_eq C 231 dL_law_226 (by decide) (fun c226 => ?_) (fun c226 => ?_)
  · refine p_goto C 565 dL_law_231 (by decide) ?_
    exact p_mono (show ∀ q ∈ lvL w b i, q ∈ lvL w b i ++ [(5, _)] from fun q hq => List.mem_append_left _ hq) (N _ _ ⟨KI_rF K1 F2, R2, LF_drop hLF _⟩)
  · exact absurd hth c226 -- stop
end OP
