/-! THE LAW: one call of a script -/
def LF (G : GS) : Prop := G.2.2.1.1 = true → fitA G.2.1.1 G.2.1.2
theorem LF_put {G : GS} (H : LF G) (x y : Int32) : LF (gPut G x y).2 := by
  unfold gPut
  split
  · exact H
  · exact H
theorem LF_mod {G : GS} (H : LF G) : LF (gMod G).2.2 := by
  unfold gMod
  split
  · exact H
  · exact H
  · intro h; cases h
theorem LF_drop {G : GS} (H : LF G) (m : Int32) : LF (gDrop G m).2 := by
  unfold gDrop
  split
  · exact H
  · intro h; cases h
theorem LF_link {G : GS} (H : LF G) : LF (gLink G).2.2 := by
  unfold gLink
  split
  · exact H
  · split
    · next e => exact fun _ => fit_of e
    · intro h; cases h
theorem LF_call {G : GS} (H : LF G) (sz : Nat) (m f a b c d fu : Int32) : LF (gCall sz G m f a b c d fu).2.2 := by
  unfold gCall
  split
  · exact H
  · split
    · exact H
    · split
      · exact H
      · split
        · exact H
        · exact H
def LC (X : jX) (w : jW) (b L : Nat) (xs : Nat → Int32) : Prop := jC X w cL_law RL ∧ jlin w ∧ jXR X = room_1 ∧ (jXl X).stackTraces = false ∧ jXA (jAb w) (jXs X) ∧ jNK (jXs X) ∧ va_X b L xs (jXs X) (jXs X).heap ∧ b < (jXs X).heap.size ∧ ¬ jAb w b ∧ (jXc X).maxLocals = 7 ∧ L ≤ 4097
def LI (sz : Nat) (G : GS) (h : jH) : Prop := KI sz G h ∧ RI sz G h ∧ LF G
abbrev lvL (w : jW) (b i : Nat) : List (Nat × Value) := [(0, .ref b), (1, .ref (jad w 0)), (2, .ref (jad w 70)), (3, .ref (jad w 98)), (4, .int (nI i))]
def LN (X : jX) (w : jW) (b i sz nc ns : Nat) : Prop := ∀ G' h', LI sz G' h' → JP X (va_P w.1 vwCl (jws w h')) (jAb w) nc ns 565 (lvL w b i) []
theorem KI_rF {sz : Nat} {G : GS} {h h' : jH} (K : KI sz G h) (F : rF h h') : KI sz G h' := KI_keep F.2 (by rw [F.1]) K
theorem nH_52 : jCH RL 52 yL_module cL_module 3 [(0, 8, 11, 13)] 2 := ⟨by decide, by decide, by decide +kernel, (rin_5 _ (List.mem_of_getElem? (i := 21) rfl)), (rin_1 _ (List.mem_of_getElem? (i := 9) rfl)), (rin_5 _ (List.mem_of_getElem? (i := 19) rfl)), (rin_5 _ (List.mem_of_getElem? (i := 20) rfl))⟩
theorem nH_63 : jCH RL 63 yL_drop cL_drop 3 [(0, 5, 8, 19)] 2 := ⟨by decide, by decide, by decide +kernel, (rin_18 _ (List.mem_of_getElem? (i := 4) rfl)), (rin_1 _ (List.mem_of_getElem? (i := 9) rfl)), (rin_18 _ (List.mem_of_getElem? (i := 2) rfl)), (rin_18 _ (List.mem_of_getElem? (i := 3) rfl))⟩
theorem nH_67 : jCH RL 67 yL_link cL_link 3 [(0, 8, 11, 24), (0, 8, 14, 26)] 2 := ⟨by decide, by decide, by decide +kernel, (rin_19 _ (List.mem_of_getElem? (i := 2) rfl)), (rin_1 _ (List.mem_of_getElem? (i := 9) rfl)), (rin_19 _ (List.mem_of_getElem? (i := 0) rfl)), (rin_19 _ (List.mem_of_getElem? (i := 1) rfl))⟩
theorem nH_75 : jCH RL 75 yL_about cL_about 6 [(0, 12, 15, 19)] 5 := ⟨by decide, by decide, by decide +kernel, (rin_21 _ (List.mem_of_getElem? (i := 10) rfl)), (rin_1 _ (List.mem_of_getElem? (i := 9) rfl)), (rin_21 _ (List.mem_of_getElem? (i := 8) rfl)), (rin_21 _ (List.mem_of_getElem? (i := 9) rfl))⟩
theorem nH_79 : jCH RL 79 yL_call cL_call 10 [(0, 20, 23, 24), (0, 20, 27, 19), (0, 20, 31, 13)] 9 := ⟨by decide, by decide, by decide +kernel, (rin_22 _ (List.mem_of_getElem? (i := 1) rfl)), (rin_1 _ (List.mem_of_getElem? (i := 9) rfl)), (rin_21 _ (List.mem_of_getElem? (i := 23) rfl)), (rin_22 _ (List.mem_of_getElem? (i := 0) rfl))⟩
section OP
variable {X : jX} {w : jW} {b L i sz nc ns : Nat} {xs : Nat → Int32} {G : GS} {h : jH}
theorem op_0 (Z : LC X w b L xs) (hi : i + 8 ≤ L) (hcs : nc + 1 ≤ 601024 ∧ ns + 6 ≤ 7293000) (H : LI sz G h) (N : LN X w b i sz (nc + 1) (ns + 6)) : JP X (va_P w.1 vwCl (jws w h)) (jAb w) nc ns 104 (lvL w b i) [] := by
  obtain ⟨C, hw, hR, hl9, hXk, hNK, hX, hbl, hbA, hnL, hL⟩ := Z
  obtain ⟨hKI, hRI, hLF⟩ := H
  have hAB := jA_b hw
  refine q_aload_n C dL_law_104 rfl ?_
  refine q_aload_n C dL_law_105 rfl ?_
  refine q_iload C dL_law_106 rfl ?_
  refine p_iconst (v := 1) C dL_law_108 (by decide) ?_
  refine p_iadd C dL_law_109 ?_
  refine p_sld (n := i + 1) C hX hbl hbA (nI_add i 1) (by omega) (by omega) dL_law_110 ?_
  refine q_aload_n C dL_law_111 rfl ?_
  refine q_iload C dL_law_112 rfl ?_
  refine p_iconst (v := 2) C dL_law_114 (by decide) ?_
  refine p_iadd C dL_law_115 ?_
  refine p_sld (n := i + 2) C hX hbl hbA (nI_add i 2) (by omega) (by omega) dL_law_116 ?_
  refine p_callV (k := 0) (ci := 4) (As := [.int (xs (i + 1)), .int (xs (i + 2))]) (r := []) C hAB mL_47 (c_Put hw.ok hKI (xs (i + 1)) (xs (i + 2))) jCl4.1 (by decide) rfl rfl rfl (Nat.le_of_ble_eq_true rfl) ⟨by rw [hR]; decide, by rw [hR]; decide⟩ ⟨by rw [hR]; show _ ≤ 601024; omega, by rw [hR]; show _ ≤ 7293000; omega⟩ dL_law_117 ?_
  rintro v1 h1 ⟨rfl, K1, F1⟩
  refine q_aload_n C dL_law_120 rfl ?_
  refine q_aload_n C dL_law_121 rfl ?_
  refine q_iload C dL_law_122 rfl ?_
  refine p_iconst (v := 1) C dL_law_124 (by decide) ?_
  refine p_iadd C dL_law_125 ?_
  refine p_sld (n := i + 1) C hX hbl hbA (nI_add i 1) (by omega) (by omega) dL_law_126 ?_
  refine q_aload_n C dL_law_127 rfl ?_
  refine q_iload C dL_law_128 rfl ?_
  refine p_iconst (v := 2) C dL_law_130 (by decide) ?_
  refine p_iadd C dL_law_131 ?_
  refine p_sld (n := i + 2) C hX hbl hbA (nI_add i 2) (by omega) (by omega) dL_law_132 ?_
  refine p_callV (k := 70) (ci := 5) (As := [.int (xs (i + 1)), .int (xs (i + 2))]) (r := [.int (if (gPut G (xs (i + 1)) (xs (i + 2))).1 then 1 else 0)]) C hAB mL_51 (r_Put hw.ok (RI_keep F1.two hRI) (xs (i + 1)) (xs (i + 2))) jCl5.1 (by decide) rfl rfl rfl (Nat.le_of_ble_eq_true rfl) ⟨by rw [hR]; decide, by rw [hR]; decide⟩ ⟨by rw [hR]; show _ ≤ 601024; omega, by rw [hR]; show _ ≤ 7293000; omega⟩ dL_law_133 ?_
  rintro v2 h2 ⟨rfl, -, R2, F2⟩
  refine p_icmp_eq C 565 dL_law_136 (by decide) (fun c136 => ?_) (fun c136 => ?_)
  · exact p_widen (by omega) (by omega) (N _ _ ⟨KI_rF K1 F2, R2, LF_put hLF _ _⟩)
  · exact absurd rfl c136 -- stop
theorem op_2 (Z : LC X w b L xs) (hi : i + 8 ≤ L) (hcs : nc + 1 ≤ 601024 ∧ ns + 6 ≤ 7293000) (H : LI sz G h) (N : LN X w b i sz (nc + 1) (ns + 6)) : JP X (va_P w.1 vwCl (jws w h)) (jAb w) nc ns 185 (lvL w b i) [] := by
  obtain ⟨C, hw, hR, hl9, hXk, hNK, hX, hbl, hbA, hnL, hL⟩ := Z
  obtain ⟨hKI, hRI, hLF⟩ := H
  have hAB := jA_b hw
  refine q_aload_n C dL_law_185 rfl ?_
  refine p_callV (k := 0) (ci := 4) (As := []) (r := []) C hAB mL_59 (c_Fault hw.ok hKI) jCl4.1 (by decide) rfl rfl rfl (Nat.le_of_ble_eq_true rfl) ⟨by rw [hR]; decide, by rw [hR]; decide⟩ ⟨by rw [hR]; show _ ≤ 601024; omega, by rw [hR]; show _ ≤ 7293000; omega⟩ dL_law_186 ?_
  rintro v1 h1 ⟨rfl, rfl⟩
  refine q_aload_n C dL_law_189 rfl ?_
  refine p_callV (k := 70) (ci := 5) (As := []) (r := [.int (nI G.2.2.1.2.1)]) C hAB mL_62 (r_Fault hw.ok hRI) jCl5.1 (by decide) rfl rfl rfl (Nat.le_of_ble_eq_true rfl) ⟨by rw [hR]; decide, by rw [hR]; decide⟩ ⟨by rw [hR]; show _ ≤ 601024; omega, by rw [hR]; show _ ≤ 7293000; omega⟩ dL_law_190 ?_
  rintro v2 h2 ⟨rfl, R2, F2⟩
  refine p_icmp_eq C 565 dL_law_193 (by decide) (fun c193 => ?_) (fun c193 => ?_)
  · exact p_widen (by omega) (by omega) (N _ _ ⟨KI_rF hKI F2, R2, hLF⟩)
  · exact absurd rfl c193 -- stop
theorem op_5 (Z : LC X w b L xs) (hi : i + 8 ≤ L) (hcs : nc + 1 ≤ 601024 ∧ ns + 6 ≤ 7293000) (H : LI sz G h) (N : LN X w b i sz (nc + 1) (ns + 6)) : JP X (va_P w.1 vwCl (jws w h)) (jAb w) nc ns 278 (lvL w b i) [] := by
  obtain ⟨C, hw, hR, hl9, hXk, hNK, hX, hbl, hbA, hnL, hL⟩ := Z
  obtain ⟨hKI, hRI, hLF⟩ := H
  have hAB := jA_b hw
  refine q_aload_n C dL_law_278 rfl ?_
  refine q_aload_n C dL_law_279 rfl ?_
  refine q_iload C dL_law_280 rfl ?_
  refine p_iconst (v := 1) C dL_law_282 (by decide) ?_
  refine p_iadd C dL_law_283 ?_
  refine p_sld (n := i + 1) C hX hbl hbA (nI_add i 1) (by omega) (by omega) dL_law_284 ?_
  refine p_callV (k := 0) (ci := 4) (As := [.int (xs (i + 1))]) (r := []) C hAB mL_70 (c_Unfit hw.ok hKI (xs (i + 1))) jCl4.1 (by decide) rfl rfl rfl (Nat.le_of_ble_eq_true rfl) ⟨by rw [hR]; decide, by rw [hR]; decide⟩ ⟨by rw [hR]; show _ ≤ 601024; omega, by rw [hR]; show _ ≤ 7293000; omega⟩ dL_law_285 ?_
  rintro v1 h1 ⟨rfl, rfl⟩
  refine q_aload_n C dL_law_288 rfl ?_
  refine q_aload_n C dL_law_289 rfl ?_
  refine q_iload C dL_law_290 rfl ?_
  refine p_iconst (v := 1) C dL_law_292 (by decide) ?_
  refine p_iadd C dL_law_293 ?_
  refine p_sld (n := i + 1) C hX hbl hbA (nI_add i 1) (by omega) (by omega) dL_law_294 ?_
  refine p_callV (k := 70) (ci := 5) (As := [.int (xs (i + 1))]) (r := [.int (gUnfit G (xs (i + 1)))]) C hAB mL_74 (r_Unfit hw.ok hRI (xs (i + 1))) jCl5.1 (by decide) rfl rfl rfl (Nat.le_of_ble_eq_true rfl) ⟨by rw [hR]; decide, by rw [hR]; decide⟩ ⟨by rw [hR]; show _ ≤ 601024; omega, by rw [hR]; show _ ≤ 7293000; omega⟩ dL_law_295 ?_
  rintro v2 h2 ⟨rfl, R2, F2⟩
  refine p_icmp_eq C 565 dL_law_298 (by decide) (fun c298 => ?_) (fun c298 => ?_)
  · exact p_widen (by omega) (by omega) (N _ _ ⟨KI_rF hKI F2, R2, hLF⟩)
  · exact absurd rfl c298 -- stop
theorem op_8 (Z : LC X w b L xs) (hi : i + 8 ≤ L) (hcs : nc + 1 ≤ 601024 ∧ ns + 6 ≤ 7293000) (H : LI sz G h) (N : LN X w b i sz (nc + 1) (ns + 6)) : JP X (va_P w.1 vwCl (jws w h)) (jAb w) nc ns 515 (lvL w b i) [] := by
  obtain ⟨C, hw, hR, hl9, hXk, hNK, hX, hbl, hbA, hnL, hL⟩ := Z
  obtain ⟨hKI, hRI, hLF⟩ := H
  have hAB := jA_b hw
  refine q_aload_n C dL_law_515 rfl ?_
  refine q_aload_n C dL_law_516 rfl ?_
  refine q_iload C dL_law_517 rfl ?_
  refine p_iconst (v := 1) C dL_law_519 (by decide) ?_
  refine p_iadd C dL_law_520 ?_
  refine p_sld (n := i + 1) C hX hbl hbA (nI_add i 1) (by omega) (by omega) dL_law_521 ?_
  refine p_callV (k := 0) (ci := 4) (As := [.int (xs (i + 1))]) (r := []) C hAB mL_83 (c_Res hw.ok hKI (xs (i + 1))) jCl4.1 (by decide) rfl rfl rfl (Nat.le_of_ble_eq_true rfl) ⟨by rw [hR]; decide, by rw [hR]; decide⟩ ⟨by rw [hR]; show _ ≤ 601024; omega, by rw [hR]; show _ ≤ 7293000; omega⟩ dL_law_522 ?_
  rintro v1 h1 ⟨rfl, rfl⟩
  refine q_aload_n C dL_law_525 rfl ?_
  refine q_aload_n C dL_law_526 rfl ?_
  refine q_iload C dL_law_527 rfl ?_
  refine p_iconst (v := 1) C dL_law_529 (by decide) ?_
  refine p_iadd C dL_law_530 ?_
  refine p_sld (n := i + 1) C hX hbl hbA (nI_add i 1) (by omega) (by omega) dL_law_531 ?_
  refine p_callV (k := 70) (ci := 5) (As := [.int (xs (i + 1))]) (r := [.int (gRes G (xs (i + 1)))]) C hAB mL_86 (r_Res hw.ok hRI (xs (i + 1))) jCl5.1 (by decide) rfl rfl rfl (Nat.le_of_ble_eq_true rfl) ⟨by rw [hR]; decide, by rw [hR]; decide⟩ ⟨by rw [hR]; show _ ≤ 601024; omega, by rw [hR]; show _ ≤ 7293000; omega⟩ dL_law_532 ?_
  rintro v2 h2 ⟨rfl, R2, F2⟩
  refine p_icmp_eq C 565 dL_law_535 (by decide) (fun c535 => ?_) (fun c535 => ?_)
  · exact p_widen (by omega) (by omega) (N _ _ ⟨KI_rF hKI F2, R2, hLF⟩)
  · exact absurd rfl c535 -- stop
theorem op_9 (Z : LC X w b L xs) (hi : i + 8 ≤ L) (hcs : nc + 1 ≤ 601024 ∧ ns + 6 ≤ 7293000) (H : LI sz G h) (N : LN X w b i sz (nc + 1) (ns + 6)) : JP X (va_P w.1 vwCl (jws w h)) (jAb w) nc ns 540 (lvL w b i) [] := by
  obtain ⟨C, hw, hR, hl9, hXk, hNK, hX, hbl, hbA, hnL, hL⟩ := Z
  obtain ⟨hKI, hRI, hLF⟩ := H
  have hAB := jA_b hw
  refine q_aload_n C dL_law_540 rfl ?_
  refine q_aload_n C dL_law_541 rfl ?_
  refine q_iload C dL_law_542 rfl ?_
  refine p_iconst (v := 1) C dL_law_544 (by decide) ?_
  refine p_iadd C dL_law_545 ?_
  refine p_sld (n := i + 1) C hX hbl hbA (nI_add i 1) (by omega) (by omega) dL_law_546 ?_
  refine p_callV (k := 0) (ci := 4) (As := [.int (xs (i + 1))]) (r := []) C hAB mL_87 (c_Took hw.ok hKI (xs (i + 1))) jCl4.1 (by decide) rfl rfl rfl (Nat.le_of_ble_eq_true rfl) ⟨by rw [hR]; decide, by rw [hR]; decide⟩ ⟨by rw [hR]; show _ ≤ 601024; omega, by rw [hR]; show _ ≤ 7293000; omega⟩ dL_law_547 ?_
  rintro v1 h1 ⟨rfl, rfl⟩
  refine q_aload_n C dL_law_550 rfl ?_
  refine q_aload_n C dL_law_551 rfl ?_
  refine q_iload C dL_law_552 rfl ?_
  refine p_iconst (v := 1) C dL_law_554 (by decide) ?_
  refine p_iadd C dL_law_555 ?_
  refine p_sld (n := i + 1) C hX hbl hbA (nI_add i 1) (by omega) (by omega) dL_law_556 ?_
  refine p_callV (k := 70) (ci := 5) (As := [.int (xs (i + 1))]) (r := [.int (gTook G (xs (i + 1)))]) C hAB mL_90 (r_Took hw.ok hRI (xs (i + 1))) jCl5.1 (by decide) rfl rfl rfl (Nat.le_of_ble_eq_true rfl) ⟨by rw [hR]; decide, by rw [hR]; decide⟩ ⟨by rw [hR]; show _ ≤ 601024; omega, by rw [hR]; show _ ≤ 7293000; omega⟩ dL_law_557 ?_
  rintro v2 h2 ⟨rfl, R2, F2⟩
  refine p_icmp_eq C 565 dL_law_560 (by decide) (fun c560 => ?_) (fun c560 => ?_)
  · exact p_widen (by omega) (by omega) (N _ _ ⟨KI_rF hKI F2, R2, hLF⟩)
  · exact absurd rfl c560 -- stop
end OP
