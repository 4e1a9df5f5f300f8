/-! THE CONSTRUCTOR OF THE REFERENCE -/
def g7 (g : Nat → Nat → Option Nat) : Nat → Nat → Option Nat := up2 (up2 (up2 (up2 (up2 (up2 (up2 (up2 (up2 (up2 (up2 (up2 (up2 (up2 (up2 (up2 (up2 (up2 (up2 (up2 (up2 (up2 (up2 (up2 (up2 (up2 (up2 g 70 2 (some 71)) 70 8 (some 72)) 70 9 (some 73)) 70 10 (some 74)) 70 11 (some 75)) 70 12 (some 76)) 70 13 (some 77)) 70 14 (some 78)) 70 15 (some 79)) 70 16 (some 80)) 70 17 (some 81)) 70 18 (some 82)) 70 19 (some 83)) 70 20 (some 84)) 70 24 (some 85)) 70 25 (some 86)) 70 26 (some 87)) 70 27 (some 88)) 70 28 (some 89)) 70 29 (some 90)) 70 30 (some 91)) 70 39 (some 92)) 70 41 (some 93)) 70 42 (some 94)) 70 43 (some 95)) 70 44 (some 96)) 70 45 (some 97)
theorem g7_lo : ∀ j, j < 46 → g7 (fun _ _ => none) 70 j = rMap j := by decide
theorem g7_70 (g : Nat → Nat → Option Nat) (hg : g 70 = fun _ => none) : g7 g 70 = rMap := by
  funext j
  by_cases hj : j < 46
  · rw [← g7_lo j hj]
    unfold g7
    simp only [up2, hg]
  · unfold g7
    repeat rw [up2_n (by omega)]
    rw [hg]
    obtain ⟨i, rfl⟩ : ∃ i, j = i + 46 := ⟨j - 46, by omega⟩
    rfl
theorem g7_o (g : Nat → Nat → Option Nat) {k : Nat} (hk : k ≠ 70) : g7 g k = g k := by
  unfold g7
  simp only [up2_o hk]
def szR (x : Int32) : Int32 := if (8 : Int32) ≤ x then (if x ≤ (500 : Int32) then x else 500) else 8
section CO
variable {l : Launch} {w : jW} {f : Nat → Nat → Int32} {g : Nat → Nat → Option Nat} {z : Nat → Nat → Int64}
set_option maxRecDepth 4000 in
theorem i_Ref (hw : jlin w) (x : Int32) (hfr : ∀ k, 71 ≤ k → f k = (fun _ => 0)) : jI l w yX5_init cX5_init 2 1 27 6254 [.ref (jad w 70), .int x] (f, g, z) 71 (up2 (up2 (up2 f 70 36 (-1)) 70 37 (-1)) 70 1 (szR x), g7 g, z) 98 := by
  refine jI_of (by decide) rfl hw (Nat.le_of_ble_eq_true rfl) (fun X C hX hR hnL hrt hin hao hE => ?_)
  refine q_aload_n C dX5_init_0 rfl ?_
  refine b_objInit C (rin_3 _ (List.mem_of_getElem? (i := 19) rfl)) (Nat.le_of_ble_eq_true rfl) ⟨by rw [hR]; decide, by rw [hR]; decide⟩ dX5_init_1 ?_
  refine q_aload_n C dX5_init_4 rfl ?_
  refine p_bipush (v := 120) C dX5_init_5 (by decide) ?_
  refine bb_newa (N' := 72) (atype := .char) (t := 0) (len := 120) C hw (by first | assumption | rfl) (by decide) rfl rfl (fun _ h9 => h9) (by decide) (by first | assumption | ((repeat rw [up2_o (by first | decide | omega)]); first | exact (hfr _ (by first | decide | omega)).1 | exact hfr _ (by first | decide | omega))) rfl (by decide) (rin_1 _ (List.mem_of_getElem? (i := 17) rfl)) ⟨by rw [hR]; decide, by rw [hR]; decide⟩ dX5_init_7 rfl ?_
  refine bb_putr C hw fX5_7 (fX5_7.2.2.resolve_right (by decide +kernel)) hin rfl rfl (fun _ => ⟨rfl, rfl⟩) (by first | decide | omega) (by first | assumption | rfl) dX5_init_9 ?_
  refine q_aload_n C dX5_init_12 rfl ?_
  refine p_bipush (v := 7) C dX5_init_13 (by decide) ?_
  refine bb_newa (N' := 73) (atype := .boolean) (t := 2) (len := 7) C hw (by first | assumption | rfl) (by decide) rfl rfl (fun _ h9 => h9) (by decide) (by first | assumption | ((repeat rw [up2_o (by first | decide | omega)]); first | exact (hfr _ (by first | decide | omega)).1 | exact hfr _ (by first | decide | omega))) rfl (by decide) (rin_1 _ (List.mem_of_getElem? (i := 21) rfl)) ⟨by rw [hR]; decide, by rw [hR]; decide⟩ dX5_init_15 rfl ?_
  refine bb_putr C hw fX5_13 (fX5_13.2.2.resolve_right (by decide +kernel)) hin rfl rfl (fun _ => ⟨rfl, rfl⟩) (by first | decide | omega) (by first | assumption | rfl) dX5_init_17 ?_
  refine q_aload_n C dX5_init_20 rfl ?_
  refine p_bipush (v := 7) C dX5_init_21 (by decide) ?_
  refine bb_newa (N' := 74) (atype := .int) (t := 1) (len := 7) C hw (by first | assumption | rfl) (by decide) rfl rfl (fun _ h9 => h9) (by decide) (by first | assumption | ((repeat rw [up2_o (by first | decide | omega)]); first | exact (hfr _ (by first | decide | omega)).1 | exact hfr _ (by first | decide | omega))) rfl (by decide) (rin_3 _ (List.mem_of_getElem? (i := 1) rfl)) ⟨by rw [hR]; decide, by rw [hR]; decide⟩ dX5_init_23 rfl ?_
  refine bb_putr C hw fX5_17 (fX5_17.2.2.resolve_right (by decide +kernel)) hin rfl rfl (fun _ => ⟨rfl, rfl⟩) (by first | decide | omega) (by first | assumption | rfl) dX5_init_25 ?_
  refine q_aload_n C dX5_init_28 rfl ?_
  refine p_bipush (v := 42) C dX5_init_29 (by decide) ?_
  refine bb_newa (N' := 75) (atype := .int) (t := 1) (len := 42) C hw (by first | assumption | rfl) (by decide) rfl rfl (fun _ h9 => h9) (by decide) (by first | assumption | ((repeat rw [up2_o (by first | decide | omega)]); first | exact (hfr _ (by first | decide | omega)).1 | exact hfr _ (by first | decide | omega))) rfl (by decide) (rin_3 _ (List.mem_of_getElem? (i := 1) rfl)) ⟨by rw [hR]; decide, by rw [hR]; decide⟩ dX5_init_31 rfl ?_
  refine bb_putr C hw fX5_21 (fX5_21.2.2.resolve_right (by decide +kernel)) hin rfl rfl (fun _ => ⟨rfl, rfl⟩) (by first | decide | omega) (by first | assumption | rfl) dX5_init_33 ?_
  refine q_aload_n C dX5_init_36 rfl ?_
  refine p_bipush (v := 42) C dX5_init_37 (by decide) ?_
  refine bb_newa (N' := 76) (atype := .int) (t := 1) (len := 42) C hw (by first | assumption | rfl) (by decide) rfl rfl (fun _ h9 => h9) (by decide) (by first | assumption | ((repeat rw [up2_o (by first | decide | omega)]); first | exact (hfr _ (by first | decide | omega)).1 | exact hfr _ (by first | decide | omega))) rfl (by decide) (rin_3 _ (List.mem_of_getElem? (i := 1) rfl)) ⟨by rw [hR]; decide, by rw [hR]; decide⟩ dX5_init_39 rfl ?_
  refine bb_putr C hw fX5_24 (fX5_24.2.2.resolve_right (by decide +kernel)) hin rfl rfl (fun _ => ⟨rfl, rfl⟩) (by first | decide | omega) (by first | assumption | rfl) dX5_init_41 ?_
  refine q_aload_n C dX5_init_44 rfl ?_
  refine p_bipush (v := 42) C dX5_init_45 (by decide) ?_
  refine bb_newa (N' := 77) (atype := .boolean) (t := 2) (len := 42) C hw (by first | assumption | rfl) (by decide) rfl rfl (fun _ h9 => h9) (by decide) (by first | assumption | ((repeat rw [up2_o (by first | decide | omega)]); first | exact (hfr _ (by first | decide | omega)).1 | exact hfr _ (by first | decide | omega))) rfl (by decide) (rin_1 _ (List.mem_of_getElem? (i := 21) rfl)) ⟨by rw [hR]; decide, by rw [hR]; decide⟩ dX5_init_47 rfl ?_
  refine bb_putr C hw fX5_27 (fX5_27.2.2.resolve_right (by decide +kernel)) hin rfl rfl (fun _ => ⟨rfl, rfl⟩) (by first | decide | omega) (by first | assumption | rfl) dX5_init_49 ?_
  refine q_aload_n C dX5_init_52 rfl ?_
  refine p_bipush (v := 42) C dX5_init_53 (by decide) ?_
  refine bb_newa (N' := 78) (atype := .int) (t := 1) (len := 42) C hw (by first | assumption | rfl) (by decide) rfl rfl (fun _ h9 => h9) (by decide) (by first | assumption | ((repeat rw [up2_o (by first | decide | omega)]); first | exact (hfr _ (by first | decide | omega)).1 | exact hfr _ (by first | decide | omega))) rfl (by decide) (rin_3 _ (List.mem_of_getElem? (i := 1) rfl)) ⟨by rw [hR]; decide, by rw [hR]; decide⟩ dX5_init_55 rfl ?_
  refine bb_putr C hw fX5_30 (fX5_30.2.2.resolve_right (by decide +kernel)) hin rfl rfl (fun _ => ⟨rfl, rfl⟩) (by first | decide | omega) (by first | assumption | rfl) dX5_init_57 ?_
  refine q_aload_n C dX5_init_60 rfl ?_
  refine p_bipush (v := 126) C dX5_init_61 (by decide) ?_
  refine bb_newa (N' := 79) (atype := .boolean) (t := 2) (len := 126) C hw (by first | assumption | rfl) (by decide) rfl rfl (fun _ h9 => h9) (by decide) (by first | assumption | ((repeat rw [up2_o (by first | decide | omega)]); first | exact (hfr _ (by first | decide | omega)).1 | exact hfr _ (by first | decide | omega))) rfl (by decide) (rin_1 _ (List.mem_of_getElem? (i := 21) rfl)) ⟨by rw [hR]; decide, by rw [hR]; decide⟩ dX5_init_63 rfl ?_
  refine bb_putr C hw fX5_33 (fX5_33.2.2.resolve_right (by decide +kernel)) hin rfl rfl (fun _ => ⟨rfl, rfl⟩) (by first | decide | omega) (by first | assumption | rfl) dX5_init_65 ?_
  refine q_aload_n C dX5_init_68 rfl ?_
  refine p_bipush (v := 42) C dX5_init_69 (by decide) ?_
  refine bb_newa (N' := 80) (atype := .boolean) (t := 2) (len := 42) C hw (by first | assumption | rfl) (by decide) rfl rfl (fun _ h9 => h9) (by decide) (by first | assumption | ((repeat rw [up2_o (by first | decide | omega)]); first | exact (hfr _ (by first | decide | omega)).1 | exact hfr _ (by first | decide | omega))) rfl (by decide) (rin_1 _ (List.mem_of_getElem? (i := 21) rfl)) ⟨by rw [hR]; decide, by rw [hR]; decide⟩ dX5_init_71 rfl ?_
  refine bb_putr C hw fX5_36 (fX5_36.2.2.resolve_right (by decide +kernel)) hin rfl rfl (fun _ => ⟨rfl, rfl⟩) (by first | decide | omega) (by first | assumption | rfl) dX5_init_73 ?_
  refine q_aload_n C dX5_init_76 rfl ?_
  refine p_bipush (v := 42) C dX5_init_77 (by decide) ?_
  refine bb_newa (N' := 81) (atype := .int) (t := 1) (len := 42) C hw (by first | assumption | rfl) (by decide) rfl rfl (fun _ h9 => h9) (by decide) (by first | assumption | ((repeat rw [up2_o (by first | decide | omega)]); first | exact (hfr _ (by first | decide | omega)).1 | exact hfr _ (by first | decide | omega))) rfl (by decide) (rin_3 _ (List.mem_of_getElem? (i := 1) rfl)) ⟨by rw [hR]; decide, by rw [hR]; decide⟩ dX5_init_79 rfl ?_
  refine bb_putr C hw fX5_39 (fX5_39.2.2.resolve_right (by decide +kernel)) hin rfl rfl (fun _ => ⟨rfl, rfl⟩) (by first | decide | omega) (by first | assumption | rfl) dX5_init_81 ?_
  refine q_aload_n C dX5_init_84 rfl ?_
  refine p_bipush (v := 42) C dX5_init_85 (by decide) ?_
  refine bb_newa (N' := 82) (atype := .int) (t := 1) (len := 42) C hw (by first | assumption | rfl) (by decide) rfl rfl (fun _ h9 => h9) (by decide) (by first | assumption | ((repeat rw [up2_o (by first | decide | omega)]); first | exact (hfr _ (by first | decide | omega)).1 | exact hfr _ (by first | decide | omega))) rfl (by decide) (rin_3 _ (List.mem_of_getElem? (i := 1) rfl)) ⟨by rw [hR]; decide, by rw [hR]; decide⟩ dX5_init_87 rfl ?_
  refine bb_putr C hw fX5_42 (fX5_42.2.2.resolve_right (by decide +kernel)) hin rfl rfl (fun _ => ⟨rfl, rfl⟩) (by first | decide | omega) (by first | assumption | rfl) dX5_init_89 ?_
  refine q_aload_n C dX5_init_92 rfl ?_
  refine p_sipush (v := 910) C dX5_init_93 (by decide) ?_
  refine bb_newa (N' := 83) (atype := .int) (t := 1) (len := 910) C hw (by first | assumption | rfl) (by decide) rfl rfl (fun _ h9 => h9) (by decide) (by first | assumption | ((repeat rw [up2_o (by first | decide | omega)]); first | exact (hfr _ (by first | decide | omega)).1 | exact hfr _ (by first | decide | omega))) rfl (by decide) (rin_3 _ (List.mem_of_getElem? (i := 1) rfl)) ⟨by rw [hR]; decide, by rw [hR]; decide⟩ dX5_init_96 rfl ?_
  refine bb_putr C hw fX5_45 (fX5_45.2.2.resolve_right (by decide +kernel)) hin rfl rfl (fun _ => ⟨rfl, rfl⟩) (by first | decide | omega) (by first | assumption | rfl) dX5_init_98 ?_
  refine q_aload_n C dX5_init_101 rfl ?_
  refine p_sipush (v := 910) C dX5_init_102 (by decide) ?_
  refine bb_newa (N' := 84) (atype := .int) (t := 1) (len := 910) C hw (by first | assumption | rfl) (by decide) rfl rfl (fun _ h9 => h9) (by decide) (by first | assumption | ((repeat rw [up2_o (by first | decide | omega)]); first | exact (hfr _ (by first | decide | omega)).1 | exact hfr _ (by first | decide | omega))) rfl (by decide) (rin_3 _ (List.mem_of_getElem? (i := 1) rfl)) ⟨by rw [hR]; decide, by rw [hR]; decide⟩ dX5_init_105 rfl ?_
  refine bb_putr C hw fX5_48 (fX5_48.2.2.resolve_right (by decide +kernel)) hin rfl rfl (fun _ => ⟨rfl, rfl⟩) (by first | decide | omega) (by first | assumption | rfl) dX5_init_107 ?_
  refine q_aload_n C dX5_init_110 rfl ?_
  refine p_sipush (v := 910) C dX5_init_111 (by decide) ?_
  refine bb_newa (N' := 85) (atype := .int) (t := 1) (len := 910) C hw (by first | assumption | rfl) (by decide) rfl rfl (fun _ h9 => h9) (by decide) (by first | assumption | ((repeat rw [up2_o (by first | decide | omega)]); first | exact (hfr _ (by first | decide | omega)).1 | exact hfr _ (by first | decide | omega))) rfl (by decide) (rin_3 _ (List.mem_of_getElem? (i := 1) rfl)) ⟨by rw [hR]; decide, by rw [hR]; decide⟩ dX5_init_114 rfl ?_
  refine bb_putr C hw fX5_51 (fX5_51.2.2.resolve_right (by decide +kernel)) hin rfl rfl (fun _ => ⟨rfl, rfl⟩) (by first | decide | omega) (by first | assumption | rfl) dX5_init_116 ?_
  refine q_aload_n C dX5_init_119 rfl ?_
  refine p_bipush (v := 10) C dX5_init_120 (by decide) ?_
  refine bb_newa (N' := 86) (atype := .int) (t := 1) (len := 10) C hw (by first | assumption | rfl) (by decide) rfl rfl (fun _ h9 => h9) (by decide) (by first | assumption | ((repeat rw [up2_o (by first | decide | omega)]); first | exact (hfr _ (by first | decide | omega)).1 | exact hfr _ (by first | decide | omega))) rfl (by decide) (rin_3 _ (List.mem_of_getElem? (i := 1) rfl)) ⟨by rw [hR]; decide, by rw [hR]; decide⟩ dX5_init_122 rfl ?_
  refine bb_putr C hw fX5_54 (fX5_54.2.2.resolve_right (by decide +kernel)) hin rfl rfl (fun _ => ⟨rfl, rfl⟩) (by first | decide | omega) (by first | assumption | rfl) dX5_init_124 ?_
  refine q_aload_n C dX5_init_127 rfl ?_
  refine p_bipush (v := 10) C dX5_init_128 (by decide) ?_
  refine bb_newa (N' := 87) (atype := .int) (t := 1) (len := 10) C hw (by first | assumption | rfl) (by decide) rfl rfl (fun _ h9 => h9) (by decide) (by first | assumption | ((repeat rw [up2_o (by first | decide | omega)]); first | exact (hfr _ (by first | decide | omega)).1 | exact hfr _ (by first | decide | omega))) rfl (by decide) (rin_3 _ (List.mem_of_getElem? (i := 1) rfl)) ⟨by rw [hR]; decide, by rw [hR]; decide⟩ dX5_init_130 rfl ?_
  refine bb_putr C hw fX5_57 (fX5_57.2.2.resolve_right (by decide +kernel)) hin rfl rfl (fun _ => ⟨rfl, rfl⟩) (by first | decide | omega) (by first | assumption | rfl) dX5_init_132 ?_
  refine q_aload_n C dX5_init_135 rfl ?_
  refine p_bipush (v := 10) C dX5_init_136 (by decide) ?_
  refine bb_newa (N' := 88) (atype := .int) (t := 1) (len := 10) C hw (by first | assumption | rfl) (by decide) rfl rfl (fun _ h9 => h9) (by decide) (by first | assumption | ((repeat rw [up2_o (by first | decide | omega)]); first | exact (hfr _ (by first | decide | omega)).1 | exact hfr _ (by first | decide | omega))) rfl (by decide) (rin_3 _ (List.mem_of_getElem? (i := 1) rfl)) ⟨by rw [hR]; decide, by rw [hR]; decide⟩ dX5_init_138 rfl ?_
  refine bb_putr C hw fX5_60 (fX5_60.2.2.resolve_right (by decide +kernel)) hin rfl rfl (fun _ => ⟨rfl, rfl⟩) (by first | decide | omega) (by first | assumption | rfl) dX5_init_140 ?_
  refine q_aload_n C dX5_init_143 rfl ?_
  refine p_bipush (v := 10) C dX5_init_144 (by decide) ?_
  refine bb_newa (N' := 89) (atype := .boolean) (t := 2) (len := 10) C hw (by first | assumption | rfl) (by decide) rfl rfl (fun _ h9 => h9) (by decide) (by first | assumption | ((repeat rw [up2_o (by first | decide | omega)]); first | exact (hfr _ (by first | decide | omega)).1 | exact hfr _ (by first | decide | omega))) rfl (by decide) (rin_1 _ (List.mem_of_getElem? (i := 21) rfl)) ⟨by rw [hR]; decide, by rw [hR]; decide⟩ dX5_init_146 rfl ?_
  refine bb_putr C hw fX5_63 (fX5_63.2.2.resolve_right (by decide +kernel)) hin rfl rfl (fun _ => ⟨rfl, rfl⟩) (by first | decide | omega) (by first | assumption | rfl) dX5_init_148 ?_
  refine q_aload_n C dX5_init_151 rfl ?_
  refine p_bipush (v := 10) C dX5_init_152 (by decide) ?_
  refine bb_newa (N' := 90) (atype := .boolean) (t := 2) (len := 10) C hw (by first | assumption | rfl) (by decide) rfl rfl (fun _ h9 => h9) (by decide) (by first | assumption | ((repeat rw [up2_o (by first | decide | omega)]); first | exact (hfr _ (by first | decide | omega)).1 | exact hfr _ (by first | decide | omega))) rfl (by decide) (rin_1 _ (List.mem_of_getElem? (i := 21) rfl)) ⟨by rw [hR]; decide, by rw [hR]; decide⟩ dX5_init_154 rfl ?_
  refine bb_putr C hw fX5_66 (fX5_66.2.2.resolve_right (by decide +kernel)) hin rfl rfl (fun _ => ⟨rfl, rfl⟩) (by first | decide | omega) (by first | assumption | rfl) dX5_init_156 ?_
  refine q_aload_n C dX5_init_159 rfl ?_
  refine p_bipush (v := 10) C dX5_init_160 (by decide) ?_
  refine bb_newa (N' := 91) (atype := .int) (t := 1) (len := 10) C hw (by first | assumption | rfl) (by decide) rfl rfl (fun _ h9 => h9) (by decide) (by first | assumption | ((repeat rw [up2_o (by first | decide | omega)]); first | exact (hfr _ (by first | decide | omega)).1 | exact hfr _ (by first | decide | omega))) rfl (by decide) (rin_3 _ (List.mem_of_getElem? (i := 1) rfl)) ⟨by rw [hR]; decide, by rw [hR]; decide⟩ dX5_init_162 rfl ?_
  refine bb_putr C hw fX5_69 (fX5_69.2.2.resolve_right (by decide +kernel)) hin rfl rfl (fun _ => ⟨rfl, rfl⟩) (by first | decide | omega) (by first | assumption | rfl) dX5_init_164 ?_
  refine q_aload_n C dX5_init_167 rfl ?_
  refine p_bipush (v := 10) C dX5_init_168 (by decide) ?_
  refine bb_newa (N' := 92) (atype := .int) (t := 1) (len := 10) C hw (by first | assumption | rfl) (by decide) rfl rfl (fun _ h9 => h9) (by decide) (by first | assumption | ((repeat rw [up2_o (by first | decide | omega)]); first | exact (hfr _ (by first | decide | omega)).1 | exact hfr _ (by first | decide | omega))) rfl (by decide) (rin_3 _ (List.mem_of_getElem? (i := 1) rfl)) ⟨by rw [hR]; decide, by rw [hR]; decide⟩ dX5_init_170 rfl ?_
  refine bb_putr C hw fX5_72 (fX5_72.2.2.resolve_right (by decide +kernel)) hin rfl rfl (fun _ => ⟨rfl, rfl⟩) (by first | decide | omega) (by first | assumption | rfl) dX5_init_172 ?_
  refine q_aload_n C dX5_init_175 rfl ?_
  refine p_iconst (v := -1) C dX5_init_176 (by decide) ?_
  refine bb_puti C hw fX5_75 (fX5_75.2.2.resolve_right (by decide +kernel)) hin rfl rfl (by first | decide | omega) (by first | assumption | rfl) dX5_init_177 ?_
  refine q_aload_n C dX5_init_180 rfl ?_
  refine p_iconst (v := -1) C dX5_init_181 (by decide) ?_
  refine bb_puti C hw fX5_79 (fX5_79.2.2.resolve_right (by decide +kernel)) hin rfl rfl (by first | decide | omega) (by first | assumption | rfl) dX5_init_182 ?_
  refine q_aload_n C dX5_init_185 rfl ?_
  refine p_sipush (v := 1600) C dX5_init_186 (by decide) ?_
  refine bb_newa (N' := 93) (atype := .int) (t := 1) (len := 1600) C hw (by first | assumption | rfl) (by decide) rfl rfl (fun _ h9 => h9) (by decide) (by first | assumption | ((repeat rw [up2_o (by first | decide | omega)]); first | exact (hfr _ (by first | decide | omega)).1 | exact hfr _ (by first | decide | omega))) rfl (by decide) (rin_3 _ (List.mem_of_getElem? (i := 1) rfl)) ⟨by rw [hR]; decide, by rw [hR]; decide⟩ dX5_init_189 rfl ?_
  refine bb_putr C hw fX5_82 (fX5_82.2.2.resolve_right (by decide +kernel)) hin rfl rfl (fun _ => ⟨rfl, rfl⟩) (by first | decide | omega) (by first | assumption | rfl) dX5_init_191 ?_
  refine q_aload_n C dX5_init_194 rfl ?_
  refine p_sipush (v := 260) C dX5_init_195 (by decide) ?_
  refine bb_newa (N' := 94) (atype := .int) (t := 1) (len := 260) C hw (by first | assumption | rfl) (by decide) rfl rfl (fun _ h9 => h9) (by decide) (by first | assumption | ((repeat rw [up2_o (by first | decide | omega)]); first | exact (hfr _ (by first | decide | omega)).1 | exact hfr _ (by first | decide | omega))) rfl (by decide) (rin_3 _ (List.mem_of_getElem? (i := 1) rfl)) ⟨by rw [hR]; decide, by rw [hR]; decide⟩ dX5_init_198 rfl ?_
  refine bb_putr C hw fX5_85 (fX5_85.2.2.resolve_right (by decide +kernel)) hin rfl rfl (fun _ => ⟨rfl, rfl⟩) (by first | decide | omega) (by first | assumption | rfl) dX5_init_200 ?_
  refine q_aload_n C dX5_init_203 rfl ?_
  refine p_sipush (v := 260) C dX5_init_204 (by decide) ?_
  refine bb_newa (N' := 95) (atype := .int) (t := 1) (len := 260) C hw (by first | assumption | rfl) (by decide) rfl rfl (fun _ h9 => h9) (by decide) (by first | assumption | ((repeat rw [up2_o (by first | decide | omega)]); first | exact (hfr _ (by first | decide | omega)).1 | exact hfr _ (by first | decide | omega))) rfl (by decide) (rin_3 _ (List.mem_of_getElem? (i := 1) rfl)) ⟨by rw [hR]; decide, by rw [hR]; decide⟩ dX5_init_207 rfl ?_
  refine bb_putr C hw fX5_88 (fX5_88.2.2.resolve_right (by decide +kernel)) hin rfl rfl (fun _ => ⟨rfl, rfl⟩) (by first | decide | omega) (by first | assumption | rfl) dX5_init_209 ?_
  refine q_aload_n C dX5_init_212 rfl ?_
  refine p_sipush (v := 260) C dX5_init_213 (by decide) ?_
  refine bb_newa (N' := 96) (atype := .int) (t := 1) (len := 260) C hw (by first | assumption | rfl) (by decide) rfl rfl (fun _ h9 => h9) (by decide) (by first | assumption | ((repeat rw [up2_o (by first | decide | omega)]); first | exact (hfr _ (by first | decide | omega)).1 | exact hfr _ (by first | decide | omega))) rfl (by decide) (rin_3 _ (List.mem_of_getElem? (i := 1) rfl)) ⟨by rw [hR]; decide, by rw [hR]; decide⟩ dX5_init_216 rfl ?_
  refine bb_putr C hw fX5_91 (fX5_91.2.2.resolve_right (by decide +kernel)) hin rfl rfl (fun _ => ⟨rfl, rfl⟩) (by first | decide | omega) (by first | assumption | rfl) dX5_init_218 ?_
  refine q_aload_n C dX5_init_221 rfl ?_
  refine p_sipush (v := 260) C dX5_init_222 (by decide) ?_
  refine bb_newa (N' := 97) (atype := .int) (t := 1) (len := 260) C hw (by first | assumption | rfl) (by decide) rfl rfl (fun _ h9 => h9) (by decide) (by first | assumption | ((repeat rw [up2_o (by first | decide | omega)]); first | exact (hfr _ (by first | decide | omega)).1 | exact hfr _ (by first | decide | omega))) rfl (by decide) (rin_3 _ (List.mem_of_getElem? (i := 1) rfl)) ⟨by rw [hR]; decide, by rw [hR]; decide⟩ dX5_init_225 rfl ?_
  refine bb_putr C hw fX5_94 (fX5_94.2.2.resolve_right (by decide +kernel)) hin rfl rfl (fun _ => ⟨rfl, rfl⟩) (by first | decide | omega) (by first | assumption | rfl) dX5_init_227 ?_
  refine q_aload_n C dX5_init_230 rfl ?_
  refine p_sipush (v := 260) C dX5_init_231 (by decide) ?_
  refine bb_newa (N' := 98) (atype := .int) (t := 1) (len := 260) C hw (by first | assumption | rfl) (by decide) rfl rfl (fun _ h9 => h9) (by decide) (by first | assumption | ((repeat rw [up2_o (by first | decide | omega)]); first | exact (hfr _ (by first | decide | omega)).1 | exact hfr _ (by first | decide | omega))) rfl (by decide) (rin_3 _ (List.mem_of_getElem? (i := 1) rfl)) ⟨by rw [hR]; decide, by rw [hR]; decide⟩ dX5_init_234 rfl ?_
  refine bb_putr C hw fX5_97 (fX5_97.2.2.resolve_right (by decide +kernel)) hin rfl rfl (fun _ => ⟨rfl, rfl⟩) (by first | decide | omega) (by first | assumption | rfl) dX5_init_236 ?_
  refine q_aload_n C dX5_init_239 rfl ?_
  refine q_iload_n C dX5_init_240 rfl ?_
  refine p_bipush (v := 8) C dX5_init_241 (by decide) ?_
  refine p_icmp_ge C 251 dX5_init_243 (by decide) (fun c243 => ?_) (fun c243 => ?_)
  · refine q_iload_n C dX5_init_251 rfl ?_
    refine p_sipush (v := 500) C dX5_init_252 (by decide) ?_
    refine p_icmp_le C 264 dX5_init_255 (by decide) (fun c255 => ?_) (fun c255 => ?_)
    · rw [show szR x = x by unfold szR; rw [if_pos c243, if_pos c255]] at hE
      refine q_iload_n C dX5_init_264 rfl ?_
      refine bb_puti C hw fX5_100 (fX5_100.2.2.resolve_right (by decide +kernel)) hin rfl rfl (by first | decide | omega) (by first | assumption | rfl) dX5_init_265 ?_
      exact b_vret C hrt hE (by decide) (by decide) dX5_init_268
    · rw [show szR x = 500 by unfold szR; rw [if_pos c243, if_neg c255]] at hE
      refine p_sipush (v := 500) C dX5_init_258 (by decide) ?_
      refine p_goto C 265 dX5_init_261 (by decide) ?_
      refine bb_puti C hw fX5_100 (fX5_100.2.2.resolve_right (by decide +kernel)) hin rfl rfl (by first | decide | omega) (by first | assumption | rfl) dX5_init_265 ?_
      exact b_vret C hrt hE (by decide) (by decide) dX5_init_268
  · rw [show szR x = 8 from if_neg c243] at hE
    refine p_bipush (v := 8) C dX5_init_246 (by decide) ?_
    refine p_goto C 265 dX5_init_248 (by decide) ?_
    refine bb_puti C hw fX5_100 (fX5_100.2.2.resolve_right (by decide +kernel)) hin rfl rfl (by first | decide | omega) (by first | assumption | rfl) dX5_init_265 ?_
    exact b_vret C hrt hE (by decide) (by decide) dX5_init_268
end CO
