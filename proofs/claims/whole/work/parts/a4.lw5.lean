/-! THE CONSTRUCTOR OF THE CLASS -/
theorem gU_o {g : Nat → Nat → Option Nat} {b k : Nat} (h1 : k ≠ b) (h2 : k ≠ b + 1) : gU g b k = g k := by
  unfold gU
  rw [gI_o h2, up2_o h1, up2_o h1]
def gL (g : Nat → Nat → Option Nat) : Nat → Nat → Nat → Option Nat
  | 0 => g
  | m + 1 => up2 (gU (gL g m) (14 + 9 * m)) 2 m (some (14 + 9 * m))
theorem gL_o {g : Nat → Nat → Option Nat} {k : Nat} (h2 : k ≠ 2) : ∀ m, (k < 14 ∨ 14 + 9 * m ≤ k) → gL g m k = g k
  | 0, _ => rfl
  | m + 1, h => by
    show up2 (gU (gL g m) (14 + 9 * m)) 2 m _ k = _
    rw [up2_o h2, gU_o (by omega) (by omega)]
    exact gL_o h2 m (by omega)
def szI (x : Int32) : Int32 := if (8 : Int32) < (if x < (500 : Int32) then x else 500) then (if x < (500 : Int32) then x else 500) else 8
section CO
variable {l : Launch} {w : jW} {f : Nat → Nat → Int32} {g : Nat → Nat → Option Nat} {z : Nat → Nat → Int64}
def g6 (g : Nat → Nat → Option Nat) : Nat → Nat → Option Nat := up2 (up2 (gU (up2 (up2 (up2 g 0 0 (some 1)) 0 2 (some 2)) 0 3 (some 3)) 4) 0 4 (some 4)) 0 5 (some 13)
def f6 (f : Nat → Nat → Int32) : Nat → Nat → Int32 := up2 (up2 (up2 f 0 7 0) 0 9 (-1)) 0 10 (-1)
theorem i_Class (hw : jlin w) (x : Int32) (hfr : ∀ k, 1 ≤ k → f k = (fun _ => 0) ∧ g k = fun _ => none) : jI l w yX4_init cX4_init 3 3 69 2707 [.ref (jad w 0), .int x] (f, g, z) 1 (up2 (f6 f) 68 0 (szI x), up2 (up2 (gL (g6 g) 6) 68 2 (some 69)) 0 6 (some 68), z) 70 := by
  refine jI_of (by decide) rfl hw (Nat.le_of_ble_eq_true rfl) (fun X C hX hR hnL hrt hin hao hE => ?_)
  have g6o : ∀ k, 6 ≤ k → g6 g k = fun _ => none := by
    intro k hk
    unfold g6
    rw [up2_o (by omega), up2_o (by omega), gU_o (by omega) (by omega), up2_o (by omega), up2_o (by omega), up2_o (by omega)]
    exact (hfr k (by omega)).2
  have f6o : ∀ k, 1 ≤ k → f6 f k = fun _ => 0 := by
    intro k hk
    unfold f6
    rw [up2_o (by omega), up2_o (by omega), up2_o (by omega)]
    exact (hfr k (by omega)).1
  have loop : ∀ n i, n + i = 6 → JP X (jIB w (f6 f, gL (g6 g) i, z) (14 + 9 * i)) (jAb w) (13 + 9 * i) (434 + 293 * i) 68 [(0, .ref (jad w 0)), (1, .int x), (2, .int (nI i))] [] := by
    intro n
    induction n with
    | zero =>
      intro i hi
      have hi6 : i = 6 := by omega
      subst hi6
      have hg68 : gL (g6 g) 6 68 = fun _ => none := by rw [gL_o (by decide) 6 (by decide)]; exact g6o 68 (by decide)
      skip
      refine q_iload_n C dX4_init_68 rfl ?_
      refine p_bipush (v := 6) C dX4_init_69 (by decide) ?_
      refine p_icmp_ge C 93 dX4_init_71 (by decide) (fun c71 => ?_) (fun c71 => ?_)
      · refine q_aload_n C dX4_init_93 rfl ?_
        refine bb_new (N' := 69) (ci := 2) C hw rfl jCl2 (by decide) (f6o _ (by decide)) hg68 (rin_2 _ (List.mem_of_getElem? (i := 9) rfl)) (rin_2 _ (List.mem_of_getElem? (i := 10) rfl)) (rin_2 _ (List.mem_of_getElem? (i := 11) rfl)) ⟨by rw [hR]; decide, by rw [hR]; decide⟩ dX4_init_94 rfl ?_
        refine p_dup C dX4_init_97 rfl ?_
        refine p_bipush (v := 8) C dX4_init_98 (by decide) ?_
        refine p_sipush (v := 500) C dX4_init_100 (by decide) ?_
        refine q_iload_n C dX4_init_103 rfl ?_
        refine p_mmin C jmmin_X4_47 ⟨by rw [hR]; decide, by rw [hR]; decide⟩ ⟨by rw [hR]; decide, by rw [hR]; exact Nat.le_of_ble_eq_true rfl⟩ dX4_init_104 ?_
        refine p_mmax C jmmax_X4_53 ⟨by rw [hR]; decide, by rw [hR]; decide⟩ ⟨by rw [hR]; decide, by rw [hR]; exact Nat.le_of_ble_eq_true rfl⟩ dX4_init_107 ?_
        refine b_callI (k := 68) (As := [.int (szI x)]) (r := [.ref (jad w 68), .ref (jad w 0)]) C hao nX4_56 rfl (i_Mach hw (szI x) (f6o _ (by decide))) ?_ rfl (Nat.le_of_ble_eq_true rfl) ⟨by rw [hR]; decide, by rw [hR]; decide⟩ ⟨by rw [hR]; decide, by rw [hR]; decide⟩ dX4_init_110 ?_
        · rfl
        refine bb_putr C hw fX4_59 (fX4_59.2.2.resolve_right (by decide +kernel)) hin rfl rfl (fun _ => ⟨rfl, rfl⟩) (by first | decide | omega) (by first | assumption | rfl) dX4_init_113 ?_
        exact b_vret C hrt hE (by decide) (by decide) dX4_init_116
      · exact absurd (by decide : (6 : Int32) ≤ nI 6) c71 -- stop
    | succ n ih =>
      intro i hi
      have hv : gL (g6 g) i 0 2 = some 2 := by
        rw [gL_o (by decide) i (by omega)]
        unfold g6
        rw [up2_n (by decide), up2_n (by decide), gU_o (by decide) (by decide), up2_n (by decide), up2_s]
      have hub : ub (i + 1) = 14 + 9 * i := by unfold ub; rw [if_neg (by omega)]; omega
      obtain ⟨hc0, -⟩ := jk_unit (i + 1) (by omega)
      have hU := i_Unit (l := jXl X) (f := f6 f) (g := gL (g6 g) i) (z := z) hw (i + 1) (by omega) (fun k hk => ⟨f6o k (by omega), by rw [gL_o (by omega) i (by omega)]; exact g6o k (by omega)⟩)
      rw [hub] at hc0 hU
      skip
      refine q_iload_n C dX4_init_68 rfl ?_
      refine p_bipush (v := 6) C dX4_init_69 (by decide) ?_
      refine p_icmp_ge C 93 dX4_init_71 (by decide) (fun c71 => ?_) (fun c71 => ?_)
      · exact absurd c71 (nI_ge (a := i) (b := 6) (by omega) (by omega)) -- stop
      · refine q_aload_n C dX4_init_74 rfl ?_
        refine bb_getr C fX4_15 rfl (by first | decide | omega) (by first | assumption | rfl) (by assumption) dX4_init_75 ?_
        refine q_iload_n C dX4_init_78 rfl ?_
        refine b_new (ci := 3) C hw hc0 jCl3 (by decide) (f6o _ (by omega)) (by show gL (g6 g) i _ = _; rw [gL_o (by omega) i (by omega)]; exact g6o _ (by omega)) (rin_1 _ (List.mem_of_getElem? (i := 19) rfl)) (rin_1 _ (List.mem_of_getElem? (i := 23) rfl)) (rin_2 _ (List.mem_of_getElem? (i := 0) rfl)) ⟨by rw [hR]; show 13 + 9 * i + 1 ≤ 69; omega, by rw [hR]; show 434 + 293 * i + 5 ≤ 2707; omega⟩ dX4_init_79 ?_
        refine p_dup C dX4_init_82 rfl ?_
        refine b_callI (As := []) (k := 14 + 9 * i) C hao nX4_23 rfl hU rfl rfl (Nat.le_of_ble_eq_true rfl) ⟨by rw [hR]; decide, by rw [hR]; decide⟩ ⟨by rw [hR]; show 13 + 9 * i + 1 + 8 ≤ 69; omega, by rw [hR]; show 434 + 293 * i + 5 + 288 ≤ 2707; omega⟩ dX4_init_83 ?_
        refine bb_aast (n := i) (len := 6) (t := 3) (ci := 3) C hw (by decide) (by omega) rfl (by omega) hc0 rfl rfl rfl (by omega) (by decide) dX4_init_86 ?_
        refine q_iinc C dX4_init_87 rfl rfl (by rw [hnL]; decide) ?_
        refine p_goto C 68 dX4_init_90 (by decide) ?_
        have h9 := ih (i + 1) (by omega)
        have e9 : (nI i + Int32.ofInt 1 : Int32) = nI (i + 1) := by show nI i + nI 1 = _; rw [nI_add]
        rw [e9]
        rw [show 14 + 9 * (i + 1) = 14 + 9 * i + 9 by omega, show 13 + 9 * (i + 1) = 13 + 9 * i + 1 + 8 by omega, show 434 + 293 * (i + 1) = 434 + 293 * i + 5 + 288 by omega] at h9
        exact h9
  have hU0 := i_Unit (l := jXl X) (f := f) (g := up2 (up2 (up2 g 0 0 (some 1)) 0 2 (some 2)) 0 3 (some 3)) (z := z) hw 0 (by omega) (fun k hk => ⟨(hfr k (by omega)).1, by rw [up2_o (by omega), up2_o (by omega), up2_o (by omega)]; exact (hfr k (by omega)).2⟩)
  have hub0 : ub 0 = 4 := rfl
  rw [hub0] at hU0
  skip
  refine q_aload_n C dX4_init_0 rfl ?_
  refine b_objInit C (rin_1 _ (List.mem_of_getElem? (i := 14) rfl)) (Nat.le_of_ble_eq_true rfl) ⟨by rw [hR]; decide, by rw [hR]; decide⟩ dX4_init_1 ?_
  refine q_aload_n C dX4_init_4 rfl ?_
  refine p_bipush (v := 120) C dX4_init_5 (by decide) ?_
  refine bb_newa (N' := 2) (atype := .char) (t := 0) (len := 120) C hw (by first | assumption | rfl) (by decide) rfl rfl (fun _ h9 => h9) (by decide) (by first | assumption | ((repeat rw [up2_o (by first | decide | omega)]); first | exact (hfr _ (by first | decide | omega)).1)) rfl (by decide) (rin_1 _ (List.mem_of_getElem? (i := 17) rfl)) ⟨by rw [hR]; decide, by rw [hR]; decide⟩ dX4_init_7 rfl ?_
  refine bb_putr C hw fX4_9 (fX4_9.2.2.resolve_right (by decide +kernel)) hin rfl rfl (fun _ => ⟨rfl, rfl⟩) (by first | decide | omega) (by first | assumption | rfl) dX4_init_9 ?_
  refine q_aload_n C dX4_init_12 rfl ?_
  refine p_bipush (v := 6) C dX4_init_13 (by decide) ?_
  refine bb_newq (N' := 3) (t := 3) (len := 6) (S := "ModuleLinker$Unit") C hw rfl (by decide) rfl (by rw [up2_o (by decide)]; exact (hfr 2 (by decide)).2) rfl (by decide) (rin_1 _ (List.mem_of_getElem? (i := 19) rfl)) hao.1 ⟨by rw [hR]; decide, by rw [hR]; decide⟩ dX4_init_15 rfl ?_
  refine bb_putr C hw fX4_15 (fX4_15.2.2.resolve_right (by decide +kernel)) hin rfl rfl (fun _ => ⟨rfl, rfl⟩) (by first | decide | omega) (by first | assumption | rfl) dX4_init_18 ?_
  refine q_aload_n C dX4_init_21 rfl ?_
  refine p_bipush (v := 6) C dX4_init_22 (by decide) ?_
  refine bb_newa (N' := 4) (atype := .boolean) (t := 2) (len := 6) C hw (by first | assumption | rfl) (by decide) rfl rfl (fun _ h9 => h9) (by decide) (by first | assumption | ((repeat rw [up2_o (by first | decide | omega)]); first | exact (hfr _ (by first | decide | omega)).1)) rfl (by decide) (rin_1 _ (List.mem_of_getElem? (i := 21) rfl)) ⟨by rw [hR]; decide, by rw [hR]; decide⟩ dX4_init_24 rfl ?_
  refine bb_putr C hw fX4_19 (fX4_19.2.2.resolve_right (by decide +kernel)) hin rfl rfl (fun _ => ⟨rfl, rfl⟩) (by first | decide | omega) (by first | assumption | rfl) dX4_init_26 ?_
  refine q_aload_n C dX4_init_29 rfl ?_
  refine bb_new (N' := 5) (ci := 3) C hw rfl jCl3 (by decide) (hfr 4 (by decide)).1 (by rw [up2_o (by decide), up2_o (by decide), up2_o (by decide)]; exact (hfr 4 (by decide)).2) (rin_1 _ (List.mem_of_getElem? (i := 19) rfl)) (rin_1 _ (List.mem_of_getElem? (i := 23) rfl)) (rin_2 _ (List.mem_of_getElem? (i := 0) rfl)) ⟨by rw [hR]; decide, by rw [hR]; decide⟩ dX4_init_30 rfl ?_
  refine p_dup C dX4_init_33 rfl ?_
  refine b_callI (N' := 13) (As := []) (k := 4) C hao nX4_23 rfl hU0 rfl rfl (Nat.le_of_ble_eq_true rfl) ⟨by rw [hR]; decide, by rw [hR]; decide⟩ ⟨by rw [hR]; decide, by rw [hR]; decide⟩ dX4_init_34 ?_
  refine bb_putr C hw fX4_24 (fX4_24.2.2.resolve_right (by decide +kernel)) hin rfl rfl (fun _ => ⟨rfl, rfl⟩) (by first | decide | omega) (by first | assumption | rfl) dX4_init_37 ?_
  refine q_aload_n C dX4_init_40 rfl ?_
  refine bb_new (N' := 14) (ci := 0) C hw rfl jCl0 (by decide) (hfr 13 (by decide)).1 (by rw [up2_o (by decide), gU_o (by decide) (by decide), up2_o (by decide), up2_o (by decide), up2_o (by decide)]; exact (hfr 13 (by decide)).2) (rin_2 _ (List.mem_of_getElem? (i := 2) rfl)) (rin_2 _ (List.mem_of_getElem? (i := 3) rfl)) (rin_2 _ (List.mem_of_getElem? (i := 4) rfl)) ⟨by rw [hR]; decide, by rw [hR]; decide⟩ dX4_init_41 rfl ?_
  refine p_dup C dX4_init_44 rfl ?_
  refine b_callI (As := []) (k := 13) C hao nX4_30 rfl (i_Comp hw 13) rfl rfl (Nat.le_of_ble_eq_true rfl) ⟨by rw [hR]; decide, by rw [hR]; decide⟩ ⟨by rw [hR]; decide, by rw [hR]; decide⟩ dX4_init_45 ?_
  refine bb_putr C hw fX4_31 (fX4_31.2.2.resolve_right (by decide +kernel)) hin rfl rfl (fun _ => ⟨rfl, rfl⟩) (by first | decide | omega) (by first | assumption | rfl) dX4_init_48 ?_
  refine q_aload_n C dX4_init_51 rfl ?_
  refine p_iconst (v := 0) C dX4_init_52 (by decide) ?_
  refine bb_puti C hw fX4_35 (fX4_35.2.2.resolve_right (by decide +kernel)) hin rfl rfl (by first | decide | omega) (by first | assumption | rfl) dX4_init_53 ?_
  refine q_aload_n C dX4_init_56 rfl ?_
  refine p_iconst (v := -1) C dX4_init_57 (by decide) ?_
  refine bb_puti C hw fX4_39 (fX4_39.2.2.resolve_right (by decide +kernel)) hin rfl rfl (by first | decide | omega) (by first | assumption | rfl) dX4_init_58 ?_
  refine q_aload_n C dX4_init_61 rfl ?_
  refine p_iconst (v := -1) C dX4_init_62 (by decide) ?_
  refine bb_puti C hw fX4_42 (fX4_42.2.2.resolve_right (by decide +kernel)) hin rfl rfl (by first | decide | omega) (by first | assumption | rfl) dX4_init_63 ?_
  refine p_iconst (v := 0) C dX4_init_66 (by decide) ?_
  refine q_istore_n C dX4_init_67 (by rw [hnL]; decide) ?_
  exact loop 6 0 (by omega)
end CO
