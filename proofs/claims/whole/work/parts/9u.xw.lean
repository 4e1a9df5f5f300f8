def fitA (PG : Nat → PU) (pr : Nat → Bool) : Prop := ∀ m, m < 6 → pr m = true → ∀ i (hi : i < (PG m).1.length), ((PG m).1[i]).1 ≠ 0 → fitP PG pr ((PG m).1[i]) = true
def e1H (h : jH) (fl tk : Nat) : jH := (up2 (up2 h.1 70 46 (nI (fl - 1))) 70 47 (nI (tk + 1)), h.2)
def enR (h : jH) (F n : Nat) (m i rc k ly mx : Nat) : jH := (up2 (up2 (up2 (up2 (up2 (up2 (up2 h.1 70 48 (nI mx)) 93 F (nI m)) 94 F (nI (6 * m + i))) 95 F (nI rc)) 96 F (nI (n - k))) 97 F (nI (ly + 2))) 70 40 (nI (F + 1)), h.2)
def enP (PG : Nat → PU) (sz : Nat) (h : jH) (F n fl tk mx m i ly : Nat) (r : Option Value) (h' : jH) : Prop := if fl = 0 then r = some (.int 2) ∧ h' = h else if sz < ly + 2 + rmo PG m i then r = some (.int 1) ∧ h' = e1H h fl tk else r = some (.int 0) ∧ h' = enR (e1H h fl tk) F n m i (Rc (PG m).2.1 (bgo PG m i)) (wb (sgo PG m i) 4) ly (max mx (ly + 2 + rmo PG m i))
section XW
variable {l : Launch} {w : jW} {h h' g : jH} {n m i s F fl tk mx ly sz : Nat} {PG : Nat → PU} {pr : Nat → Bool} {x y v : Int32}
theorem e1H_o {k j : Nat} (h1 : ¬ (k = 70 ∧ (j = 46 ∨ j = 47))) : (e1H h fl tk).1 k j = h.1 k j := by unfold e1H; dsimp only; rw [up2_n (by omega), up2_n (by omega)]
theorem r_enter (hw : jok w) (hr : h.2.1 70 = rMap) (hM : rM PG pr h) (hm : m < 6) (hp : pr m = true) (hi : i < (PG m).1.length) (h0 : ((PG m).1[i]).1 = 0) (hly : ly ≤ 600) (h40 : h.1 70 40 = nI F) (hF : F < 260) (h38 : h.1 70 38 = nI n) (hn : n < 1000) (hwb : wb (sgo PG m i) 4 ≤ n) (h1 : h.1 70 1 = nI sz) (hsz : sz ≤ 500) (h46 : h.1 70 46 = nI fl) (hfl : fl ≤ 3000) (h47 : h.1 70 47 = nI tk) (h48 : h.1 70 48 = nI mx) (hmx : mx ≤ 1000) : jM l w yX5_enter cX5_enter 4 (some .int) 2 [.ref (jad w 70), .int (nI (6 * m + i)), .int (nI ly)] h (enP PG sz h F n fl tk mx m i ly) := by
  refine jM_of (by decide) hw (Nat.le_of_ble_eq_true rfl) ?_
  intro X C hl hR hnL hrt hE
  subst hl
  have C : jC X w cX5_enter RX5 := C
  obtain ⟨⟨⟨⟨-, hl6, rN⟩, rI⟩, rB, -⟩, U⟩ := (hM m hm).2 hp
  obtain ⟨x80, x81⟩ := rB i hi h0
  obtain ⟨-, sR⟩ := rI i hi
  obtain ⟨⟨v1, v2, v3, v4, v5, v6, v7⟩, v8⟩ := U.2.2.2.1 i hi
  have esg : (((PG m).1)[i]).2.2.1 = sgo PG m i := by unfold sgo; rw [gtD hi]
  rw [esg] at sR v4 v8
  have hrm : rmo PG m i ≤ 240 := (U.2.2.2.2.2.2 i hi h0).1
  have x80' : h.1 80 (6 * m + i) = nI (rmo PG m i) := x80
  have x81' : h.1 81 (6 * m + i) = nI (Rc (PG m).2.1 (bgo PG m i)) := x81
  show J X w h 0 [(0, .ref (jad w 70)), (1, .int (nI (6 * m + i))), (2, .int (nI ly))] []
  by_cases hf0 : fl = 0
  · have e46 : h.1 70 46 = 0 := by rw [h46, hf0]; rfl
    refine k_aload_n C dX5_enter_0 rfl ?_
    refine j_geti C fX5_269 rfl (by first | decide | omega) (by first | assumption | rfl) dX5_enter_1 ?_
    refine j_if_ne C 9 dX5_enter_4 (by decide) (fun c4 => ?_) (fun c4 => ?_)
    · exact absurd e46 c4 -- stop
    · refine j_iconst (v := 2) C dX5_enter_7 (by decide) ?_
      exact j_iret C hrt hE dX5_enter_8 (by unfold enP; rw [if_pos hf0]; exact ⟨rfl, rfl⟩)
  · have e46 : ¬ h.1 70 46 = 0 := fun z => hf0 ((nI_eq (b := 0) (by omega) (by omega)).mp (h46.symm.trans z))
    obtain ⟨fl', rfl⟩ : ∃ f', fl = f' + 1 := ⟨fl - 1, by omega⟩
    have q46 : h.1 70 46 - 1 = nI fl' := by rw [h46]; exact nI_pred _
    have q47 : up2 h.1 70 46 (nI fl') 70 47 + 1 = nI (tk + 1) := by rw [up2_n (by omega), h47, nI_1]
    obtain ⟨g1, eg1⟩ : ∃ g1 : jH, g1 = e1H h (fl' + 1) tk := ⟨_, rfl⟩
    have o1 : ∀ {k j : Nat}, ¬ (k = 70 ∧ (j = 46 ∨ j = 47)) → g1.1 k j = h.1 k j := fun {k j} z => by rw [eg1]; exact e1H_o z
    have r1 : g1.2.1 70 = rMap := by rw [eg1]; exact hr
    have etot : nI ly + 2 + nI (rmo PG m i) = nI (ly + 2 + rmo PG m i) := by rw [show (2 : Int32) = nI 2 from rfl, nI_add, nI_add]
    have w80 : g1.1 80 (6 * m + i) = nI (rmo PG m i) := by rw [o1 (by omega)]; exact x80'
    have w1 : g1.1 70 1 = nI sz := by rw [o1 (by omega)]; exact h1
    have w48 : g1.1 70 48 = nI mx := by rw [o1 (by omega)]; exact h48
    have w40 : g1.1 70 40 = nI F := by rw [o1 (by omega)]; exact h40
    have w38 : g1.1 70 38 = nI n := by rw [o1 (by omega)]; exact h38
    have head : J X w g1 40 [(0, .ref (jad w 70)), (1, .int (nI (6 * m + i))), (2, .int (nI ly)), (3, .int (nI (ly + 2 + rmo PG m i)))] [] → J X w h 0 [(0, .ref (jad w 70)), (1, .int (nI (6 * m + i))), (2, .int (nI ly))] [] := by
      intro kk
      refine k_aload_n C dX5_enter_0 rfl ?_
      refine j_geti C fX5_269 rfl (by first | decide | omega) (by first | assumption | rfl) dX5_enter_1 ?_
      refine j_if_ne C 9 dX5_enter_4 (by decide) (fun c4 => ?_) (fun c4 => ?_)
      · refine k_aload_n C dX5_enter_9 rfl ?_
        refine j_dup C dX5_enter_10 rfl ?_
        refine j_geti C fX5_269 rfl (by first | decide | omega) (by first | assumption | rfl) dX5_enter_11 ?_
        refine j_iconst (v := 1) C dX5_enter_14 (by decide) ?_
        refine j_isub C dX5_enter_15 ?_
        rw [q46]
        refine j_puti C fX5_269 rfl rfl (by first | decide | omega) (by first | assumption | rfl) dX5_enter_16 ?_
        refine k_aload_n C dX5_enter_19 rfl ?_
        refine j_dup C dX5_enter_20 rfl ?_
        refine j_geti C fX5_272 rfl (by first | decide | omega) (by first | assumption | rfl) dX5_enter_21 ?_
        refine j_iconst (v := 1) C dX5_enter_24 (by decide) ?_
        refine j_iadd C dX5_enter_25 ?_
        refine jeq (congrArg (fun z => [Value.int z, Value.ref (jad w 70)]) q47) ?_
        refine j_puti C fX5_272 rfl rfl (by first | decide | omega) (by first | assumption | rfl) dX5_enter_26 ?_
        refine jeqh (show _ = g1 from by rw [eg1]; rfl) ?_
        refine k_iload_n C dX5_enter_29 rfl ?_
        refine j_iconst (v := 2) C dX5_enter_30 (by decide) ?_
        refine j_iadd C dX5_enter_31 ?_
        refine k_aload_n C dX5_enter_32 rfl ?_
        refine j_getr C fX5_39 rfl (by first | decide | omega) (by first | assumption | rfl) (congrFun r1 _) dX5_enter_33 ?_
        refine k_iload_n C dX5_enter_36 rfl ?_
        refine j_iald C (by first | decide | omega) (by first | assumption | rfl) (rfl) ((by omega)) (by decide) dX5_enter_37 ?_
        rw [w80]
        refine j_iadd C dX5_enter_38 ?_
        rw [etot]
        refine k_istore_n C dX5_enter_39 (by rw [hnL]; decide) ?_
        exact kk
      · exact absurd (by first | exact c4 | exact Classical.not_not.mp c4) e46 -- stop
    refine head ?_
    by_cases hov : sz < ly + 2 + rmo PG m i
    · skip
      refine k_iload_n C dX5_enter_40 rfl ?_
      refine k_aload_n C dX5_enter_41 rfl ?_
      refine j_geti C fX5_100 rfl (by first | decide | omega) (by first | assumption | rfl) dX5_enter_42 ?_
      refine j_icmp_le C 50 dX5_enter_45 (by decide) (fun c45 => ?_) (fun c45 => ?_)
      · exact absurd c45 (by rw [w1, nI_leI (by omega) (by omega)]; omega) -- stop
      · refine j_iconst (v := 1) C dX5_enter_48 (by decide) ?_
        exact j_iret C hrt hE dX5_enter_49 (by unfold enP; rw [if_neg (by omega), if_pos hov]; exact ⟨rfl, eg1⟩)
    · obtain ⟨g2, eg2⟩ : ∃ g2 : jH, g2 = (up2 g1.1 70 48 (nI (max mx (ly + 2 + rmo PG m i))), g1.2) := ⟨_, rfl⟩
      obtain ⟨g3, eg3⟩ : ∃ g3 : jH, g3 = (up2 g2.1 93 F (nI m), g2.2) := ⟨_, rfl⟩
      obtain ⟨g4, eg4⟩ : ∃ g4 : jH, g4 = (up2 g3.1 94 F (nI (6 * m + i)), g3.2) := ⟨_, rfl⟩
      obtain ⟨g5, eg5⟩ : ∃ g5 : jH, g5 = (up2 g4.1 95 F (nI (Rc (PG m).2.1 (bgo PG m i))), g4.2) := ⟨_, rfl⟩
      obtain ⟨g6, eg6⟩ : ∃ g6 : jH, g6 = (up2 g5.1 96 F (nI (n - wb (sgo PG m i) 4)), g5.2) := ⟨_, rfl⟩
      obtain ⟨g7, eg7⟩ : ∃ g7 : jH, g7 = (up2 g6.1 97 F (nI (ly + 2)), g6.2) := ⟨_, rfl⟩
      have o2 : ∀ {k j : Nat}, ¬ (k = 70 ∧ j = 48) → g2.1 k j = g1.1 k j := fun {k j} z => by rw [eg2]; exact up2_n z
      have o3 : ∀ {k j : Nat}, ¬ (k = 70 ∧ j = 48) → ¬ k = 93 → g3.1 k j = g1.1 k j := fun {k j} z z2 => by rw [eg3]; dsimp only; rw [up2_n (by omega)]; exact o2 z
      have o4 : ∀ {k j : Nat}, ¬ (k = 70 ∧ j = 48) → ¬ (93 ≤ k ∧ k ≤ 94) → g4.1 k j = g1.1 k j := fun {k j} z z2 => by rw [eg4]; dsimp only; rw [up2_n (by omega)]; exact o3 z (by omega)
      have o5 : ∀ {k j : Nat}, ¬ (k = 70 ∧ j = 48) → ¬ (93 ≤ k ∧ k ≤ 95) → g5.1 k j = g1.1 k j := fun {k j} z z2 => by rw [eg5]; dsimp only; rw [up2_n (by omega)]; exact o4 z (by omega)
      have o6 : ∀ {k j : Nat}, ¬ (k = 70 ∧ j = 48) → ¬ (93 ≤ k ∧ k ≤ 96) → g6.1 k j = g1.1 k j := fun {k j} z z2 => by rw [eg6]; dsimp only; rw [up2_n (by omega)]; exact o5 z (by omega)
      have o7 : ∀ {k j : Nat}, ¬ (k = 70 ∧ j = 48) → ¬ (93 ≤ k ∧ k ≤ 97) → g7.1 k j = g1.1 k j := fun {k j} z z2 => by rw [eg7]; dsimp only; rw [up2_n (by omega)]; exact o6 z (by omega)
      have r2 : g2.2.1 70 = rMap := by rw [eg2]; exact r1
      have r3 : g3.2.1 70 = rMap := by rw [eg3]; exact r2
      have r4 : g4.2.1 70 = rMap := by rw [eg4]; exact r3
      have r5 : g5.2.1 70 = rMap := by rw [eg5]; exact r4
      have r6 : g6.2.1 70 = rMap := by rw [eg6]; exact r5
      have dv : nI (6 * m + i) / 6 = nI m := by
        have : ∀ x, x < 36 → nI x / 6 = nI (x / 6) := by decide
        rw [this _ (by omega), show (6 * m + i) / 6 = m by omega]
      have sR5 : rSg g5 (6 * m + i) (sgo PG m i) := ⟨by rw [o5 (by omega) (by omega), o1 (by omega)]; exact sR.1, fun q hq => by rw [o5 (by omega) (by omega), o1 (by omega)]; exact sR.2.1 q hq, by rw [o5 (by omega) (by omega), o1 (by omega)]; exact sR.2.2⟩
      have esub : g5.1 70 38 - nI (wb (sgo PG m i) 4) = nI (n - wb (sgo PG m i) 4) := by rw [o5 (by omega) (by omega), w38]; exact pk_sub hwb
      have tail : J X w g2 70 [(0, .ref (jad w 70)), (1, .int (nI (6 * m + i))), (2, .int (nI ly)), (3, .int (nI (ly + 2 + rmo PG m i)))] [] := by
        refine k_aload_n C dX5_enter_70 rfl ?_
        refine j_getr C fX5_85 rfl (by first | decide | omega) (by first | assumption | rfl) (congrFun r2 _) dX5_enter_71 ?_
        refine k_aload_n C dX5_enter_74 rfl ?_
        refine j_geti C fX5_278 rfl (by first | decide | omega) (by first | assumption | rfl) dX5_enter_75 ?_
        refine k_iload_n C dX5_enter_78 rfl ?_
        refine j_bipush (v := 6) C dX5_enter_79 (by decide) ?_
        refine j_idiv C dX5_enter_81 (by decide) ?_
        rw [dv]
        refine j_iast C (by first | decide | omega) (by first | assumption | rfl) ((show g2.1 70 40 = nI F from by rw [o2 (by omega)]; exact w40)) ((by omega)) (by decide) dX5_enter_82 ?_
        refine jeqh (show _ = g3 from eg3.symm) ?_
        refine k_aload_n C dX5_enter_83 rfl ?_
        refine j_getr C fX5_88 rfl (by first | decide | omega) (by first | assumption | rfl) (congrFun r3 _) dX5_enter_84 ?_
        refine k_aload_n C dX5_enter_87 rfl ?_
        refine j_geti C fX5_278 rfl (by first | decide | omega) (by first | assumption | rfl) dX5_enter_88 ?_
        refine k_iload_n C dX5_enter_91 rfl ?_
        refine j_iast C (by first | decide | omega) (by first | assumption | rfl) ((show g3.1 70 40 = nI F from by rw [o3 (by omega) (by omega)]; exact w40)) ((by omega)) (by decide) dX5_enter_92 ?_
        refine jeqh (show _ = g4 from eg4.symm) ?_
        refine k_aload_n C dX5_enter_93 rfl ?_
        refine j_getr C fX5_91 rfl (by first | decide | omega) (by first | assumption | rfl) (congrFun r4 _) dX5_enter_94 ?_
        refine k_aload_n C dX5_enter_97 rfl ?_
        refine j_geti C fX5_278 rfl (by first | decide | omega) (by first | assumption | rfl) dX5_enter_98 ?_
        refine k_aload_n C dX5_enter_101 rfl ?_
        refine j_getr C fX5_42 rfl (by first | decide | omega) (by first | assumption | rfl) (congrFun r4 _) dX5_enter_102 ?_
        refine k_iload_n C dX5_enter_105 rfl ?_
        refine j_iald C (by first | decide | omega) (by first | assumption | rfl) (rfl) ((by omega)) (by decide) dX5_enter_106 ?_
        rw [show g4.1 81 (6 * m + i) = nI (Rc (PG m).2.1 (bgo PG m i)) from by rw [o4 (by omega) (by omega), o1 (by omega)]; exact x81']
        refine j_iast C (by first | decide | omega) (by first | assumption | rfl) ((show g4.1 70 40 = nI F from by rw [o4 (by omega) (by omega)]; exact w40)) ((by omega)) (by decide) dX5_enter_107 ?_
        refine jeqh (show _ = g5 from eg5.symm) ?_
        refine k_aload_n C dX5_enter_108 rfl ?_
        refine j_getr C fX5_94 rfl (by first | decide | omega) (by first | assumption | rfl) (congrFun r5 _) dX5_enter_109 ?_
        refine k_aload_n C dX5_enter_112 rfl ?_
        refine j_geti C fX5_278 rfl (by first | decide | omega) (by first | assumption | rfl) dX5_enter_113 ?_
        refine k_aload_n C dX5_enter_116 rfl ?_
        refine j_geti C fX5_266 rfl (by first | decide | omega) (by first | assumption | rfl) dX5_enter_117 ?_
        refine k_aload_n C dX5_enter_120 rfl ?_
        refine k_iload_n C dX5_enter_121 rfl ?_
        refine k_callV (k := 70) (ci := 5) (As := [.int (nI (6 * m + i))]) C mX5_263 (r_words (h := g5) hw r5 (x := 6 * m + i) (s := sgo PG m i) (by omega) v4 v8 sR5) jCl5.1 (by first | decide | omega) (by first | assumption | rfl) rfl rfl (Nat.le_of_ble_eq_true rfl) (jroom hR (by first | decide | omega) (by decide)) dX5_enter_122 ?_
        rintro v9 h9 ⟨rfl, e9⟩
        obtain rfl := e9.symm
        refine j_isub C dX5_enter_125 ?_
        rw [esub]
        refine j_iast C (by first | decide | omega) (by first | assumption | rfl) ((show g5.1 70 40 = nI F from by rw [o5 (by omega) (by omega)]; exact w40)) ((by omega)) (by decide) dX5_enter_126 ?_
        refine jeqh (show _ = g6 from eg6.symm) ?_
        refine k_aload_n C dX5_enter_127 rfl ?_
        refine j_getr C fX5_97 rfl (by first | decide | omega) (by first | assumption | rfl) (congrFun r6 _) dX5_enter_128 ?_
        refine k_aload_n C dX5_enter_131 rfl ?_
        refine j_geti C fX5_278 rfl (by first | decide | omega) (by first | assumption | rfl) dX5_enter_132 ?_
        refine k_iload_n C dX5_enter_135 rfl ?_
        refine j_iconst (v := 2) C dX5_enter_136 (by decide) ?_
        refine j_iadd C dX5_enter_137 ?_
        rw [show nI ly + 2 = nI (ly + 2) from by rw [show (2 : Int32) = nI 2 from rfl, nI_add]]
        refine j_iast C (by first | decide | omega) (by first | assumption | rfl) ((show g6.1 70 40 = nI F from by rw [o6 (by omega) (by omega)]; exact w40)) ((by omega)) (by decide) dX5_enter_138 ?_
        refine jeqh (show _ = g7 from eg7.symm) ?_
        refine k_aload_n C dX5_enter_139 rfl ?_
        refine j_dup C dX5_enter_140 rfl ?_
        refine j_geti C fX5_278 rfl (by first | decide | omega) (by first | assumption | rfl) dX5_enter_141 ?_
        refine j_iconst (v := 1) C dX5_enter_144 (by decide) ?_
        refine j_iadd C dX5_enter_145 ?_
        rw [show g7.1 70 40 + 1 = nI (F + 1) from by rw [o7 (by omega) (by omega), w40, nI_1]]
        refine j_puti C fX5_278 rfl rfl (by first | decide | omega) (by first | assumption | rfl) dX5_enter_146 ?_
        refine j_iconst (v := 0) C dX5_enter_149 (by decide) ?_
        exact j_iret C hrt hE dX5_enter_150 (by unfold enP; rw [if_neg (by omega), if_neg hov]; exact ⟨rfl, by rw [eg7, eg6, eg5, eg4, eg3, eg2, eg1]; rfl⟩)
      have hmxI := nI_leI (a := ly + 2 + rmo PG m i) (b := mx) (by omega) (by omega)
      have fin2 : ∀ v, v = nI (max mx (ly + 2 + rmo PG m i)) → J X w g1 67 [(0, .ref (jad w 70)), (1, .int (nI (6 * m + i))), (2, .int (nI ly)), (3, .int (nI (ly + 2 + rmo PG m i)))] [.int v, .ref (jad w 70)] := by
        intro v hv
        refine j_puti C fX5_275 rfl rfl (by first | decide | omega) (by first | assumption | rfl) dX5_enter_67 ?_
        refine jeqh (show _ = g2 from by rw [eg2, hv]) ?_
        exact tail
      refine k_iload_n C dX5_enter_40 rfl ?_
      refine k_aload_n C dX5_enter_41 rfl ?_
      refine j_geti C fX5_100 rfl (by first | decide | omega) (by first | assumption | rfl) dX5_enter_42 ?_
      refine j_icmp_le C 50 dX5_enter_45 (by decide) (fun c45 => ?_) (fun c45 => ?_)
      · refine k_aload_n C dX5_enter_50 rfl ?_
        refine k_iload_n C dX5_enter_51 rfl ?_
        refine k_aload_n C dX5_enter_52 rfl ?_
        refine j_geti C fX5_275 rfl (by first | decide | omega) (by first | assumption | rfl) dX5_enter_53 ?_
        refine j_icmp_le C 63 dX5_enter_56 (by decide) (fun c56 => ?_) (fun c56 => ?_)
        · rw [w48] at c56
          refine k_aload_n C dX5_enter_63 rfl ?_
          refine j_geti C fX5_275 rfl (by first | decide | omega) (by first | assumption | rfl) dX5_enter_64 ?_
          first | exact fin2 _ (by rw [w48]; congr 1; have := hmxI.mp c56; omega) | exact fin2 _ (by congr 1; have : ¬ (ly + 2 + rmo PG m i ≤ mx) := (fun z => c56 (hmxI.mpr z)); omega)
        · rw [w48] at c56
          refine k_iload_n C dX5_enter_59 rfl ?_
          refine j_goto C 67 dX5_enter_60 (by decide) ?_
          first | exact fin2 _ (by rw [w48]; congr 1; have := hmxI.mp c56; omega) | exact fin2 _ (by congr 1; have : ¬ (ly + 2 + rmo PG m i ≤ mx) := (fun z => c56 (hmxI.mpr z)); omega)
      · exact absurd (by rw [w1, nI_leI (by omega) (by omega)]; omega) c45 -- stop
def lvR (h : jH) (F n b y : Nat) : jH := if y = 2 then psH (psH (up2 (ppH (ppH (up2 h.1 70 40 (nI F), h.2) (n - 1)) (n - 2)).1 70 38 (nI b), h.2) b (h.1 92 (n - 2))) (b + 1) (h.1 92 (n - 1)) else psH (up2 (ppH (up2 h.1 70 40 (nI F), h.2) (n - 1)).1 70 38 (nI b), h.2) b (h.1 92 (n - 1))
theorem r_leave (hw : jok w) (hr : h.2.1 70 = rMap) {b yy x : Nat} (h40 : h.1 70 40 = nI (F + 1)) (hF : F < 260) (h94 : h.1 94 F = nI x) (hx : x < 42) (h79 : h.1 79 x = bI (yy == 2)) (hy : yy = 1 ∨ yy = 2) (h38 : h.1 70 38 = nI n) (hn : n < 1000) (hyn : yy ≤ n) (h96 : h.1 96 F = nI b) (hb : b < 1000) : jM l w yX5_leave cX5_leave 4 none 1 [.ref (jad w 70)] h (fun r h' => r = none ∧ h' = lvR h F n b yy) := by
  refine jM_of (by decide) hw (Nat.le_of_ble_eq_true rfl) ?_
  intro X C hl hR hnL hrt hE
  subst hl
  have C : jC X w cX5_leave RX5 := C
  obtain ⟨g1, eg1⟩ : ∃ g1 : jH, g1 = (up2 h.1 70 40 (nI F), h.2) := ⟨_, rfl⟩
  have r1 : g1.2.1 70 = rMap := by rw [eg1]; exact hr
  have o1 : ∀ {k j : Nat}, ¬ (k = 70 ∧ j = 40) → g1.1 k j = h.1 k j := fun {k j} z => by rw [eg1]; exact up2_n z
  have w40 : g1.1 70 40 = nI F := by rw [eg1]; dsimp only; rw [up2_s]
  have w94 : g1.1 94 F = nI x := by rw [o1 (by omega)]; exact h94
  have w79 : g1.1 79 x = bI (yy == 2) := by rw [o1 (by omega)]; exact h79
  have w38 : g1.1 70 38 = nI n := by rw [o1 (by omega)]; exact h38
  show J X w h 0 [(0, .ref (jad w 70))] []
  rcases hy with rfl | rfl
  · obtain ⟨n', rfl⟩ : ∃ n', n = n' + 1 := ⟨n - 1, by omega⟩
    have e92 : g1.1 92 n' = h.1 92 n' := o1 (by omega)
    have p96 : (ppH g1 n').1 96 F = nI b := by rw [ppH_o (by omega), o1 (by omega)]; exact h96
    have p40 : (ppH g1 n').1 70 40 = nI F := by rw [ppH_o (by omega)]; exact w40
    have rp1 : (ppH g1 n').2.1 70 = rMap := r1
    have rp2 : (up2 (ppH g1 n').1 70 38 (nI b), (ppH g1 n').2).2.1 70 = rMap := r1
    refine k_aload_n C dX5_leave_0 rfl ?_
    refine j_dup C dX5_leave_1 rfl ?_
    refine j_geti C fX5_278 rfl (by first | decide | omega) (by first | assumption | rfl) dX5_leave_2 ?_
    refine j_iconst (v := 1) C dX5_leave_5 (by decide) ?_
    refine j_isub C dX5_leave_6 ?_
    rw [h40, nI_pred]
    refine j_puti C fX5_278 rfl rfl (by first | decide | omega) (by first | assumption | rfl) dX5_leave_7 ?_
    refine jeqh (show _ = g1 from eg1.symm) ?_
    refine k_aload_n C dX5_leave_10 rfl ?_
    refine j_getr C fX5_36 rfl (by first | decide | omega) (by first | assumption | rfl) (congrFun r1 _) dX5_leave_11 ?_
    refine k_aload_n C dX5_leave_14 rfl ?_
    refine j_getr C fX5_88 rfl (by first | decide | omega) (by first | assumption | rfl) (congrFun r1 _) dX5_leave_15 ?_
    refine k_aload_n C dX5_leave_18 rfl ?_
    refine j_geti C fX5_278 rfl (by first | decide | omega) (by first | assumption | rfl) dX5_leave_19 ?_
    refine j_iald C (by first | decide | omega) (by first | assumption | rfl) (w40) ((by omega)) (by decide) dX5_leave_22 ?_
    refine j_zald C (by first | decide | omega) (by first | assumption | rfl) (w94) ((by omega)) (by decide) dX5_leave_23 ?_
    rw [w79]
    refine k_istore_n C dX5_leave_24 (by rw [hnL]; decide) ?_
    refine k_iload_n C dX5_leave_25 rfl ?_
    refine j_if_eq C 36 dX5_leave_26 (by decide) (fun c26 => ?_) (fun c26 => ?_)
    · refine j_iconst (v := 0) C dX5_leave_36 (by decide) ?_
      refine k_istore_n C dX5_leave_37 (by rw [hnL]; decide) ?_
      refine k_aload_n C dX5_leave_38 rfl ?_
      refine k_callV (k := 70) (ci := 5) (As := []) C mX5_281 (r_pop hw r1 w38 (by omega)) jCl5.1 (by first | decide | omega) (by first | assumption | rfl) rfl rfl (Nat.le_of_ble_eq_true rfl) (jroom hR (by first | decide | omega) (by decide)) dX5_leave_39 ?_
      rintro v9 h9 ⟨rfl, rfl⟩
      rw [e92]
      refine k_istore_n C dX5_leave_42 (by rw [hnL]; decide) ?_
      refine k_aload_n C dX5_leave_43 rfl ?_
      refine k_aload_n C dX5_leave_44 rfl ?_
      refine j_getr C fX5_94 rfl (by first | decide | omega) (by first | assumption | rfl) (congrFun rp1 _) dX5_leave_45 ?_
      refine k_aload_n C dX5_leave_48 rfl ?_
      refine j_geti C fX5_278 rfl (by first | decide | omega) (by first | assumption | rfl) dX5_leave_49 ?_
      refine j_iald C (by first | decide | omega) (by first | assumption | rfl) (p40) ((by omega)) (by decide) dX5_leave_52 ?_
      rw [p96]
      refine j_puti C fX5_266 rfl rfl (by first | decide | omega) (by first | assumption | rfl) dX5_leave_53 ?_
      refine k_aload_n C dX5_leave_56 rfl ?_
      refine k_iload_n C dX5_leave_57 rfl ?_
      refine k_callV (k := 70) (ci := 5) (As := [.int (h.1 92 n')]) C mX5_284 (r_push hw rp2 (n := b) (by dsimp only; rw [up2_s]) (by omega) (h.1 92 n')) jCl5.1 (by first | decide | omega) (by first | assumption | rfl) rfl rfl (Nat.le_of_ble_eq_true rfl) (jroom hR (by first | decide | omega) (by decide)) dX5_leave_58 ?_
      rintro v9 h9 ⟨rfl, rfl⟩
      refine k_iload_n C dX5_leave_61 rfl ?_
      refine j_if_eq C 70 dX5_leave_62 (by decide) (fun c62 => ?_) (fun c62 => ?_)
      · exact j_vret C hrt hE dX5_leave_70 (⟨rfl, by unfold lvR; rw [if_neg (by decide), ← eg1]; show _ = psH (up2 (ppH g1 n').1 70 38 (nI b), h.2) b (h.1 92 n'); rw [show (ppH g1 n').2 = h.2 from by rw [eg1]; rfl]⟩)
      · exact absurd rfl c62 -- stop
    · exact absurd rfl c26 -- stop
  · obtain ⟨n', rfl⟩ : ∃ n', n = n' + 2 := ⟨n - 2, by omega⟩
    have e92 : g1.1 92 (n' + 1) = h.1 92 (n' + 1) := o1 (by omega)
    have e92' : (ppH g1 (n' + 1)).1 92 n' = h.1 92 n' := by rw [ppH_o (by omega)]; exact o1 (by omega)
    have p96 : (ppH (ppH g1 (n' + 1)) n').1 96 F = nI b := by rw [ppH_o (by omega), ppH_o (by omega), o1 (by omega)]; exact h96
    have p40 : (ppH (ppH g1 (n' + 1)) n').1 70 40 = nI F := by rw [ppH_o (by omega), ppH_o (by omega)]; exact w40
    have rp0 : (ppH g1 (n' + 1)).2.1 70 = rMap := r1
    have rp1 : (ppH (ppH g1 (n' + 1)) n').2.1 70 = rMap := r1
    have rp2 : (up2 (ppH (ppH g1 (n' + 1)) n').1 70 38 (nI b), (ppH (ppH g1 (n' + 1)) n').2).2.1 70 = rMap := r1
    have rp3 : ∀ v, (psH (up2 (ppH (ppH g1 (n' + 1)) n').1 70 38 (nI b), (ppH (ppH g1 (n' + 1)) n').2) b v).2.1 70 = rMap := fun _ => r1
    refine k_aload_n C dX5_leave_0 rfl ?_
    refine j_dup C dX5_leave_1 rfl ?_
    refine j_geti C fX5_278 rfl (by first | decide | omega) (by first | assumption | rfl) dX5_leave_2 ?_
    refine j_iconst (v := 1) C dX5_leave_5 (by decide) ?_
    refine j_isub C dX5_leave_6 ?_
    rw [h40, nI_pred]
    refine j_puti C fX5_278 rfl rfl (by first | decide | omega) (by first | assumption | rfl) dX5_leave_7 ?_
    refine jeqh (show _ = g1 from eg1.symm) ?_
    refine k_aload_n C dX5_leave_10 rfl ?_
    refine j_getr C fX5_36 rfl (by first | decide | omega) (by first | assumption | rfl) (congrFun r1 _) dX5_leave_11 ?_
    refine k_aload_n C dX5_leave_14 rfl ?_
    refine j_getr C fX5_88 rfl (by first | decide | omega) (by first | assumption | rfl) (congrFun r1 _) dX5_leave_15 ?_
    refine k_aload_n C dX5_leave_18 rfl ?_
    refine j_geti C fX5_278 rfl (by first | decide | omega) (by first | assumption | rfl) dX5_leave_19 ?_
    refine j_iald C (by first | decide | omega) (by first | assumption | rfl) (w40) ((by omega)) (by decide) dX5_leave_22 ?_
    refine j_zald C (by first | decide | omega) (by first | assumption | rfl) (w94) ((by omega)) (by decide) dX5_leave_23 ?_
    rw [w79]
    refine k_istore_n C dX5_leave_24 (by rw [hnL]; decide) ?_
    refine k_iload_n C dX5_leave_25 rfl ?_
    refine j_if_eq C 36 dX5_leave_26 (by decide) (fun c26 => ?_) (fun c26 => ?_)
    · exact absurd c26 (by decide) -- stop
    · refine k_aload_n C dX5_leave_29 rfl ?_
      refine k_callV (k := 70) (ci := 5) (As := []) C mX5_281 (r_pop hw r1 w38 (by omega)) jCl5.1 (by first | decide | omega) (by first | assumption | rfl) rfl rfl (Nat.le_of_ble_eq_true rfl) (jroom hR (by first | decide | omega) (by decide)) dX5_leave_30 ?_
      rintro v9 h9 ⟨rfl, rfl⟩
      rw [e92]
      refine j_goto C 37 dX5_leave_33 (by decide) ?_
      refine k_istore_n C dX5_leave_37 (by rw [hnL]; decide) ?_
      refine k_aload_n C dX5_leave_38 rfl ?_
      refine k_callV (k := 70) (ci := 5) (As := []) C mX5_281 (r_pop hw rp0 ppH_38 (by omega)) jCl5.1 (by first | decide | omega) (by first | assumption | rfl) rfl rfl (Nat.le_of_ble_eq_true rfl) (jroom hR (by first | decide | omega) (by decide)) dX5_leave_39 ?_
      rintro v9 h9 ⟨rfl, rfl⟩
      rw [e92']
      refine k_istore_n C dX5_leave_42 (by rw [hnL]; decide) ?_
      refine k_aload_n C dX5_leave_43 rfl ?_
      refine k_aload_n C dX5_leave_44 rfl ?_
      refine j_getr C fX5_94 rfl (by first | decide | omega) (by first | assumption | rfl) (congrFun rp1 _) dX5_leave_45 ?_
      refine k_aload_n C dX5_leave_48 rfl ?_
      refine j_geti C fX5_278 rfl (by first | decide | omega) (by first | assumption | rfl) dX5_leave_49 ?_
      refine j_iald C (by first | decide | omega) (by first | assumption | rfl) (p40) ((by omega)) (by decide) dX5_leave_52 ?_
      rw [p96]
      refine j_puti C fX5_266 rfl rfl (by first | decide | omega) (by first | assumption | rfl) dX5_leave_53 ?_
      refine k_aload_n C dX5_leave_56 rfl ?_
      refine k_iload_n C dX5_leave_57 rfl ?_
      refine k_callV (k := 70) (ci := 5) (As := [.int (h.1 92 n')]) C mX5_284 (r_push hw rp2 (n := b) (by dsimp only; rw [up2_s]) (by omega) (h.1 92 n')) jCl5.1 (by first | decide | omega) (by first | assumption | rfl) rfl rfl (Nat.le_of_ble_eq_true rfl) (jroom hR (by first | decide | omega) (by decide)) dX5_leave_58 ?_
      rintro v9 h9 ⟨rfl, rfl⟩
      refine k_iload_n C dX5_leave_61 rfl ?_
      refine j_if_eq C 70 dX5_leave_62 (by decide) (fun c62 => ?_) (fun c62 => ?_)
      · exact absurd c62 (by decide) -- stop
      · refine k_aload_n C dX5_leave_65 rfl ?_
        refine k_iload_n C dX5_leave_66 rfl ?_
        refine k_callV (k := 70) (ci := 5) (As := [.int (h.1 92 (n' + 1))]) C mX5_284 (r_push hw (rp3 _) psH_38 (by omega) (h.1 92 (n' + 1))) jCl5.1 (by first | decide | omega) (by first | assumption | rfl) rfl rfl (Nat.le_of_ble_eq_true rfl) (jroom hR (by first | decide | omega) (by decide)) dX5_leave_67 ?_
        rintro v9 h9 ⟨rfl, rfl⟩
        exact j_vret C hrt hE dX5_leave_70 (⟨rfl, by unfold lvR; rw [if_pos rfl, ← eg1]; show _ = psH (psH (up2 (ppH (ppH g1 (n' + 1)) n').1 70 38 (nI b), h.2) b (h.1 92 n')) (b + 1) (h.1 92 (n' + 1)); rw [show (ppH (ppH g1 (n' + 1)) n').2 = h.2 from by rw [eg1]; rfl]⟩)
theorem r_invoke (hw : jok w) (hr : h.2.1 70 = rMap) (hM : rM PG pr h) (hfit : fitA PG pr) (hm : m < 6) (hp : pr m = true) {o nm s' j : Nat} (hnm : nm < 26) (hlk : lkp ((PG m).1.map h3) o nm = some s') (hj : dfx (PG (calM m (o * 26 + nm))).1 nm = some j) {Po : Option Value → jH → Prop} (hPo : ∀ v h', Po v h' → ∃ z : Int32, v = some (.int z)) (hen : jM l w yX5_enter cX5_enter 4 (some .int) 2 [.ref (jad w 70), .int (nI (6 * calM m (o * 26 + nm) + j)), .int (nI ly)] h Po) : jM l w yX5_invoke cX5_invoke 5 (some .int) 3 [.ref (jad w 70), .int (nI m), .int (nI (o * 26 + nm)), .int (nI ly)] h Po := by
  refine jM_of (by decide) hw (Nat.le_of_ble_eq_true rfl) ?_
  intro X C hl hR hnL hrt hE
  subst hl
  have C : jC X w cX5_invoke RX5 := C
  obtain ⟨⟨⟨rN, rI⟩, -, -⟩, U⟩ := (hM m hm).2 hp
  obtain ⟨q, hq, hq1, hq2, hq3⟩ := lkp_in _ _ _ _ hlk
  obtain ⟨d, hd1, rfl⟩ := List.mem_map.mp hq
  obtain ⟨i0, hi0, rfl⟩ := List.getElem_of_mem hd1
  have hdk := (U.2.2.2.1 i0 hi0).1
  have ho6 : o ≤ 6 := by rw [← hq1]; exact hdk.1
  have hl6 := U.1
  have elix : lix (PG m).1 o (nI nm) (PG m).1.length = some i0 := by
    have := lix_of U.2.2.1 (fun i hi => (U.2.2.2.1 i hi).1.2.1) hi0 hq1
    have e2 : ((PG m).1[i0]).2.1 = nm := hq2
    rw [e2] at this
    exact this
  have dv : ∀ x, x < 182 → nI x / 26 = nI (x / 26) := by decide +kernel
  have rv : ∀ x, x < 182 → nI x - nI x / 26 * 26 = nI (x % 26) := by decide +kernel
  have d1 := dv (o * 26 + nm) (by omega)
  have d2 := rv (o * 26 + nm) (by omega)
  rw [show (o * 26 + nm) / 26 = o by omega] at d1
  rw [show (o * 26 + nm) % 26 = nm by omega] at d2
  have fin : J X w h 36 [(0, .ref (jad w 70)), (1, .int (nI m)), (2, .int (nI (o * 26 + nm))), (3, .int (nI ly)), (4, .int (nI (6 * m + i0)))] [.int (nI (6 * calM m (o * 26 + nm) + j)), .ref (jad w 70)] := by
    refine k_iload_n C dX5_invoke_36 rfl ?_
    refine k_callV (k := 70) (ci := 5) (As := [.int (nI (6 * calM m (o * 26 + nm) + j)), .int (nI ly)]) C mX5_287 (hen) jCl5.1 (by first | decide | omega) (by first | assumption | rfl) rfl rfl (Nat.le_of_ble_eq_true rfl) (jroom hR (by first | decide | omega) (by decide)) dX5_invoke_37 ?_
    intro v9 h9 p9
    obtain ⟨z9, rfl⟩ := hPo _ _ p9
    exact j_iret C hrt hE dX5_invoke_40 (p9)
  have head : J X w h 17 [(0, .ref (jad w 70)), (1, .int (nI m)), (2, .int (nI (o * 26 + nm))), (3, .int (nI ly)), (4, .int (nI (6 * m + i0)))] [] → J X w h 0 [(0, .ref (jad w 70)), (1, .int (nI m)), (2, .int (nI (o * 26 + nm))), (3, .int (nI ly))] [] := by
    intro kk
    refine k_aload_n C dX5_invoke_0 rfl ?_
    refine k_iload_n C dX5_invoke_1 rfl ?_
    refine k_iload_n C dX5_invoke_2 rfl ?_
    refine j_bipush (v := 26) C dX5_invoke_3 (by decide) ?_
    refine j_irem C dX5_invoke_5 (by decide) ?_
    rw [d2]
    refine k_iload_n C dX5_invoke_6 rfl ?_
    refine j_bipush (v := 26) C dX5_invoke_7 (by decide) ?_
    refine j_idiv C dX5_invoke_9 (by decide) ?_
    rw [d1]
    refine j_iconst (v := 1) C dX5_invoke_10 (by decide) ?_
    refine j_isub C dX5_invoke_11 ?_
    refine k_callV (k := 70) (ci := 5) (As := [.int (nI m), .int (nI nm), .int (oI o)]) C mX5_183 (r_find hw hr (m := m) (by omega) rN (o := o) ho6 (nI nm)) jCl5.1 (by first | decide | omega) (by first | assumption | rfl) rfl rfl (Nat.le_of_ble_eq_true rfl) (jroom hR (by first | decide | omega) (by decide)) dX5_invoke_12 ?_
    rintro v9 h9 ⟨rfl, e9⟩
    obtain rfl := e9.symm
    rw [elix]
    refine k_istore C dX5_invoke_15 (by rw [hnL]; decide) ?_
    exact kk
  show J X w h 0 [(0, .ref (jad w 70)), (1, .int (nI m)), (2, .int (nI (o * 26 + nm))), (3, .int (nI ly))] []
  refine head ?_
  by_cases hO : o = 0
  · subst hO
    have hcm : calM m (0 * 26 + nm) = m := calM_lt hnm
    rw [hcm] at hj fin
    have : dfx (PG m).1 nm = some i0 := dfx_dst U.2.2.1 hi0 hq1 hq2
    rw [this] at hj
    simp only [Option.some.injEq] at hj
    subst hj
    refine k_aload_n C dX5_invoke_17 rfl ?_
    refine k_iload_n C dX5_invoke_18 rfl ?_
    refine j_bipush (v := 26) C dX5_invoke_19 (by decide) ?_
    refine j_idiv C dX5_invoke_21 (by decide) ?_
    rw [d1]
    refine j_if_ne C 30 dX5_invoke_22 (by decide) (fun c22 => ?_) (fun c22 => ?_)
    · exact absurd rfl c22 -- stop
    · refine k_iload C dX5_invoke_25 rfl ?_
      refine j_goto C 36 dX5_invoke_27 (by decide) ?_
      exact fin
  · have hcm : calM m (o * 26 + nm) = o - 1 := by unfold calM; rw [if_neg (by omega), show (o * 26 + nm) / 26 = o by omega]
    rw [hcm] at hj fin
    have hi1 : ((PG m).1[i0]).1 = o := hq1
    have hi2 : ((PG m).1[i0]).2.1 = nm := hq2
    have hme := r_meant (l := jXl X) hw hr hM hm hp hi0 (by rw [hi1]; exact hO)
    have emn : mnt PG pr ((PG m).1[i0]) = some (o - 1, j) := by
      unfold mnt
      rw [if_pos (hfit m hm hp i0 hi0 (by rw [hi1]; exact hO)), hi1, hi2, hj]
      rfl
    rw [emn] at hme
    have no : ¬ nI o = 0 := fun z => hO ((nI_eq (b := 0) (by omega) (by omega)).mp z)
    refine k_aload_n C dX5_invoke_17 rfl ?_
    refine k_iload_n C dX5_invoke_18 rfl ?_
    refine j_bipush (v := 26) C dX5_invoke_19 (by decide) ?_
    refine j_idiv C dX5_invoke_21 (by decide) ?_
    rw [d1]
    refine j_if_ne C 30 dX5_invoke_22 (by decide) (fun c22 => ?_) (fun c22 => ?_)
    · refine k_aload_n C dX5_invoke_30 rfl ?_
      refine k_iload C dX5_invoke_31 rfl ?_
      refine k_callV (k := 70) (ci := 5) (As := [.int (nI (6 * m + i0))]) C mX5_260 (hme) jCl5.1 (by first | decide | omega) (by first | assumption | rfl) rfl rfl (Nat.le_of_ble_eq_true rfl) (jroom hR (by first | decide | omega) (by decide)) dX5_invoke_33 ?_
      rintro v9 h9 ⟨rfl, e9⟩
      obtain rfl := e9.symm
      exact fin
    · exact absurd (by first | exact c22 | exact Classical.not_not.mp c22) no -- stop
end XW
