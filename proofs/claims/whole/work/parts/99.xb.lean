section XB
variable {l : Launch} {w : jW} {h h0 g1 gE g g' : jH} {t : Nat → Nat} {n : Nat} {dc gd ty ip : Bool} {H : Nat → Prop} {L c a s M ow nm k : Nat} {q qs : TA} {f f2 : CL} {e : List Ev} {tb : List HD} {x sg0 sg : Nat}
theorem rtx_e {k j : Nat} {v : Int32} (hk : ¬ (k = 70 ∧ j = 3) ∧ k ≠ 71) (ht : rtx g t n) : rtx (up2 g.1 k j v, g.2) t n := rtx_keep (by dsimp only; rw [up2_n (by omega)]) (fun j' => by dsimp only; rw [up2_n (by omega)]) ht
theorem opn_o {o k j : Nat} {kd : Int32} (h : ¬ (85 ≤ k ∧ k ≤ 88 ∧ j = o)) (h2 : ¬ (k = 70 ∧ j = 23)) : (opn g o kd).1 k j = g.1 k j := by
  show up2 (up2 (up2 (up2 (up2 g.1 85 o kd) 86 o 0) 87 o 0) 88 o 0) 70 23 (nI (o + 1)) k j = _
  rw [up2_n (by omega), up2_n (by omega), up2_n (by omega), up2_n (by omega), up2_n (by omega)]
theorem opn_23 {o : Nat} {kd : Int32} : (opn g o kd).1 70 23 = nI (o + 1) := by unfold opn; dsimp only; rw [up2_s]
theorem opn_85 {o : Nat} {kd : Int32} : (opn g o kd).1 85 o = kd := by unfold opn; dsimp only; rw [up2_n (by omega), up2_n (by omega), up2_n (by omega), up2_n (by omega), up2_s]
theorem opn_86 {o : Nat} {kd : Int32} : (opn g o kd).1 86 o = 0 := by unfold opn; dsimp only; rw [up2_n (by omega), up2_n (by omega), up2_n (by omega), up2_s]
theorem opn_87 {o : Nat} {kd : Int32} : (opn g o kd).1 87 o = 0 := by unfold opn; dsimp only; rw [up2_n (by omega), up2_n (by omega), up2_s]
theorem opn_88 {o : Nat} {kd : Int32} : (opn g o kd).1 88 o = 0 := by unfold opn; dsimp only; rw [up2_n (by omega), up2_s]
theorem opn_xF {o : Nat} {kd : Int32} (F : xF h0 g) : xF h0 (opn g o kd) := ⟨F.1, fun k j z => by rw [opn_o (by omega) (by omega)]; exact F.2 k j z⟩
theorem rcR_o {k j : Nat} {cl : Int32} (h : ¬ (85 ≤ k ∧ k ≤ 91 ∧ j = M)) (h2 : ¬ (k = 70 ∧ j = 23)) : (rcR g M cl).1 k j = g.1 k j := by
  show up2 (up2 (opn g M 4).1 91 M cl) 90 M (g.1 70 31) k j = _
  rw [up2_n (by omega), up2_n (by omega), opn_o (by omega) (by omega)]
theorem rcR_p {k : Nat} {cl : Int32} (hk : k ≠ 90 ∧ k ≠ 91) {j : Nat} : (rcR g M cl).1 k j = (opn g M 4).1 k j := by
  show up2 (up2 (opn g M 4).1 91 M cl) 90 M (g.1 70 31) k j = _
  rw [up2_n (by omega), up2_n (by omega)]
theorem rcR_91 {cl : Int32} : (rcR g M cl).1 91 M = cl := by unfold rcR; dsimp only; rw [up2_n (by omega), up2_s]
theorem rcR_90 {cl : Int32} : (rcR g M cl).1 90 M = g.1 70 31 := by unfold rcR; dsimp only; rw [up2_s]
theorem rcR_xF {cl : Int32} (F : xF h0 g) : xF h0 (rcR g M cl) := ⟨F.1, fun k j z => by rw [rcR_o (by omega) (by omega)]; exact F.2 k j z⟩
def rcP (h0 g : jH) (t : Nat → Nat) (n a L : Nat) (dc ty : Bool) (tb : List HD) (r : Option Value) (h' : jH) : Prop := match clP t n a with
  | none => ∃ g' a' ty', r = some (.int 0) ∧ h' = pv g' a' false ty' ∧ a' ≤ 200 ∧ xZ h0 g'
  | some z => if L + 1 < 9 then r = some (.int (bI (pek t n z.2.2 == 41))) ∧ h' = pv (rcR g (L + 1) (nI (26 * z.1 + z.2.1))) (if pek t n z.2.2 = 41 then z.2.2 + 1 else z.2.2) true (ty && (dc || (lix tb z.1 (nI z.2.1) tb.length).isSome)) else ∃ g' a' ty', r = some (.int 0) ∧ h' = pv g' a' false ty' ∧ a' ≤ 200 ∧ xZ h0 g'
theorem r_readCall (hw : jok w) (T : xT h0 t n dc) (S : xS h0 tb x sg0) (hn : n ≤ 120) (han : a ≤ n) (hL : L ≤ 8) (K : xK h0 g dc H L c a q s ty) : jM l w yX5_readCall cX5_readCall 4 (some .boolean) 3 [.ref (jad w 70)] (pv g a true ty) (rcP h0 g t n a L dc ty tb) := by
  refine jM_of (by decide) hw (Nat.le_of_ble_eq_true rfl) ?_
  intro X C hl hR hnL hrt hE
  subst hl
  have C : jC X w cX5_readCall RX5 := C
  have sa := K.2.2.2.1
  obtain ⟨hr, ht, hd⟩ := xT_g T K.1
  obtain ⟨i22, hx6, N, -, -, -, -⟩ := xS_g S K.1
  have hl6 := N.1.2.1
  have hp := pek_le ht a
  have hp2 := pek_le ht (a + 2)
  -- behind the opening bracket
  have mid : ∀ (a2 : Nat) (gd2 : Bool) (v1 : Int32) (ow nm : Nat), a2 ≤ 190 → ow ≤ 6 → nm < 26 → (gd2 = false → clP t n a = none) → (gd2 = true → clP t n a = some (ow, nm, a2)) → J X w (pv g a2 gd2 ty) 62 [(0, .ref (jad w 70)), (1, .int v1), (2, .int (oI ow)), (3, .int (nI nm))] [] := by
    intro a2 gd2 v1 ow nm ha2 how hnm h1 h2
    by_cases ok : gd2 = true ∧ L + 1 < 9
    · have hcl := h2 ok.1
      have hpo : rcP h0 g t n a L dc ty tb = fun r h' => r = some (.int (bI (pek t n a2 == 41))) ∧ h' = pv (rcR g (L + 1) (nI (26 * ow + nm))) (if pek t n a2 = 41 then a2 + 1 else a2) true (ty && (dc || (lix tb ow (nI nm) tb.length).isSome)) := by
        funext r h'
        unfold rcP
        rw [hcl]
        simp only
        rw [if_pos ok.2]
      rw [hpo] at hE
      obtain ⟨g1, eg1⟩ : ∃ g1 : jH, g1 = opn g (L + 1) 4 := ⟨_, rfl⟩
      obtain ⟨g2, eg2⟩ : ∃ g2 : jH, g2 = (up2 g1.1 91 (L + 1) (nI (26 * ow + nm)), g1.2) := ⟨_, rfl⟩
      obtain ⟨g3, eg3⟩ : ∃ g3 : jH, g3 = rcR g (L + 1) (nI (26 * ow + nm)) := ⟨_, rfl⟩
      have r1 : g1.2.1 70 = rMap := by rw [eg1]; exact hr
      have r2 : g2.2.1 70 = rMap := by rw [eg2]; exact r1
      have r3 : g3.2.1 70 = rMap := by rw [eg3]; exact hr
      have o1 : (pv g1 a2 true ty).1 70 23 - 1 = nI (L + 1) := by rw [pv_o (by omega), eg1, opn_23]; exact nI_pred _
      have o2 : (pv g2 a2 true ty).1 70 23 - 1 = nI (L + 1) := by rw [pv_o (by omega), eg2]; dsimp only; rw [up2_n (by omega), eg1, opn_23]; exact nI_pred _
      have f31 : (pv g2 a2 true ty).1 70 31 = g.1 70 31 := by rw [pv_o (by omega), eg2]; dsimp only; rw [up2_n (by omega), eg1, opn_o (by omega) (by omega)]
      have f7 : (pv g3 a2 true ty).1 70 7 = bI dc := by rw [pv_o (by omega), eg3, rcR_o (by omega) (by omega)]; exact hd
      have t3 : rtx g3 t n := by rw [eg3]; exact rtx_keep (rcR_o (by omega) (by omega)) (fun j => rcR_o (by omega) (by omega)) ht
      have ecl : (26 : Int32) * (oI ow + 1) + nI nm = nI (26 * ow + nm) := by
        have : oI ow + 1 = nI ow := by unfold oI; rw [Int32.sub_add_cancel]
        rw [this, show (26 : Int32) = nI 26 from rfl, pk_mul, nI_add]
      have N3 : ∀ {ty : Bool}, rNF (pv g3 a2 true ty) 6 tb := fun {ty} => ⟨by rw [pv_o (by omega), eg3, rcR_o (by omega) (by omega)]; exact N.1.1, N.1.2.1, fun i hi => by rw [pv_o (by omega), pv_o (by omega), eg3, rcR_o (by omega) (by omega), rcR_o (by omega) (by omega)]; exact N.1.2.2 i hi⟩
      have fin : ∀ b : Bool, b = (dc || (lix tb ow (nI nm) tb.length).isSome) → J X w (pv g3 a2 true ty) 135 [(0, .ref (jad w 70)), (1, .int v1), (2, .int (oI ow)), (3, .int (nI nm))] [.int (bI b), .ref (jad w 70)] := by
        intro b hb
        refine k_callV (k := 70) (ci := 5) (As := [.int (bI b)]) C mX5_172 (r_type hw b) jCl5.1 (by first | decide | omega) (by first | assumption | rfl) rfl rfl (Nat.le_of_ble_eq_true rfl) (jroom hR (by first | decide | omega) (by decide)) dX5_readCall_135 ?_
        rintro v9 h9 ⟨rfl, rfl⟩
        refine k_aload_n C dX5_readCall_138 rfl ?_
        refine j_bipush (v := 41) C dX5_readCall_139 (by decide) ?_
        refine k_callV (k := 70) (ci := 5) (As := [.int (nI 41)]) C mX5_127 (r_pass hw r3 t3 (by omega) (ch := 41) (by decide)) jCl5.1 (by first | decide | omega) (by first | assumption | rfl) rfl rfl (Nat.le_of_ble_eq_true rfl) (jroom hR (by first | decide | omega) (by decide)) dX5_readCall_141 ?_
        rintro v9 h9 ⟨rfl, rfl⟩
        exact j_zret C hrt (by cases (pek t n a2 == 41) <;> rfl) hE dX5_readCall_144 ⟨rfl, by rw [hb, eg3]⟩
      have go : J X w (pv g3 a2 true ty) 110 [(0, .ref (jad w 70)), (1, .int v1), (2, .int (oI ow)), (3, .int (nI nm))] [] → J X w (pv g a2 gd2 ty) 62 [(0, .ref (jad w 70)), (1, .int v1), (2, .int (oI ow)), (3, .int (nI nm))] [] := by
        intro kk
        rw [ok.1]
        refine k_aload_n C dX5_readCall_62 rfl ?_
        refine j_iconst (v := 4) C dX5_readCall_63 (by decide) ?_
        refine k_callV (k := 70) (ci := 5) (As := [.int 4]) C mX5_179 (r_opened hw hr K.2.1 (by omega) 4) jCl5.1 (by first | decide | omega) (by first | assumption | rfl) rfl rfl (Nat.le_of_ble_eq_true rfl) (jroom hR (by first | decide | omega) (by decide)) dX5_readCall_64 ?_
        rintro v9 h9 ⟨rfl, rfl⟩
        rw [if_pos ⟨rfl, ok.2⟩, ← eg1]
        refine k_aload_n C dX5_readCall_67 rfl ?_
        refine j_geti C fX5_116 rfl (by first | decide | omega) (by first | assumption | rfl) dX5_readCall_68 ?_
        refine j_if_ne C 76 dX5_readCall_71 (by decide) (fun c71 => ?_) (fun c71 => ?_)
        · refine k_aload_n C dX5_readCall_76 rfl ?_
          refine j_getr C fX5_72 rfl (by first | decide | omega) (by first | assumption | rfl) (congrFun r1 _) dX5_readCall_77 ?_
          refine k_aload_n C dX5_readCall_80 rfl ?_
          refine j_geti C fX5_151 rfl (by first | decide | omega) (by first | assumption | rfl) dX5_readCall_81 ?_
          refine j_iconst (v := 1) C dX5_readCall_84 (by decide) ?_
          refine j_isub C dX5_readCall_85 ?_
          refine j_bipush (v := 26) C dX5_readCall_86 (by decide) ?_
          refine k_iload_n C dX5_readCall_88 rfl ?_
          refine j_iconst (v := 1) C dX5_readCall_89 (by decide) ?_
          refine j_iadd C dX5_readCall_90 ?_
          refine j_imul C dX5_readCall_91 ?_
          refine k_iload_n C dX5_readCall_92 rfl ?_
          refine j_iadd C dX5_readCall_93 ?_
          rw [ecl]
          refine j_iast C (by first | decide | omega) (by first | assumption | rfl) (o1) ((by omega)) (by decide) dX5_readCall_94 ?_
          refine jeqh (show _ = pv g2 a2 true ty from by rw [pv_put (by omega), eg2]) ?_
          refine k_aload_n C dX5_readCall_95 rfl ?_
          refine j_getr C fX5_69 rfl (by first | decide | omega) (by first | assumption | rfl) (congrFun r2 _) dX5_readCall_96 ?_
          refine k_aload_n C dX5_readCall_99 rfl ?_
          refine j_geti C fX5_151 rfl (by first | decide | omega) (by first | assumption | rfl) dX5_readCall_100 ?_
          refine j_iconst (v := 1) C dX5_readCall_103 (by decide) ?_
          refine j_isub C dX5_readCall_104 ?_
          refine k_aload_n C dX5_readCall_105 rfl ?_
          refine j_geti C fX5_141 rfl (by first | decide | omega) (by first | assumption | rfl) dX5_readCall_106 ?_
          rw [f31]
          refine j_iast C (by first | decide | omega) (by first | assumption | rfl) (o2) ((by omega)) (by decide) dX5_readCall_109 ?_
          refine jeqh (show _ = pv g3 a2 true ty from by rw [pv_put (by omega), eg3, eg2, eg1]; rfl) ?_
          exact kk
        · exact absurd ((show (pv g1 a2 true ty).1 70 5 = 1 from pv_5).symm.trans (by first | exact c71 | exact Classical.not_not.mp c71)) (by decide) -- stop
      refine go ?_
      cases dc with
      | true =>
        refine k_aload_n C dX5_readCall_110 rfl ?_
        refine k_aload_n C dX5_readCall_111 rfl ?_
        refine j_geti C fX5_135 rfl (by first | decide | omega) (by first | assumption | rfl) dX5_readCall_112 ?_
        refine j_if_ne C 130 dX5_readCall_115 (by decide) (fun c115 => ?_) (fun c115 => ?_)
        · refine j_iconst (v := 1) C dX5_readCall_130 (by decide) ?_
          refine j_goto C 135 dX5_readCall_131 (by decide) ?_
          exact fin true rfl
        · exact absurd (f7.symm.trans (by first | exact c115 | exact Classical.not_not.mp c115)) (by decide) -- stop
      | false =>
        have hm1 := ixI_m1 (m := 6) (o := lix tb ow (nI nm) tb.length) (by decide) (fun i hi => by have := lix_lt hi; omega)
        refine k_aload_n C dX5_readCall_110 rfl ?_
        refine k_aload_n C dX5_readCall_111 rfl ?_
        refine j_geti C fX5_135 rfl (by first | decide | omega) (by first | assumption | rfl) dX5_readCall_112 ?_
        refine j_if_ne C 130 dX5_readCall_115 (by decide) (fun c115 => ?_) (fun c115 => ?_)
        · exact absurd f7 c115 -- stop
        · refine k_aload_n C dX5_readCall_118 rfl ?_
          refine j_bipush (v := 6) C dX5_readCall_119 (by decide) ?_
          refine k_iload_n C dX5_readCall_121 rfl ?_
          refine k_iload_n C dX5_readCall_122 rfl ?_
          refine k_callV (k := 70) (ci := 5) (As := [.int (nI 6), .int (nI nm), .int (oI ow)]) C mX5_183 (r_find (h := pv g3 a2 true ty) hw r3 (m := 6) (by decide) N3 (o := ow) how (nI nm)) jCl5.1 (by first | decide | omega) (by first | assumption | rfl) rfl rfl (Nat.le_of_ble_eq_true rfl) (jroom hR (by first | decide | omega) (by decide)) dX5_readCall_123 ?_
          rintro v9 h9 ⟨rfl, rfl⟩
          refine j_iconst (v := -1) C dX5_readCall_126 (by decide) ?_
          refine j_icmp_eq C 134 dX5_readCall_127 (by decide) (fun c127 => ?_) (fun c127 => ?_)
          · replace c127 := hm1.mp (by first | exact c127 | exact Classical.not_not.mp c127)
            refine j_iconst (v := 0) C dX5_readCall_134 (by decide) ?_
            first | exact fin false (by rw [c127]; rfl) | exact fin true (by cases z : lix tb ow (nI nm) tb.length; (exact absurd z c127); rfl)
          · replace c127 : ¬ lix tb ow (nI nm) tb.length = none := fun z => c127 (hm1.mpr z)
            refine j_iconst (v := 1) C dX5_readCall_130 (by decide) ?_
            refine j_goto C 135 dX5_readCall_131 (by decide) ?_
            first | exact fin false (by rw [c127]; rfl) | exact fin true (by cases z : lix tb ow (nI nm) tb.length; (exact absurd z c127); rfl)
    · have hbad : ∀ r h', (∃ g' a' ty', r = some (.int 0) ∧ h' = pv g' a' false ty' ∧ a' ≤ 200 ∧ xZ h0 g') → rcP h0 g t n a L dc ty tb r h' := by
        intro r h' z
        unfold rcP
        cases hg : gd2 with
        | false => rw [h1 hg]; exact z
        | true =>
          rw [h2 hg]
          simp only
          rw [if_neg (fun y => ok ⟨hg, y⟩)]
          exact z
      refine k_aload_n C dX5_readCall_62 rfl ?_
      refine j_iconst (v := 4) C dX5_readCall_63 (by decide) ?_
      refine k_callV (k := 70) (ci := 5) (As := [.int 4]) C mX5_179 (r_opened hw hr K.2.1 (by omega) 4) jCl5.1 (by first | decide | omega) (by first | assumption | rfl) rfl rfl (Nat.le_of_ble_eq_true rfl) (jroom hR (by first | decide | omega) (by decide)) dX5_readCall_64 ?_
      rintro v9 h9 ⟨rfl, rfl⟩
      rw [if_neg ok]
      refine k_aload_n C dX5_readCall_67 rfl ?_
      refine j_geti C fX5_116 rfl (by first | decide | omega) (by first | assumption | rfl) dX5_readCall_68 ?_
      refine j_if_ne C 76 dX5_readCall_71 (by decide) (fun c71 => ?_) (fun c71 => ?_)
      · exact absurd pv_5 c71 -- stop
      · refine j_iconst (v := 0) C dX5_readCall_74 (by decide) ?_
        exact j_zret C hrt (rfl) hE dX5_readCall_75 (hbad _ _ ⟨g, a2, ty, rfl, rfl, (by omega), K.1, s, K.2.2.1, (by omega)⟩)
  -- from the name on
  have nme : ∀ (a1 : Nat) (gd1 : Bool) (v1 : Int32) (ow : Nat), a1 ≤ 180 → ow ≤ 6 → (gd1 = false → clP t n a = none) → (gd1 = true → clP t n a = if (97 ≤ pek t n a1 ∧ pek t n a1 ≤ 122) ∧ pek t n (a1 + 1) = 40 then some (ow, pek t n a1 - 97, a1 + 2) else none) → J X w (pv g a1 gd1 ty) 47 [(0, .ref (jad w 70)), (1, .int v1), (2, .int (oI ow))] [] := by
    intro a1 gd1 v1 ow ha1 how h1 h2
    have hp1 := pek_le ht a1
    refine k_aload_n C dX5_readCall_47 rfl ?_
    refine j_bipush (v := 97) C dX5_readCall_48 (by decide) ?_
    refine j_bipush (v := 122) C dX5_readCall_50 (by decide) ?_
    refine k_callV (k := 70) (ci := 5) (As := [.int (nI 97), .int (nI 122)]) C mX5_165 (r_letter hw hr ht (by omega) (lo := 97) (hi := 122) (by decide) (by decide) (by decide)) jCl5.1 (by first | decide | omega) (by first | assumption | rfl) rfl rfl (Nat.le_of_ble_eq_true rfl) (jroom hR (by first | decide | omega) (by decide)) dX5_readCall_52 ?_
    rintro v9 h9 ⟨rfl, rfl⟩
    refine k_istore_n C dX5_readCall_55 (by rw [hnL]; decide) ?_
    refine k_aload_n C dX5_readCall_56 rfl ?_
    refine j_bipush (v := 40) C dX5_readCall_57 (by decide) ?_
    refine k_callV (k := 70) (ci := 5) (As := [.int (nI 40)]) C mX5_175 (r_expect hw hr ht (by omega) (ch := 40) (by decide)) jCl5.1 (by first | decide | omega) (by first | assumption | rfl) rfl rfl (Nat.le_of_ble_eq_true rfl) (jroom hR (by first | decide | omega) (by decide)) dX5_readCall_59 ?_
    rintro v9 h9 ⟨rfl, rfl⟩
    refine mid _ _ _ ow _ (by split <;> omega) how (by split <;> omega) ?_ ?_
    · intro z
      cases hg : gd1 with
      | false => exact h1 hg
      | true =>
        rw [h2 hg]
        rw [hg, Bool.true_and] at z
        rw [if_neg]
        rintro ⟨y1, y2⟩
        rw [decide_eq_true y1, y2] at z
        cases z
    · intro z
      simp only [Bool.and_eq_true, decide_eq_true_eq, beq_iff_eq] at z
      rw [h2 z.1.1, if_pos ⟨z.1.2, z.2⟩, if_pos z.2, if_pos ⟨z.1.1, z.1.2⟩]
  show J X w (pv g a true ty) 0 [(0, .ref (jad w 70))] []
  have e1 := out2 (x := pek t n a) (lo := 65) (hi := 70) (by omega) (by omega) (by omega)
  by_cases hu : 65 ≤ pek t n a ∧ pek t n a ≤ 70
  · rw [decide_eq_true hu] at e1
    have hlow : ¬ (97 ≤ pek t n a ∧ pek t n a ≤ 122) := by omega
    refine k_aload_n C dX5_readCall_0 rfl ?_
    refine k_callV (k := 70) (ci := 5) (As := []) C mX5_123 (r_look hw hr ht (by omega)) jCl5.1 (by first | decide | omega) (by first | assumption | rfl) rfl rfl (Nat.le_of_ble_eq_true rfl) (jroom hR (by first | decide | omega) (by decide)) dX5_readCall_1 ?_
    rintro v9 h9 ⟨rfl, rfl⟩
    refine j_bipush (v := 65) C dX5_readCall_4 (by decide) ?_
    refine j_bipush (v := 70) C dX5_readCall_6 (by decide) ?_
    refine k_callS (As := [.int (nI (pek t n a)), .int (nI 65), .int (nI 70)]) C mX5_106 (r_outside hw (nI (pek t n a)) (nI 65) (nI 70)) rfl rfl (Nat.le_of_ble_eq_true rfl) (jroom hR (by first | decide | omega) (by decide)) dX5_readCall_8 ?_
    rintro v9 h9 ⟨rfl, rfl⟩
    rw [e1]
    refine j_if_ne C 18 dX5_readCall_11 (by decide) (fun c11 => ?_) (fun c11 => ?_)
    · exact absurd rfl c11 -- stop
    · refine j_iconst (v := 1) C dX5_readCall_14 (by decide) ?_
      refine j_goto C 19 dX5_readCall_15 (by decide) ?_
      refine k_istore_n C dX5_readCall_19 (by rw [hnL]; decide) ?_
      refine k_iload_n C dX5_readCall_20 rfl ?_
      refine j_if_eq C 35 dX5_readCall_21 (by decide) (fun c21 => ?_) (fun c21 => ?_)
      · exact absurd c21 (by decide) -- stop
      · refine k_aload_n C dX5_readCall_24 rfl ?_
        refine j_bipush (v := 65) C dX5_readCall_25 (by decide) ?_
        refine j_bipush (v := 70) C dX5_readCall_27 (by decide) ?_
        refine k_callV (k := 70) (ci := 5) (As := [.int (nI 65), .int (nI 70)]) C mX5_165 (r_letter hw hr ht (by omega) (lo := 65) (hi := 70) (by decide) (by decide) (by decide)) jCl5.1 (by first | decide | omega) (by first | assumption | rfl) rfl rfl (Nat.le_of_ble_eq_true rfl) (jroom hR (by first | decide | omega) (by decide)) dX5_readCall_29 ?_
        rintro v9 h9 ⟨rfl, rfl⟩
        rw [if_pos ⟨rfl, hu⟩, decide_eq_true hu]
        refine j_goto C 36 dX5_readCall_32 (by decide) ?_
        refine k_istore_n C dX5_readCall_36 (by rw [hnL]; decide) ?_
        refine k_iload_n C dX5_readCall_37 rfl ?_
        refine j_if_eq C 47 dX5_readCall_38 (by decide) (fun c38 => ?_) (fun c38 => ?_)
        · exact absurd c38 (by decide) -- stop
        · refine k_aload_n C dX5_readCall_41 rfl ?_
          refine j_bipush (v := 46) C dX5_readCall_42 (by decide) ?_
          refine k_callV (k := 70) (ci := 5) (As := [.int (nI 46)]) C mX5_175 (r_expect hw hr ht (by omega) (ch := 46) (by decide)) jCl5.1 (by first | decide | omega) (by first | assumption | rfl) rfl rfl (Nat.le_of_ble_eq_true rfl) (jroom hR (by first | decide | omega) (by decide)) dX5_readCall_44 ?_
          rintro v9 h9 ⟨rfl, rfl⟩
          rw [show nI (pek t n a - 65) = oI (pek t n a - 64) from by rw [show pek t n a - 64 = pek t n a - 65 + 1 by omega, oI_s]]
          refine nme _ _ _ (pek t n a - 64) (by split <;> omega) (by omega) ?_ ?_
          · intro z
            unfold clP
            rw [if_neg hlow, if_pos hu, if_neg]
            rintro ⟨y1, -⟩
            rw [y1] at z
            cases z
          · intro z
            simp only [Bool.and_eq_true, beq_iff_eq] at z
            unfold clP
            rw [if_neg hlow, if_pos hu, if_pos z.2]
            by_cases y : (97 ≤ pek t n (a + 2) ∧ pek t n (a + 2) ≤ 122) ∧ pek t n (a + 3) = 40
            · rw [if_pos ⟨z.2, y⟩, if_pos y]
            · rw [if_neg (fun u => y u.2), if_neg y]
  · rw [decide_eq_false hu] at e1
    refine k_aload_n C dX5_readCall_0 rfl ?_
    refine k_callV (k := 70) (ci := 5) (As := []) C mX5_123 (r_look hw hr ht (by omega)) jCl5.1 (by first | decide | omega) (by first | assumption | rfl) rfl rfl (Nat.le_of_ble_eq_true rfl) (jroom hR (by first | decide | omega) (by decide)) dX5_readCall_1 ?_
    rintro v9 h9 ⟨rfl, rfl⟩
    refine j_bipush (v := 65) C dX5_readCall_4 (by decide) ?_
    refine j_bipush (v := 70) C dX5_readCall_6 (by decide) ?_
    refine k_callS (As := [.int (nI (pek t n a)), .int (nI 65), .int (nI 70)]) C mX5_106 (r_outside hw (nI (pek t n a)) (nI 65) (nI 70)) rfl rfl (Nat.le_of_ble_eq_true rfl) (jroom hR (by first | decide | omega) (by decide)) dX5_readCall_8 ?_
    rintro v9 h9 ⟨rfl, rfl⟩
    rw [e1]
    refine j_if_ne C 18 dX5_readCall_11 (by decide) (fun c11 => ?_) (fun c11 => ?_)
    · refine j_iconst (v := 0) C dX5_readCall_18 (by decide) ?_
      refine k_istore_n C dX5_readCall_19 (by rw [hnL]; decide) ?_
      refine k_iload_n C dX5_readCall_20 rfl ?_
      refine j_if_eq C 35 dX5_readCall_21 (by decide) (fun c21 => ?_) (fun c21 => ?_)
      · refine j_iconst (v := -1) C dX5_readCall_35 (by decide) ?_
        refine k_istore_n C dX5_readCall_36 (by rw [hnL]; decide) ?_
        refine k_iload_n C dX5_readCall_37 rfl ?_
        refine j_if_eq C 47 dX5_readCall_38 (by decide) (fun c38 => ?_) (fun c38 => ?_)
        · refine nme a true _ 0 (by omega) (by omega) (fun z => by cases z) (fun _ => ?_)
          unfold clP
          by_cases y1 : 97 ≤ pek t n a ∧ pek t n a ≤ 122
          · rw [if_pos y1]
            by_cases y2 : pek t n (a + 1) = 40
            · rw [if_pos y2, if_pos ⟨y1, y2⟩]
            · rw [if_neg y2, if_neg (fun u => y2 u.2)]
          · rw [if_neg y1, if_neg hu, if_neg (fun u => y1 u.1)]
        · exact absurd rfl c38 -- stop
      · exact absurd rfl c21 -- stop
    · exact absurd (by first | exact c11 | exact Classical.not_not.mp c11) (by decide) -- stop
end XB
