/-! calls -/
def clP (t : Nat → Nat) (n a : Nat) : Option (Nat × Nat × Nat) := if 97 ≤ pek t n a ∧ pek t n a ≤ 122 then (if pek t n (a + 1) = 40 then some (0, pek t n a - 97, a + 2) else none) else if 65 ≤ pek t n a ∧ pek t n a ≤ 70 then (if pek t n (a + 1) = 46 ∧ (97 ≤ pek t n (a + 2) ∧ pek t n (a + 2) ≤ 122) ∧ pek t n (a + 3) = 40 then some (pek t n a - 64, pek t n (a + 2) - 97, a + 4) else none) else none
def rcR (g : jH) (M : Nat) (cl : Int32) : jH := (up2 (up2 (opn g M 4).1 91 M cl) 90 M (g.1 70 31), g.2)
def ecR (dc : Bool) (g : jH) (s M : Nat) (cl ip : Int32) : jH := (up2 (up2 (up2 (emD dc g s 10 cl).1 70 31 (g.1 90 M)) 70 33 ip) 70 23 (nI M), (emD dc g s 10 cl).2)
def ctI (tb : List HD) (it : Option Nat) : Nat := match it with
  | none => 0
  | some i => (tb.getD i (0, 0, 0, 0, 0)).2.2.1
section XA
variable {l : Launch} {w : jW} {h h0 g1 gE g g' : jH} {t : Nat → Nat} {n : Nat} {dc gd ty ip : Bool} {H : Nat → Prop} {L c a s M ow nm k : Nat} {q qs : TA} {f f2 : CL} {e : List Ev} {tb : List HD} {x sg0 sg : Nat}
theorem lix_lt {o i m : Nat} {v : Int32} (h : lix tb o v m = some i) : i < m := (lix_some m h).1
theorem ctI_s {i : Nat} (hi : i < tb.length) : ctI tb (some i) = (tb[i]).2.2.1 := by
  show (tb.getD i (0, 0, 0, 0, 0)).2.2.1 = _
  rw [gtD hi]
theorem r_calleeItem (hw : jok w) (hr : h.2.1 70 = rMap) (N : rNF h 6 tb) (h23 : h.1 70 23 = nI (M + 1)) (hM : M < 10) (hcl : h.1 91 M = nI (26 * ow + nm)) (how : ow ≤ 6) (hnm : nm < 26) : jM l w yX5_calleeItem cX5_calleeItem 1 (some .int) 1 [.ref (jad w 70)] h (fun r h' => r = some (.int (ixI 6 (lix tb ow (nI nm) tb.length))) ∧ h' = h) := by
  refine jM_of (by decide) hw (Nat.le_of_ble_eq_true rfl) ?_
  intro X C hl hR hnL hrt hE
  subst hl
  have C : jC X w cX5_calleeItem RX5 := C
  have dv : ∀ x, x < 182 → nI x / 26 = nI (x / 26) := by decide +kernel
  have rv : ∀ x, x < 182 → nI x - nI x / 26 * 26 = nI (x % 26) := by decide +kernel
  have d1 := dv (26 * ow + nm) (by omega)
  have d2 := rv (26 * ow + nm) (by omega)
  rw [show (26 * ow + nm) / 26 = ow by omega] at d1
  rw [show (26 * ow + nm) % 26 = nm by omega] at d2
  have ei : h.1 70 23 - 1 = nI M := by rw [h23]; exact nI_pred M
  show J X w h 0 [(0, .ref (jad w 70))] []
  refine k_aload_n C dX5_calleeItem_0 rfl ?_
  refine j_bipush (v := 6) C dX5_calleeItem_1 (by decide) ?_
  refine k_aload_n C dX5_calleeItem_3 rfl ?_
  refine j_getr C fX5_72 rfl (by first | decide | omega) (by first | assumption | rfl) (congrFun hr _) dX5_calleeItem_4 ?_
  refine k_aload_n C dX5_calleeItem_7 rfl ?_
  refine j_geti C fX5_151 rfl (by first | decide | omega) (by first | assumption | rfl) dX5_calleeItem_8 ?_
  refine j_iconst (v := 1) C dX5_calleeItem_11 (by decide) ?_
  refine j_isub C dX5_calleeItem_12 ?_
  refine j_iald C (by first | decide | omega) (by first | assumption | rfl) (ei) (hM) (by decide) dX5_calleeItem_13 ?_
  rw [hcl]
  refine j_bipush (v := 26) C dX5_calleeItem_14 (by decide) ?_
  refine j_irem C dX5_calleeItem_16 (by decide) ?_
  rw [d2]
  refine k_aload_n C dX5_calleeItem_17 rfl ?_
  refine j_getr C fX5_72 rfl (by first | decide | omega) (by first | assumption | rfl) (congrFun hr _) dX5_calleeItem_18 ?_
  refine k_aload_n C dX5_calleeItem_21 rfl ?_
  refine j_geti C fX5_151 rfl (by first | decide | omega) (by first | assumption | rfl) dX5_calleeItem_22 ?_
  refine j_iconst (v := 1) C dX5_calleeItem_25 (by decide) ?_
  refine j_isub C dX5_calleeItem_26 ?_
  refine j_iald C (by first | decide | omega) (by first | assumption | rfl) (ei) (hM) (by decide) dX5_calleeItem_27 ?_
  rw [hcl]
  refine j_bipush (v := 26) C dX5_calleeItem_28 (by decide) ?_
  refine j_idiv C dX5_calleeItem_30 (by decide) ?_
  rw [d1]
  refine j_iconst (v := 1) C dX5_calleeItem_31 (by decide) ?_
  refine j_isub C dX5_calleeItem_32 ?_
  refine k_callV (k := 70) (ci := 5) (As := [.int (nI 6), .int (nI nm), .int (oI ow)]) C mX5_183 (r_find hw hr (m := 6) (by decide) N (o := ow) how (nI nm)) jCl5.1 (by first | decide | omega) (by first | assumption | rfl) rfl rfl (Nat.le_of_ble_eq_true rfl) (jroom hR (by first | decide | omega) (by decide)) dX5_calleeItem_33 ?_
  rintro v9 h9 ⟨rfl, rfl⟩
  exact j_iret C hrt hE dX5_calleeItem_36 (⟨rfl, rfl⟩)
theorem r_endCall (hw : jok w) (hr : g.2.1 70 = rMap) (hd : g.1 70 7 = bI dc) (hs : g.1 70 21 = nI s) (hs2 : s < 130) (N : rIt g 6 tb) (h23 : g.1 70 23 = nI (M + 1)) (hM : M < 10) (hcl : g.1 91 M = nI (26 * ow + nm)) (how : ow ≤ 6) (hnm : nm < 26) (hst : g.1 86 M = nI k) (hk : k < 2 ^ 31) : jM l w yX5_endCall cX5_endCall 2 none 2 [.ref (jad w 70)] (pv g a gd ty) (fun r h' => r = none ∧ h' = pv (ecR dc g s M (nI (26 * ow + nm)) (bI ((lix tb ow (nI nm) tb.length).isSome && ta (ctI tb (lix tb ow (nI nm) tb.length)) 0 == 2))) a gd (ty && (dc || ((lix tb ow (nI nm) tb.length).isSome && decide (k = nTk (ctI tb (lix tb ow (nI nm) tb.length))))))) := by
  refine jM_of (by decide) hw (Nat.le_of_ble_eq_true rfl) ?_
  intro X C hl hR hnL hrt hE
  subst hl
  have C : jC X w cX5_endCall RX5 := C
  have hl6 := N.1.2.1
  have eo : ∀ {k j : Nat} {ty : Bool}, ¬ (k = 70 ∧ (j = 4 ∨ j = 5 ∨ j = 6)) → (pv g a gd ty).1 k j = g.1 k j := fun z => pv_o z
  have ei : ∀ {ty : Bool}, (pv g a gd ty).1 70 23 - 1 = nI M := fun {ty} => by rw [pv_o (by omega), h23]; exact nI_pred M
  have e7 : (pv g a gd ty).1 70 7 = bI dc := by rw [pv_o (by omega)]; exact hd
  have hNp : ∀ {ty : Bool}, rNF (pv g a gd ty) 6 tb := fun {ty} => ⟨by rw [pv_o (by omega)]; exact N.1.1, N.1.2.1, fun i hi => by rw [pv_o (by omega), pv_o (by omega)]; exact N.1.2.2 i hi⟩
  generalize hit : lix tb ow (nI nm) tb.length = it
  have hi6 : ∀ i, it = some i → i < tb.length := fun i e => lix_lt (hit.trans e)
  have fin2 : ∀ (i2 : Bool) (b : Bool), i2 = (it.isSome && ta (ctI tb it) 0 == 2) → b = (dc || (it.isSome && decide (k = nTk (ctI tb it)))) → J X w (pv (up2 (emD dc g s 10 (nI (26 * ow + nm))).1 70 31 (g.1 90 M), (emD dc g s 10 (nI (26 * ow + nm))).2) a gd (ty && b)) 98 [(0, .ref (jad w 70)), (1, .int (ixI 6 it))] [.int (bI i2), .ref (jad w 70)] := by
    intro i2 b h2 hb
    have f23 : (pv (up2 (up2 (emD dc g s 10 (nI (26 * ow + nm))).1 70 31 (g.1 90 M)) 70 33 (bI i2), (emD dc g s 10 (nI (26 * ow + nm))).2) a gd (ty && b)).1 70 23 - 1 = nI M := by
      rw [pv_o (by omega)]; dsimp only; rw [up2_n (by omega), up2_n (by omega), emD_o (by omega) (by omega), h23]; exact nI_pred M
    refine j_putz C fX5_162 rfl rfl (bI_01 i2) (by first | decide | omega) (by first | assumption | rfl) dX5_endCall_98 ?_
    refine jeqh (pv_put (by omega)) ?_
    refine k_aload_n C dX5_endCall_101 rfl ?_
    refine j_dup C dX5_endCall_102 rfl ?_
    refine j_geti C fX5_151 rfl (by first | decide | omega) (by first | assumption | rfl) dX5_endCall_103 ?_
    refine j_iconst (v := 1) C dX5_endCall_106 (by decide) ?_
    refine j_isub C dX5_endCall_107 ?_
    rw [f23]
    refine j_puti C fX5_151 rfl rfl (by first | decide | omega) (by first | assumption | rfl) dX5_endCall_108 ?_
    refine jeqh (show _ = pv (ecR dc g s M (nI (26 * ow + nm)) (bI i2)) a gd (ty && b) from by rw [pv_put (by omega)]; rfl) ?_
    exact j_vret C hrt hE dX5_endCall_111 (⟨rfl, by rw [hit, h2, hb]⟩)
  have fin1 : ∀ (b : Bool), b = (dc || (it.isSome && decide (k = nTk (ctI tb it)))) → J X w (pv g a gd ty) 43 [(0, .ref (jad w 70)), (1, .int (ixI 6 it))] [.int (bI b), .ref (jad w 70)] := by
    intro b hb
    have f91 : (pv g a gd (ty && b)).1 91 M = nI (26 * ow + nm) := by rw [pv_o (by omega)]; exact hcl
    have f90 : (pv (emD dc g s 10 (nI (26 * ow + nm))) a gd (ty && b)).1 90 M = g.1 90 M := by rw [pv_o (by omega), emD_o (by omega) (by omega)]
    have f23 : (pv (emD dc g s 10 (nI (26 * ow + nm))) a gd (ty && b)).1 70 23 - 1 = nI M := by rw [pv_o (by omega), emD_o (by omega) (by omega), h23]; exact nI_pred M
    have hr2 : (emD dc g s 10 (nI (26 * ow + nm))).2.1 70 = rMap := by rw [emD_ref]; exact hr
    have go : J X w (pv (up2 (emD dc g s 10 (nI (26 * ow + nm))).1 70 31 (g.1 90 M), (emD dc g s 10 (nI (26 * ow + nm))).2) a gd (ty && b)) 78 [(0, .ref (jad w 70)), (1, .int (ixI 6 it))] [] → J X w (pv g a gd ty) 43 [(0, .ref (jad w 70)), (1, .int (ixI 6 it))] [.int (bI b), .ref (jad w 70)] := by
      intro kk
      refine k_callV (k := 70) (ci := 5) (As := [.int (bI b)]) C mX5_172 (r_type hw b) jCl5.1 (by first | decide | omega) (by first | assumption | rfl) rfl rfl (Nat.le_of_ble_eq_true rfl) (jroom hR (by first | decide | omega) (by decide)) dX5_endCall_43 ?_
      rintro v9 h9 ⟨rfl, rfl⟩
      refine k_aload_n C dX5_endCall_46 rfl ?_
      refine j_bipush (v := 10) C dX5_endCall_47 (by decide) ?_
      refine k_aload_n C dX5_endCall_49 rfl ?_
      refine j_getr C fX5_72 rfl (by first | decide | omega) (by first | assumption | rfl) (congrFun hr _) dX5_endCall_50 ?_
      refine k_aload_n C dX5_endCall_53 rfl ?_
      refine j_geti C fX5_151 rfl (by first | decide | omega) (by first | assumption | rfl) dX5_endCall_54 ?_
      refine j_iconst (v := 1) C dX5_endCall_57 (by decide) ?_
      refine j_isub C dX5_endCall_58 ?_
      refine j_iald C (by first | decide | omega) (by first | assumption | rfl) (ei) (hM) (by decide) dX5_endCall_59 ?_
      rw [f91]
      refine k_callV (k := 70) (ci := 5) (As := [.int 10, .int (nI (26 * ow + nm))]) C mX5_158 (r_emit hw hr hd hs hs2 10 (nI (26 * ow + nm))) jCl5.1 (by first | decide | omega) (by first | assumption | rfl) rfl rfl (Nat.le_of_ble_eq_true rfl) (jroom hR (by first | decide | omega) (by decide)) dX5_endCall_60 ?_
      rintro v9 h9 ⟨rfl, rfl⟩
      refine k_aload_n C dX5_endCall_63 rfl ?_
      refine k_aload_n C dX5_endCall_64 rfl ?_
      refine j_getr C fX5_69 rfl (by first | decide | omega) (by first | assumption | rfl) (congrFun hr2 _) dX5_endCall_65 ?_
      refine k_aload_n C dX5_endCall_68 rfl ?_
      refine j_geti C fX5_151 rfl (by first | decide | omega) (by first | assumption | rfl) dX5_endCall_69 ?_
      refine j_iconst (v := 1) C dX5_endCall_72 (by decide) ?_
      refine j_isub C dX5_endCall_73 ?_
      refine j_iald C (by first | decide | omega) (by first | assumption | rfl) (f23) (hM) (by decide) dX5_endCall_74 ?_
      rw [f90]
      refine j_puti C fX5_141 rfl rfl (by first | decide | omega) (by first | assumption | rfl) dX5_endCall_75 ?_
      refine jeqh (pv_put (by omega)) ?_
      exact kk
    refine go ?_
    have hr3 : (up2 (emD dc g s 10 (nI (26 * ow + nm))).1 70 31 (g.1 90 M), (emD dc g s 10 (nI (26 * ow + nm))).2).2.1 70 = rMap := hr2
    cases hit2 : it with
    | none =>
      rw [hit2] at fin2 hb
      refine k_aload_n C dX5_endCall_78 rfl ?_
      refine k_iload_n C dX5_endCall_79 rfl ?_
      refine j_iconst (v := -1) C dX5_endCall_80 (by decide) ?_
      refine j_icmp_eq C 97 dX5_endCall_81 (by decide) (fun c81 => ?_) (fun c81 => ?_)
      · refine j_iconst (v := 0) C dX5_endCall_97 (by decide) ?_
        exact fin2 false b rfl hb
      · exact absurd rfl c81 -- stop
    | some i =>
      have hi := hi6 i hit2
      rw [hit2] at fin2 hb
      have f79 : (pv (up2 (emD dc g s 10 (nI (26 * ow + nm))).1 70 31 (g.1 90 M), (emD dc g s 10 (nI (26 * ow + nm))).2) a gd (ty && b)).1 79 (6 * 6 + i) = bI (ta (ctI tb (some i)) 0 == 2) := by
        rw [pv_o (by omega)]; dsimp only; rw [up2_n (by omega), emD_o (by omega) (by omega), (N.2 i hi).2.2.2, ctI_s hi]
      refine k_aload_n C dX5_endCall_78 rfl ?_
      refine k_iload_n C dX5_endCall_79 rfl ?_
      refine j_iconst (v := -1) C dX5_endCall_80 (by decide) ?_
      refine j_icmp_eq C 97 dX5_endCall_81 (by decide) (fun c81 => ?_) (fun c81 => ?_)
      · exact absurd c81 (nI_m1 (a := 6 * 6 + i) (by omega)) -- stop
      · refine k_aload_n C dX5_endCall_84 rfl ?_
        refine j_getr C fX5_36 rfl (by first | decide | omega) (by first | assumption | rfl) (congrFun hr3 _) dX5_endCall_85 ?_
        refine k_iload_n C dX5_endCall_88 rfl ?_
        refine j_zald C (by first | decide | omega) (by first | assumption | rfl) (rfl) ((by omega)) (by decide) dX5_endCall_89 ?_
        refine j_if_eq C 97 dX5_endCall_90 (by decide) (fun c90 => ?_) (fun c90 => ?_)
        · rw [f79, bI_z] at c90
          refine j_iconst (v := 0) C dX5_endCall_97 (by decide) ?_
          first | exact fin2 false b (by rw [c90]; rfl) hb | exact fin2 true b (by rw [eq_true_of_ne_false c90]; rfl) hb
        · rw [f79, bI_z] at c90
          refine j_iconst (v := 1) C dX5_endCall_93 (by decide) ?_
          refine j_goto C 98 dX5_endCall_94 (by decide) ?_
          first | exact fin2 false b (by rw [c90]; rfl) hb | exact fin2 true b (by rw [eq_true_of_ne_false c90]; rfl) hb
  have start : J X w (pv g a gd ty) 5 [(0, .ref (jad w 70)), (1, .int (ixI 6 it))] [] → J X w (pv g a gd ty) 0 [(0, .ref (jad w 70))] [] := by
    intro kk
    refine k_aload_n C dX5_endCall_0 rfl ?_
    refine k_callV (k := 70) (ci := 5) (As := []) C mX5_187 (r_calleeItem hw (h := pv g a gd ty) hr hNp (by rw [pv_o (by omega)]; exact h23) hM (by rw [pv_o (by omega)]; exact hcl) how hnm) jCl5.1 (by first | decide | omega) (by first | assumption | rfl) rfl rfl (Nat.le_of_ble_eq_true rfl) (jroom hR (by first | decide | omega) (by decide)) dX5_endCall_1 ?_
    rintro v9 h9 ⟨rfl, rfl⟩
    rw [hit]
    refine k_istore_n C dX5_endCall_4 (by rw [hnL]; decide) ?_
    exact kk
  refine start ?_
  cases dc with
  | true =>
    refine k_aload_n C dX5_endCall_5 rfl ?_
    refine k_aload_n C dX5_endCall_6 rfl ?_
    refine j_geti C fX5_135 rfl (by first | decide | omega) (by first | assumption | rfl) dX5_endCall_7 ?_
    refine j_if_ne C 38 dX5_endCall_10 (by decide) (fun c10 => ?_) (fun c10 => ?_)
    · refine j_iconst (v := 1) C dX5_endCall_38 (by decide) ?_
      refine j_goto C 43 dX5_endCall_39 (by decide) ?_
      exact fin1 true rfl
    · exact absurd (e7.symm.trans (by first | exact c10 | exact Classical.not_not.mp c10)) (by decide) -- stop
  | false =>
    cases hit2 : it with
    | none =>
      rw [hit2] at fin1
      refine k_aload_n C dX5_endCall_5 rfl ?_
      refine k_aload_n C dX5_endCall_6 rfl ?_
      refine j_geti C fX5_135 rfl (by first | decide | omega) (by first | assumption | rfl) dX5_endCall_7 ?_
      refine j_if_ne C 38 dX5_endCall_10 (by decide) (fun c10 => ?_) (fun c10 => ?_)
      · exact absurd e7 c10 -- stop
      · refine k_iload_n C dX5_endCall_13 rfl ?_
        refine j_iconst (v := -1) C dX5_endCall_14 (by decide) ?_
        refine j_icmp_eq C 42 dX5_endCall_15 (by decide) (fun c15 => ?_) (fun c15 => ?_)
        · refine j_iconst (v := 0) C dX5_endCall_42 (by decide) ?_
          exact fin1 false rfl
        · exact absurd rfl c15 -- stop
    | some i =>
      have hi := hi6 i hit2
      rw [hit2] at fin1
      have hk3 := nTk_le (ctI tb (some i))
      have f77 : (pv g a gd ty).1 77 (6 * 6 + i) = nI (nTk (ctI tb (some i))) := by
        rw [pv_o (by omega), (N.2 i hi).2.1, ctI_s hi]
      have f86 : (pv g a gd ty).1 86 M = nI k := by rw [pv_o (by omega)]; exact hst
      refine k_aload_n C dX5_endCall_5 rfl ?_
      refine k_aload_n C dX5_endCall_6 rfl ?_
      refine j_geti C fX5_135 rfl (by first | decide | omega) (by first | assumption | rfl) dX5_endCall_7 ?_
      refine j_if_ne C 38 dX5_endCall_10 (by decide) (fun c10 => ?_) (fun c10 => ?_)
      · exact absurd e7 c10 -- stop
      · refine k_iload_n C dX5_endCall_13 rfl ?_
        refine j_iconst (v := -1) C dX5_endCall_14 (by decide) ?_
        refine j_icmp_eq C 42 dX5_endCall_15 (by decide) (fun c15 => ?_) (fun c15 => ?_)
        · exact absurd c15 (nI_m1 (a := 6 * 6 + i) (by omega)) -- stop
        · refine k_aload_n C dX5_endCall_18 rfl ?_
          refine j_getr C fX5_57 rfl (by first | decide | omega) (by first | assumption | rfl) (congrFun hr _) dX5_endCall_19 ?_
          refine k_aload_n C dX5_endCall_22 rfl ?_
          refine j_geti C fX5_151 rfl (by first | decide | omega) (by first | assumption | rfl) dX5_endCall_23 ?_
          refine j_iconst (v := 1) C dX5_endCall_26 (by decide) ?_
          refine j_isub C dX5_endCall_27 ?_
          refine j_iald C (by first | decide | omega) (by first | assumption | rfl) (ei) (hM) (by decide) dX5_endCall_28 ?_
          refine k_aload_n C dX5_endCall_29 rfl ?_
          refine j_getr C fX5_30 rfl (by first | decide | omega) (by first | assumption | rfl) (congrFun hr _) dX5_endCall_30 ?_
          refine k_iload_n C dX5_endCall_33 rfl ?_
          refine j_iald C (by first | decide | omega) (by first | assumption | rfl) (rfl) ((by omega)) (by decide) dX5_endCall_34 ?_
          refine j_icmp_ne C 42 dX5_endCall_35 (by decide) (fun c35 => ?_) (fun c35 => ?_)
          · rw [f77, f86, nI_eq (by omega) (by omega)] at c35
            refine j_iconst (v := 0) C dX5_endCall_42 (by decide) ?_
            first | exact fin1 false (by rw [decide_eq_false c35]; rfl) | exact fin1 true (by rw [decide_eq_true c35]; rfl)
          · rw [f77, f86, nI_eq (by omega) (by omega)] at c35
            refine j_iconst (v := 1) C dX5_endCall_38 (by decide) ?_
            refine j_goto C 43 dX5_endCall_39 (by decide) ?_
            first | exact fin1 false (by rw [decide_eq_false c35]; rfl) | exact fin1 true (by rw [decide_eq_true c35]; rfl)
end XA
