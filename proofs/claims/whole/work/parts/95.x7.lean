section X7
variable {l : Launch} {w : jW} {h0 g1 gE g g' : jH} {t : Nat → Nat} {n : Nat} {dc gd ty ip : Bool} {H : Nat → Prop} {L c a s : Nat} {q qs : TA} {f f2 : CL} {e : List Ev} {x y : Int32} {sm : Option (Nat × CL)} {pd : Option CL}
theorem r_endFactor (hw : jok w) (T : xT h0 t n dc) (hn : n ≤ 120) (han : a ≤ n) (hL : L ≤ 8) (hsm : ∀ z, sm = some z → z.1 = 5 ∨ z.1 = 6) (D : xD h0 gE g dc H L (c + cN sm + cN pd) a (qF qs sm pd) f s ty ip) (h88 : g.1 88 L = bI pd.isSome) (h87 : g.1 87 L = ssI sm) : jM l w yX5_endFactor cX5_endFactor 2 (some .boolean) 3 [.ref (jad w 70)] (pv g a true ty) (efP h0 gE t n dc H L c qs sm pd (prjR t n a f)) := by
  refine jM_of (by decide) hw (Nat.le_of_ble_eq_true rfl) ?_
  intro X C hl hR hnL hrt hE
  subst hl
  have C : jC X w cX5_endFactor RX5 := C
  have sa := D.1.2.2.2.1
  obtain ⟨hr, ht, hd⟩ := xT_g T D.1.1
  have start : J X w (if pek t n a = 46 then pv (prR dc g s (if pek t n (a + 1) = 49 then 7 else 6)) (a + 2) (true && (decide (pek t n (a + 1) = 48) || decide (pek t n (a + 1) = 49))) (ty && ip) else pv g a true ty) 11 [(0, .ref (jad w 70)), (1, .int (nI L))] [] → J X w (pv g a true ty) 0 [(0, .ref (jad w 70))] [] := by
    intro kk
    have e23 : (pv g a true ty).1 70 23 = nI (L + 1) := by rw [pv_o (by omega)]; exact D.1.2.1
    refine k_aload_n C dX5_endFactor_0 rfl ?_
    refine j_geti C fX5_151 rfl (by first | decide | omega) (by first | assumption | rfl) dX5_endFactor_1 ?_
    refine j_iconst (v := 1) C dX5_endFactor_4 (by decide) ?_
    refine j_isub C dX5_endFactor_5 ?_
    rw [e23, nI_pred]
    refine k_istore_n C dX5_endFactor_6 (by rw [hnL]; decide) ?_
    refine k_aload_n C dX5_endFactor_7 rfl ?_
    refine k_callV (k := 70) (ci := 5) (As := []) C mX5_203 (r_project hw hr ht hd D.1.2.2.1 (by omega) D.2.2.1 (by omega)) jCl5.1 (by first | decide | omega) (by first | assumption | rfl) rfl rfl (Nat.le_of_ble_eq_true rfl) (jroom hR (by first | decide | omega) (by decide)) dX5_endFactor_8 ?_
    rintro v9 h9 ⟨rfl, rfl⟩
    exact kk
  refine start ?_
  cases hpr : prjR t n a f with
  | none =>
    rw [hpr] at hE
    have e46 : pek t n a = 46 := by
      by_cases z : pek t n a = 46
      · exact z
      · unfold prjR at hpr; rw [if_neg z] at hpr; cases hpr
    have e48 : ¬ pek t n (a + 1) = 48 := fun z => by unfold prjR at hpr; rw [if_pos e46, if_pos z] at hpr; cases hpr
    have e49 : ¬ pek t n (a + 1) = 49 := fun z => by unfold prjR at hpr; rw [if_pos e46, if_neg e48, if_pos z] at hpr; cases hpr
    have B3 : ∀ (g : jH) (a : Nat) (ty : Bool) (s : Nat), xB h0 gE g L s → s ≤ 124 → a ≤ 190 → J X w (pv g a false ty) 71 [(0, .ref (jad w 70)), (1, .int (nI L))] [] := by
      intro g a ty s B hs ha
      obtain ⟨hr, ht, hd⟩ := xT_g T B.1
      have B' : ∀ v, xB h0 gE (up2 g.1 87 L v, g.2) L s := fun v => xB_lv (by omega) B
      have hp : ∀ (b : Nat) (v : Int32), ((up2 (pv g b false ty).1 87 L v, (pv g b false ty).2) : jH) = pv (up2 g.1 87 L v, g.2) b false ty := fun b v => pv_put (by omega)
      have e87 : ∀ (b : Nat) (v : Int32) (ty : Bool), (pv (up2 g.1 87 L v, g.2) b false ty).1 87 L = v := fun b v ty => by rw [pv_o (by omega)]; exact up2_s
      have e87' : ∀ (b : Nat) (v : Int32) (ty : Bool), (pv (grw (up2 g.1 87 L v, g.2) 1) b false ty).1 87 L = v := fun b v ty => by rw [pv_o (by omega), grw_o (by omega)]; exact up2_s
      have fin : ∀ (v : Int32) (b : Nat), ¬ v = 0 → b ≤ 200 → J X w (pv (up2 g.1 87 L v, g.2) b false ty) 104 [(0, .ref (jad w 70)), (1, .int (nI L))] [] := by
        intro v b hv hb
        obtain ⟨i, hi⟩ := (B' v).2.2.2.2
        refine k_aload_n C dX5_endFactor_104 rfl ?_
        refine j_getr C fX5_60 rfl (by first | decide | omega) (by first | assumption | rfl) (congrFun hr _) dX5_endFactor_105 ?_
        refine k_iload_n C dX5_endFactor_108 rfl ?_
        refine j_iald C (by first | decide | omega) (by first | assumption | rfl) (rfl) ((by omega)) (by decide) dX5_endFactor_109 ?_
        refine j_if_eq C 117 dX5_endFactor_110 (by decide) (fun c110 => ?_) (fun c110 => ?_)
        · exact absurd ((e87 b v ty).symm.trans c110) hv -- stop
        · refine k_aload_n C dX5_endFactor_113 rfl ?_
          refine k_callV (k := 70) (ci := 5) (As := []) C mX5_209 (r_keep hw hi) jCl5.1 (by first | decide | omega) (by first | assumption | rfl) rfl rfl (Nat.le_of_ble_eq_true rfl) (jroom hR (by first | decide | omega) (by decide)) dX5_endFactor_114 ?_
          rintro v9 h9 ⟨rfl, rfl⟩
          refine k_aload_n C dX5_endFactor_117 rfl ?_
          refine j_getr C fX5_60 rfl (by first | decide | omega) (by first | assumption | rfl) (congrFun hr _) dX5_endFactor_118 ?_
          refine k_iload_n C dX5_endFactor_121 rfl ?_
          refine j_iald C (by first | decide | omega) (by first | assumption | rfl) (rfl) ((by omega)) (by decide) dX5_endFactor_122 ?_
          refine j_if_eq C 130 dX5_endFactor_123 (by decide) (fun c123 => ?_) (fun c123 => ?_)
          · exact absurd ((e87' b v _).symm.trans c123) hv -- stop
          · refine j_iconst (v := 1) C dX5_endFactor_126 (by decide) ?_
            refine j_goto C 131 dX5_endFactor_127 (by decide) ?_
            exact j_zret C hrt (rfl) hE dX5_endFactor_131 (⟨true, _, _, _, s, rfl, rfl, hb, hs, xB_grw (B' v)⟩)
      by_cases c43 : pek t n a = 43
      · have b43 : (pek t n a == 43) = true := by simp [c43]
        refine k_aload_n C dX5_endFactor_71 rfl ?_
        refine j_getr C fX5_60 rfl (by first | decide | omega) (by first | assumption | rfl) (congrFun hr _) dX5_endFactor_72 ?_
        refine k_iload_n C dX5_endFactor_75 rfl ?_
        refine k_aload_n C dX5_endFactor_76 rfl ?_
        refine j_bipush (v := 43) C dX5_endFactor_77 (by decide) ?_
        refine k_callV (k := 70) (ci := 5) (As := [.int (nI 43)]) C mX5_127 (r_pass hw hr ht (by omega) (ch := 43) (by decide)) jCl5.1 (by first | decide | omega) (by first | assumption | rfl) rfl rfl (Nat.le_of_ble_eq_true rfl) (jroom hR (by first | decide | omega) (by decide)) dX5_endFactor_79 ?_
        rintro v9 h9 ⟨rfl, rfl⟩
        rw [b43, if_pos c43]
        refine j_if_eq C 89 dX5_endFactor_82 (by decide) (fun c82 => ?_) (fun c82 => ?_)
        · exact absurd c82 (by decide) -- stop
        · refine j_iconst (v := 3) C dX5_endFactor_85 (by decide) ?_
          refine j_goto C 103 dX5_endFactor_86 (by decide) ?_
          refine j_iast C (by first | decide | omega) (by first | assumption | rfl) (rfl) ((by omega)) (by decide) dX5_endFactor_103 ?_
          refine jeqh (hp _ _) ?_
          exact fin 3 (a + 1) (by decide) (by omega)
      · have b43 : (pek t n a == 43) = false := by simp [c43]
        by_cases c45 : pek t n a = 45
        · have b45 : (pek t n a == 45) = true := by simp [c45]
          refine k_aload_n C dX5_endFactor_71 rfl ?_
          refine j_getr C fX5_60 rfl (by first | decide | omega) (by first | assumption | rfl) (congrFun hr _) dX5_endFactor_72 ?_
          refine k_iload_n C dX5_endFactor_75 rfl ?_
          refine k_aload_n C dX5_endFactor_76 rfl ?_
          refine j_bipush (v := 43) C dX5_endFactor_77 (by decide) ?_
          refine k_callV (k := 70) (ci := 5) (As := [.int (nI 43)]) C mX5_127 (r_pass hw hr ht (by omega) (ch := 43) (by decide)) jCl5.1 (by first | decide | omega) (by first | assumption | rfl) rfl rfl (Nat.le_of_ble_eq_true rfl) (jroom hR (by first | decide | omega) (by decide)) dX5_endFactor_79 ?_
          rintro v9 h9 ⟨rfl, rfl⟩
          rw [b43, if_neg c43]
          refine j_if_eq C 89 dX5_endFactor_82 (by decide) (fun c82 => ?_) (fun c82 => ?_)
          · refine k_aload_n C dX5_endFactor_89 rfl ?_
            refine j_bipush (v := 45) C dX5_endFactor_90 (by decide) ?_
            refine k_callV (k := 70) (ci := 5) (As := [.int (nI 45)]) C mX5_127 (r_pass hw hr ht (by omega) (ch := 45) (by decide)) jCl5.1 (by first | decide | omega) (by first | assumption | rfl) rfl rfl (Nat.le_of_ble_eq_true rfl) (jroom hR (by first | decide | omega) (by decide)) dX5_endFactor_92 ?_
            rintro v9 h9 ⟨rfl, rfl⟩
            rw [b45, if_pos c45]
            refine j_if_eq C 102 dX5_endFactor_95 (by decide) (fun c95 => ?_) (fun c95 => ?_)
            · exact absurd c95 (by decide) -- stop
            · refine j_iconst (v := 4) C dX5_endFactor_98 (by decide) ?_
              refine j_goto C 103 dX5_endFactor_99 (by decide) ?_
              refine j_iast C (by first | decide | omega) (by first | assumption | rfl) (rfl) ((by omega)) (by decide) dX5_endFactor_103 ?_
              refine jeqh (hp _ _) ?_
              exact fin 4 (a + 1) (by decide) (by omega)
          · exact absurd rfl c82 -- stop
        · have b45 : (pek t n a == 45) = false := by simp [c45]
          refine k_aload_n C dX5_endFactor_71 rfl ?_
          refine j_getr C fX5_60 rfl (by first | decide | omega) (by first | assumption | rfl) (congrFun hr _) dX5_endFactor_72 ?_
          refine k_iload_n C dX5_endFactor_75 rfl ?_
          refine k_aload_n C dX5_endFactor_76 rfl ?_
          refine j_bipush (v := 43) C dX5_endFactor_77 (by decide) ?_
          refine k_callV (k := 70) (ci := 5) (As := [.int (nI 43)]) C mX5_127 (r_pass hw hr ht (by omega) (ch := 43) (by decide)) jCl5.1 (by first | decide | omega) (by first | assumption | rfl) rfl rfl (Nat.le_of_ble_eq_true rfl) (jroom hR (by first | decide | omega) (by decide)) dX5_endFactor_79 ?_
          rintro v9 h9 ⟨rfl, rfl⟩
          rw [b43, if_neg c43]
          refine j_if_eq C 89 dX5_endFactor_82 (by decide) (fun c82 => ?_) (fun c82 => ?_)
          · refine k_aload_n C dX5_endFactor_89 rfl ?_
            refine j_bipush (v := 45) C dX5_endFactor_90 (by decide) ?_
            refine k_callV (k := 70) (ci := 5) (As := [.int (nI 45)]) C mX5_127 (r_pass hw hr ht (by omega) (ch := 45) (by decide)) jCl5.1 (by first | decide | omega) (by first | assumption | rfl) rfl rfl (Nat.le_of_ble_eq_true rfl) (jroom hR (by first | decide | omega) (by decide)) dX5_endFactor_92 ?_
            rintro v9 h9 ⟨rfl, rfl⟩
            rw [b45, if_neg c45]
            refine j_if_eq C 102 dX5_endFactor_95 (by decide) (fun c95 => ?_) (fun c95 => ?_)
            · refine j_iconst (v := 0) C dX5_endFactor_102 (by decide) ?_
              refine j_iast C (by first | decide | omega) (by first | assumption | rfl) (rfl) ((by omega)) (by decide) dX5_endFactor_103 ?_
              refine jeqh (hp _ _) ?_
              refine k_aload_n C dX5_endFactor_104 rfl ?_
              refine j_getr C fX5_60 rfl (by first | decide | omega) (by first | assumption | rfl) (congrFun hr _) dX5_endFactor_105 ?_
              refine k_iload_n C dX5_endFactor_108 rfl ?_
              refine j_iald C (by first | decide | omega) (by first | assumption | rfl) (rfl) ((by omega)) (by decide) dX5_endFactor_109 ?_
              refine j_if_eq C 117 dX5_endFactor_110 (by decide) (fun c110 => ?_) (fun c110 => ?_)
              · refine k_aload_n C dX5_endFactor_117 rfl ?_
                refine j_getr C fX5_60 rfl (by first | decide | omega) (by first | assumption | rfl) (congrFun hr _) dX5_endFactor_118 ?_
                refine k_iload_n C dX5_endFactor_121 rfl ?_
                refine j_iald C (by first | decide | omega) (by first | assumption | rfl) (rfl) ((by omega)) (by decide) dX5_endFactor_122 ?_
                refine j_if_eq C 130 dX5_endFactor_123 (by decide) (fun c123 => ?_) (fun c123 => ?_)
                · refine j_iconst (v := 0) C dX5_endFactor_130 (by decide) ?_
                  exact j_zret C hrt (rfl) hE dX5_endFactor_131 (⟨false, _, _, _, s, rfl, rfl, (by omega), hs, B' 0⟩)
                · exact absurd (e87 a 0 ty) c123 -- stop
              · exact absurd (e87 a 0 ty) c110 -- stop
            · exact absurd rfl c95 -- stop
          · exact absurd rfl c82 -- stop
    have B2 : ∀ (g : jH) (a : Nat) (ty : Bool) (s : Nat), xB h0 gE g L s → s ≤ 123 → a ≤ 180 → J X w (pv g a false ty) 25 [(0, .ref (jad w 70)), (1, .int (nI L))] [] := by
      intro g a ty s B hs ha
      obtain ⟨hr, ht, hd⟩ := xT_g T B.1
      have B' : ∀ v, xB h0 gE (up2 g.1 88 L v, g.2) L s := fun v => xB_lv (by omega) B
      have hp : ∀ (b : Nat) (v : Int32), ((up2 (pv g b false ty).1 88 L v, (pv g b false ty).2) : jH) = pv (up2 g.1 88 L v, g.2) b false ty := fun b v => pv_put (by omega)
      have e88 : ∀ (b : Nat) (v : Int32) (ty : Bool), (pv (up2 g.1 88 L v, g.2) b false ty).1 88 L = v := fun b v ty => by rw [pv_o (by omega)]; exact up2_s
      by_cases c42 : pek t n a = 42
      · have b42 : (pek t n a == 42) = true := by simp [c42]
        obtain ⟨i, hi⟩ := (B' 1).2.2.2.2
        refine k_aload_n C dX5_endFactor_25 rfl ?_
        refine j_getr C fX5_63 rfl (by first | decide | omega) (by first | assumption | rfl) (congrFun hr _) dX5_endFactor_26 ?_
        refine k_iload_n C dX5_endFactor_29 rfl ?_
        refine k_aload_n C dX5_endFactor_30 rfl ?_
        refine j_bipush (v := 42) C dX5_endFactor_31 (by decide) ?_
        refine k_callV (k := 70) (ci := 5) (As := [.int (nI 42)]) C mX5_127 (r_pass hw hr ht (by omega) (ch := 42) (by decide)) jCl5.1 (by first | decide | omega) (by first | assumption | rfl) rfl rfl (Nat.le_of_ble_eq_true rfl) (jroom hR (by first | decide | omega) (by decide)) dX5_endFactor_33 ?_
        rintro v9 h9 ⟨rfl, rfl⟩
        rw [b42, if_pos c42]
        refine j_zast C (by first | decide | omega) (by first | assumption | rfl) (rfl) ((by omega)) (by decide) (bI_01 true) dX5_endFactor_36 ?_
        refine jeqh (hp _ _) ?_
        refine k_aload_n C dX5_endFactor_37 rfl ?_
        refine j_getr C fX5_63 rfl (by first | decide | omega) (by first | assumption | rfl) (congrFun hr _) dX5_endFactor_38 ?_
        refine k_iload_n C dX5_endFactor_41 rfl ?_
        refine j_zald C (by first | decide | omega) (by first | assumption | rfl) (rfl) ((by omega)) (by decide) dX5_endFactor_42 ?_
        refine j_if_eq C 52 dX5_endFactor_43 (by decide) (fun c43 => ?_) (fun c43 => ?_)
        · exact absurd ((e88 (a + 1) (bI true) ty).symm.trans c43) (by decide) -- stop
        · refine k_aload_n C dX5_endFactor_46 rfl ?_
          refine k_callV (k := 70) (ci := 5) (As := []) C mX5_209 (r_keep hw hi) jCl5.1 (by first | decide | omega) (by first | assumption | rfl) rfl rfl (Nat.le_of_ble_eq_true rfl) (jroom hR (by first | decide | omega) (by decide)) dX5_endFactor_47 ?_
          rintro v9 h9 ⟨rfl, rfl⟩
          refine j_iconst (v := 1) C dX5_endFactor_50 (by decide) ?_
          exact j_zret C hrt (rfl) hE dX5_endFactor_51 (⟨true, _, _, _, s, rfl, rfl, (by omega), (by omega), xB_grw (B' _)⟩)
      · have b42 : (pek t n a == 42) = false := by simp [c42]
        obtain ⟨i, hi⟩ := (B' 0).2.2.2.2
        have hr' : (up2 g.1 88 L 0, g.2).2.1 70 = rMap := hr
        refine k_aload_n C dX5_endFactor_25 rfl ?_
        refine j_getr C fX5_63 rfl (by first | decide | omega) (by first | assumption | rfl) (congrFun hr _) dX5_endFactor_26 ?_
        refine k_iload_n C dX5_endFactor_29 rfl ?_
        refine k_aload_n C dX5_endFactor_30 rfl ?_
        refine j_bipush (v := 42) C dX5_endFactor_31 (by decide) ?_
        refine k_callV (k := 70) (ci := 5) (As := [.int (nI 42)]) C mX5_127 (r_pass hw hr ht (by omega) (ch := 42) (by decide)) jCl5.1 (by first | decide | omega) (by first | assumption | rfl) rfl rfl (Nat.le_of_ble_eq_true rfl) (jroom hR (by first | decide | omega) (by decide)) dX5_endFactor_33 ?_
        rintro v9 h9 ⟨rfl, rfl⟩
        rw [b42, if_neg c42]
        refine j_zast C (by first | decide | omega) (by first | assumption | rfl) (rfl) ((by omega)) (by decide) (bI_01 false) dX5_endFactor_36 ?_
        refine jeqh (hp _ _) ?_
        refine k_aload_n C dX5_endFactor_37 rfl ?_
        refine j_getr C fX5_63 rfl (by first | decide | omega) (by first | assumption | rfl) (congrFun hr _) dX5_endFactor_38 ?_
        refine k_iload_n C dX5_endFactor_41 rfl ?_
        refine j_zald C (by first | decide | omega) (by first | assumption | rfl) (rfl) ((by omega)) (by decide) dX5_endFactor_42 ?_
        refine j_if_eq C 52 dX5_endFactor_43 (by decide) (fun c43 => ?_) (fun c43 => ?_)
        · refine k_aload_n C dX5_endFactor_52 rfl ?_
          refine j_getr C fX5_60 rfl (by first | decide | omega) (by first | assumption | rfl) (congrFun hr _) dX5_endFactor_53 ?_
          refine k_iload_n C dX5_endFactor_56 rfl ?_
          refine j_iald C (by first | decide | omega) (by first | assumption | rfl) (rfl) ((by omega)) (by decide) dX5_endFactor_57 ?_
          refine j_if_eq C 71 dX5_endFactor_58 (by decide) (fun c58 => ?_) (fun c58 => ?_)
          · first | exact B3 _ _ _ _ (B' 0) (by omega) (by omega) | exact B3 _ _ _ _ (xB_op (B' 0)) (by have := sD_le (dc := dc) (s := s); omega) (by omega)
          · refine k_aload_n C dX5_endFactor_61 rfl ?_
            refine k_aload_n C dX5_endFactor_62 rfl ?_
            refine j_getr C fX5_60 rfl (by first | decide | omega) (by first | assumption | rfl) (congrFun hr _) dX5_endFactor_63 ?_
            refine k_iload_n C dX5_endFactor_66 rfl ?_
            refine j_iald C (by first | decide | omega) (by first | assumption | rfl) (rfl) ((by omega)) (by decide) dX5_endFactor_67 ?_
            refine k_callV (k := 70) (ci := 5) (As := [.int ((pv (up2 g.1 88 L (bI false), g.2) a false ty).1 87 L)]) C mX5_206 (r_operate hw (g := (up2 g.1 88 L (bI false), g.2)) hr' (by dsimp only; rw [up2_n (by omega)]; exact hd) (B' 0).2.2.2.1 (by omega) hi ((pv (up2 g.1 88 L (bI false), g.2) a false ty).1 87 L)) jCl5.1 (by first | decide | omega) (by first | assumption | rfl) rfl rfl (Nat.le_of_ble_eq_true rfl) (jroom hR (by first | decide | omega) (by decide)) dX5_endFactor_68 ?_
            rintro v9 h9 ⟨rfl, rfl⟩
            first | exact B3 _ _ _ _ (B' 0) (by omega) (by omega) | exact B3 _ _ _ _ (xB_op (B' 0)) (by have := sD_le (dc := dc) (s := s); omega) (by omega)
        · exact absurd (e88 a (bI false) ty) c43 -- stop
    have s1 := sD_le (dc := dc) (s := s)
    have B1 := xB_prj (dc := dc) (kr := if pek t n (a + 1) = 49 then 7 else 6) (xB_of D)
    have s2 := sD_le (dc := dc) (s := sD dc s)
    rw [if_pos e46, decide_eq_false e48, decide_eq_false e49]
    obtain ⟨i, hi⟩ := B1.2.2.2.2
    obtain ⟨hr1, ht1, hd1⟩ := xT_g T B1.1
    refine k_aload_n C dX5_endFactor_11 rfl ?_
    refine j_getr C fX5_63 rfl (by first | decide | omega) (by first | assumption | rfl) (congrFun hr1 _) dX5_endFactor_12 ?_
    refine k_iload_n C dX5_endFactor_15 rfl ?_
    refine j_zald C (by first | decide | omega) (by first | assumption | rfl) (rfl) ((by omega)) (by decide) dX5_endFactor_16 ?_
    refine j_if_eq C 25 dX5_endFactor_17 (by decide) (fun c17 => ?_) (fun c17 => ?_)
    · first | exact B2 _ _ _ _ B1 (by omega) (by omega) | exact B2 _ _ _ _ (xB_op B1) (by omega) (by omega)
    · refine k_aload_n C dX5_endFactor_20 rfl ?_
      refine j_iconst (v := 5) C dX5_endFactor_21 (by decide) ?_
      refine k_callV (k := 70) (ci := 5) (As := [.int 5]) C mX5_206 (r_operate hw hr1 hd1 B1.2.2.2.1 (by omega) hi 5) jCl5.1 (by first | decide | omega) (by first | assumption | rfl) rfl rfl (Nat.le_of_ble_eq_true rfl) (jroom hR (by first | decide | omega) (by decide)) dX5_endFactor_22 ?_
      rintro v9 h9 ⟨rfl, rfl⟩
      first | exact B2 _ _ _ _ B1 (by omega) (by omega) | exact B2 _ _ _ _ (xB_op B1) (by omega) (by omega)
  | some p =>
    obtain ⟨a1, f1⟩ := p
    rw [hpr] at hE
    have ha1 : a1 ≤ n + 2 := by
      unfold prjR at hpr
      split at hpr
      · split at hpr
        · simp only [Option.some.injEq, Prod.mk.injEq] at hpr; omega
        · split at hpr
          · simp only [Option.some.injEq, Prod.mk.injEq] at hpr; omega
          · cases hpr
      · simp only [Option.some.injEq, Prod.mk.injEq] at hpr; omega
    have P3 : ∀ (g : jH) (ty ip : Bool) (s : Nat), xD h0 gE g dc H L c a1 qs (fSm sm (fPr pd f1)) s ty ip → g.1 88 L = 0 → pek t n a1 ≠ 42 → J X w (pv g a1 true ty) 71 [(0, .ref (jad w 70)), (1, .int (nI L))] [] := by
      intro g ty ip s D h88 c42
      obtain ⟨hr, ht, hd⟩ := xT_g T D.1.1
      have D' : ∀ v, xD h0 gE (up2 g.1 87 L v, g.2) dc H L c a1 qs (fSm sm (fPr pd f1)) s ty ip := fun v => xD_lv (by omega) D
      have hp : ∀ (b : Nat) (v : Int32), ((up2 (pv g b true ty).1 87 L v, (pv g b true ty).2) : jH) = pv (up2 g.1 87 L v, g.2) b true ty := fun b v => pv_put (by omega)
      have e87 : ∀ (b : Nat) (v : Int32) (ty : Bool), (pv (up2 g.1 87 L v, g.2) b true ty).1 87 L = v := fun b v ty => by rw [pv_o (by omega)]; exact up2_s
      have e87' : ∀ (b : Nat) (v : Int32) (ty : Bool), (pv (grw (up2 g.1 87 L v, g.2) 1) b true ty).1 87 L = v := fun b v ty => by rw [pv_o (by omega), grw_o (by omega)]; exact up2_s
      have fin : ∀ (v : Int32), ¬ v = 0 → (pek t n a1 = 43 ∨ pek t n a1 = 45) → v = ssI (some (if pek t n a1 = 43 then 5 else 6, fSm sm (fPr pd f1))) → J X w (pv (up2 g.1 87 L v, g.2) (a1 + 1) true ty) 104 [(0, .ref (jad w 70)), (1, .int (nI L))] [] := by
        intro v hv hc hv2
        obtain ⟨K, N⟩ := xD_keep (by omega) (D' v)
        refine k_aload_n C dX5_endFactor_104 rfl ?_
        refine j_getr C fX5_60 rfl (by first | decide | omega) (by first | assumption | rfl) (congrFun hr _) dX5_endFactor_105 ?_
        refine k_iload_n C dX5_endFactor_108 rfl ?_
        refine j_iald C (by first | decide | omega) (by first | assumption | rfl) (rfl) ((by omega)) (by decide) dX5_endFactor_109 ?_
        refine j_if_eq C 117 dX5_endFactor_110 (by decide) (fun c110 => ?_) (fun c110 => ?_)
        · exact absurd ((e87 (a1 + 1) v ty).symm.trans c110) hv -- stop
        · refine k_aload_n C dX5_endFactor_113 rfl ?_
          refine k_callV (k := 70) (ci := 5) (As := []) C mX5_209 (r_keep hw (D' v).2.2.1) jCl5.1 (by first | decide | omega) (by first | assumption | rfl) rfl rfl (Nat.le_of_ble_eq_true rfl) (jroom hR (by first | decide | omega) (by decide)) dX5_endFactor_114 ?_
          rintro v9 h9 ⟨rfl, rfl⟩
          refine k_aload_n C dX5_endFactor_117 rfl ?_
          refine j_getr C fX5_60 rfl (by first | decide | omega) (by first | assumption | rfl) (congrFun hr _) dX5_endFactor_118 ?_
          refine k_iload_n C dX5_endFactor_121 rfl ?_
          refine j_iald C (by first | decide | omega) (by first | assumption | rfl) (rfl) ((by omega)) (by decide) dX5_endFactor_122 ?_
          refine j_if_eq C 130 dX5_endFactor_123 (by decide) (fun c123 => ?_) (fun c123 => ?_)
          · exact absurd ((e87' (a1 + 1) v _).symm.trans c123) hv -- stop
          · refine j_iconst (v := 1) C dX5_endFactor_126 (by decide) ?_
            refine j_goto C 131 dX5_endFactor_127 (by decide) ?_
            exact j_zret C hrt (rfl) hE dX5_endFactor_131 (⟨true, _, _, _, s, rfl, rfl, Or.inr (Or.inl ⟨c42, hc, rfl, rfl, K, N, by rw [grw_o (by omega)]; dsimp only; rw [up2_n (by omega)]; exact h88, by rw [grw_o (by omega)]; dsimp only; rw [up2_s]; exact hv2⟩)⟩)
      by_cases c43 : pek t n a1 = 43
      · have b43 : (pek t n a1 == 43) = true := by simp [c43]
        refine k_aload_n C dX5_endFactor_71 rfl ?_
        refine j_getr C fX5_60 rfl (by first | decide | omega) (by first | assumption | rfl) (congrFun hr _) dX5_endFactor_72 ?_
        refine k_iload_n C dX5_endFactor_75 rfl ?_
        refine k_aload_n C dX5_endFactor_76 rfl ?_
        refine j_bipush (v := 43) C dX5_endFactor_77 (by decide) ?_
        refine k_callV (k := 70) (ci := 5) (As := [.int (nI 43)]) C mX5_127 (r_pass hw hr ht (by omega) (ch := 43) (by decide)) jCl5.1 (by first | decide | omega) (by first | assumption | rfl) rfl rfl (Nat.le_of_ble_eq_true rfl) (jroom hR (by first | decide | omega) (by decide)) dX5_endFactor_79 ?_
        rintro v9 h9 ⟨rfl, rfl⟩
        rw [b43, if_pos c43]
        refine j_if_eq C 89 dX5_endFactor_82 (by decide) (fun c82 => ?_) (fun c82 => ?_)
        · exact absurd c82 (by decide) -- stop
        · refine j_iconst (v := 3) C dX5_endFactor_85 (by decide) ?_
          refine j_goto C 103 dX5_endFactor_86 (by decide) ?_
          refine j_iast C (by first | decide | omega) (by first | assumption | rfl) (rfl) ((by omega)) (by decide) dX5_endFactor_103 ?_
          refine jeqh (hp _ _) ?_
          exact fin 3 (by decide) (Or.inl c43) (by rw [if_pos c43]; rfl)
      · have b43 : (pek t n a1 == 43) = false := by simp [c43]
        by_cases c45 : pek t n a1 = 45
        · have b45 : (pek t n a1 == 45) = true := by simp [c45]
          refine k_aload_n C dX5_endFactor_71 rfl ?_
          refine j_getr C fX5_60 rfl (by first | decide | omega) (by first | assumption | rfl) (congrFun hr _) dX5_endFactor_72 ?_
          refine k_iload_n C dX5_endFactor_75 rfl ?_
          refine k_aload_n C dX5_endFactor_76 rfl ?_
          refine j_bipush (v := 43) C dX5_endFactor_77 (by decide) ?_
          refine k_callV (k := 70) (ci := 5) (As := [.int (nI 43)]) C mX5_127 (r_pass hw hr ht (by omega) (ch := 43) (by decide)) jCl5.1 (by first | decide | omega) (by first | assumption | rfl) rfl rfl (Nat.le_of_ble_eq_true rfl) (jroom hR (by first | decide | omega) (by decide)) dX5_endFactor_79 ?_
          rintro v9 h9 ⟨rfl, rfl⟩
          rw [b43, if_neg c43]
          refine j_if_eq C 89 dX5_endFactor_82 (by decide) (fun c82 => ?_) (fun c82 => ?_)
          · refine k_aload_n C dX5_endFactor_89 rfl ?_
            refine j_bipush (v := 45) C dX5_endFactor_90 (by decide) ?_
            refine k_callV (k := 70) (ci := 5) (As := [.int (nI 45)]) C mX5_127 (r_pass hw hr ht (by omega) (ch := 45) (by decide)) jCl5.1 (by first | decide | omega) (by first | assumption | rfl) rfl rfl (Nat.le_of_ble_eq_true rfl) (jroom hR (by first | decide | omega) (by decide)) dX5_endFactor_92 ?_
            rintro v9 h9 ⟨rfl, rfl⟩
            rw [b45, if_pos c45]
            refine j_if_eq C 102 dX5_endFactor_95 (by decide) (fun c95 => ?_) (fun c95 => ?_)
            · exact absurd c95 (by decide) -- stop
            · refine j_iconst (v := 4) C dX5_endFactor_98 (by decide) ?_
              refine j_goto C 103 dX5_endFactor_99 (by decide) ?_
              refine j_iast C (by first | decide | omega) (by first | assumption | rfl) (rfl) ((by omega)) (by decide) dX5_endFactor_103 ?_
              refine jeqh (hp _ _) ?_
              exact fin 4 (by decide) (Or.inr c45) (by rw [if_neg c43]; rfl)
          · exact absurd rfl c82 -- stop
        · have b45 : (pek t n a1 == 45) = false := by simp [c45]
          refine k_aload_n C dX5_endFactor_71 rfl ?_
          refine j_getr C fX5_60 rfl (by first | decide | omega) (by first | assumption | rfl) (congrFun hr _) dX5_endFactor_72 ?_
          refine k_iload_n C dX5_endFactor_75 rfl ?_
          refine k_aload_n C dX5_endFactor_76 rfl ?_
          refine j_bipush (v := 43) C dX5_endFactor_77 (by decide) ?_
          refine k_callV (k := 70) (ci := 5) (As := [.int (nI 43)]) C mX5_127 (r_pass hw hr ht (by omega) (ch := 43) (by decide)) jCl5.1 (by first | decide | omega) (by first | assumption | rfl) rfl rfl (Nat.le_of_ble_eq_true rfl) (jroom hR (by first | decide | omega) (by decide)) dX5_endFactor_79 ?_
          rintro v9 h9 ⟨rfl, rfl⟩
          rw [b43, if_neg c43]
          refine j_if_eq C 89 dX5_endFactor_82 (by decide) (fun c82 => ?_) (fun c82 => ?_)
          · refine k_aload_n C dX5_endFactor_89 rfl ?_
            refine j_bipush (v := 45) C dX5_endFactor_90 (by decide) ?_
            refine k_callV (k := 70) (ci := 5) (As := [.int (nI 45)]) C mX5_127 (r_pass hw hr ht (by omega) (ch := 45) (by decide)) jCl5.1 (by first | decide | omega) (by first | assumption | rfl) rfl rfl (Nat.le_of_ble_eq_true rfl) (jroom hR (by first | decide | omega) (by decide)) dX5_endFactor_92 ?_
            rintro v9 h9 ⟨rfl, rfl⟩
            rw [b45, if_neg c45]
            refine j_if_eq C 102 dX5_endFactor_95 (by decide) (fun c95 => ?_) (fun c95 => ?_)
            · refine j_iconst (v := 0) C dX5_endFactor_102 (by decide) ?_
              refine j_iast C (by first | decide | omega) (by first | assumption | rfl) (rfl) ((by omega)) (by decide) dX5_endFactor_103 ?_
              refine jeqh (hp _ _) ?_
              refine k_aload_n C dX5_endFactor_104 rfl ?_
              refine j_getr C fX5_60 rfl (by first | decide | omega) (by first | assumption | rfl) (congrFun hr _) dX5_endFactor_105 ?_
              refine k_iload_n C dX5_endFactor_108 rfl ?_
              refine j_iald C (by first | decide | omega) (by first | assumption | rfl) (rfl) ((by omega)) (by decide) dX5_endFactor_109 ?_
              refine j_if_eq C 117 dX5_endFactor_110 (by decide) (fun c110 => ?_) (fun c110 => ?_)
              · refine k_aload_n C dX5_endFactor_117 rfl ?_
                refine j_getr C fX5_60 rfl (by first | decide | omega) (by first | assumption | rfl) (congrFun hr _) dX5_endFactor_118 ?_
                refine k_iload_n C dX5_endFactor_121 rfl ?_
                refine j_iald C (by first | decide | omega) (by first | assumption | rfl) (rfl) ((by omega)) (by decide) dX5_endFactor_122 ?_
                refine j_if_eq C 130 dX5_endFactor_123 (by decide) (fun c123 => ?_) (fun c123 => ?_)
                · refine j_iconst (v := 0) C dX5_endFactor_130 (by decide) ?_
                  exact j_zret C hrt (rfl) hE dX5_endFactor_131 (⟨false, _, _, _, s, rfl, rfl, Or.inr (Or.inr ⟨c42, c43, c45, rfl, rfl, ⟨ip, D' 0⟩, by dsimp only; rw [up2_n (by omega)]; exact h88, up2_s⟩)⟩)
                · exact absurd (e87 a1 0 ty) c123 -- stop
              · exact absurd (e87 a1 0 ty) c110 -- stop
            · exact absurd rfl c95 -- stop
          · exact absurd rfl c82 -- stop
    have P2 : ∀ (g : jH) (ty ip : Bool) (s : Nat), xD h0 gE g dc H L (c + cN sm) a1 (qP qs sm) (fPr pd f1) s ty ip → g.1 87 L = ssI sm → J X w (pv g a1 true ty) 25 [(0, .ref (jad w 70)), (1, .int (nI L))] [] := by
      intro g ty ip s D h87
      have sa := D.1.2.2.2.1
      obtain ⟨hr, ht, hd⟩ := xT_g T D.1.1
      have D' : ∀ v, xD h0 gE (up2 g.1 88 L v, g.2) dc H L (c + cN sm) a1 (qP qs sm) (fPr pd f1) s ty ip := fun v => xD_lv (by omega) D
      have hp : ∀ (b : Nat) (v : Int32), ((up2 (pv g b true ty).1 88 L v, (pv g b true ty).2) : jH) = pv (up2 g.1 88 L v, g.2) b true ty := fun b v => pv_put (by omega)
      have e88 : ∀ (b : Nat) (v : Int32) (ty : Bool), (pv (up2 g.1 88 L v, g.2) b true ty).1 88 L = v := fun b v ty => by rw [pv_o (by omega)]; exact up2_s
      have e87 : ∀ (b : Nat) (v : Int32) (ty : Bool), (pv (up2 g.1 88 L v, g.2) b true ty).1 87 L = ssI sm := fun b v ty => by rw [pv_o (by omega)]; dsimp only; rw [up2_n (by omega)]; exact h87
      by_cases c42 : pek t n a1 = 42
      · have b42 : (pek t n a1 == 42) = true := by simp [c42]
        obtain ⟨K, N⟩ := xD_keep (by omega) (D' (bI true))
        refine k_aload_n C dX5_endFactor_25 rfl ?_
        refine j_getr C fX5_63 rfl (by first | decide | omega) (by first | assumption | rfl) (congrFun hr _) dX5_endFactor_26 ?_
        refine k_iload_n C dX5_endFactor_29 rfl ?_
        refine k_aload_n C dX5_endFactor_30 rfl ?_
        refine j_bipush (v := 42) C dX5_endFactor_31 (by decide) ?_
        refine k_callV (k := 70) (ci := 5) (As := [.int (nI 42)]) C mX5_127 (r_pass hw hr ht (by omega) (ch := 42) (by decide)) jCl5.1 (by first | decide | omega) (by first | assumption | rfl) rfl rfl (Nat.le_of_ble_eq_true rfl) (jroom hR (by first | decide | omega) (by decide)) dX5_endFactor_33 ?_
        rintro v9 h9 ⟨rfl, rfl⟩
        rw [b42, if_pos c42]
        refine j_zast C (by first | decide | omega) (by first | assumption | rfl) (rfl) ((by omega)) (by decide) (bI_01 true) dX5_endFactor_36 ?_
        refine jeqh (hp _ _) ?_
        refine k_aload_n C dX5_endFactor_37 rfl ?_
        refine j_getr C fX5_63 rfl (by first | decide | omega) (by first | assumption | rfl) (congrFun hr _) dX5_endFactor_38 ?_
        refine k_iload_n C dX5_endFactor_41 rfl ?_
        refine j_zald C (by first | decide | omega) (by first | assumption | rfl) (rfl) ((by omega)) (by decide) dX5_endFactor_42 ?_
        refine j_if_eq C 52 dX5_endFactor_43 (by decide) (fun c43 => ?_) (fun c43 => ?_)
        · exact absurd ((e88 (a1 + 1) (bI true) ty).symm.trans c43) (by decide) -- stop
        · refine k_aload_n C dX5_endFactor_46 rfl ?_
          refine k_callV (k := 70) (ci := 5) (As := []) C mX5_209 (r_keep hw (D' (bI true)).2.2.1) jCl5.1 (by first | decide | omega) (by first | assumption | rfl) rfl rfl (Nat.le_of_ble_eq_true rfl) (jroom hR (by first | decide | omega) (by decide)) dX5_endFactor_47 ?_
          rintro v9 h9 ⟨rfl, rfl⟩
          refine j_iconst (v := 1) C dX5_endFactor_50 (by decide) ?_
          exact j_zret C hrt (rfl) hE dX5_endFactor_51 (⟨true, _, _, _, s, rfl, rfl, Or.inl ⟨c42, rfl, rfl, K, N, by rw [grw_o (by omega)]; exact up2_s, by rw [grw_o (by omega)]; dsimp only; rw [up2_n (by omega)]; exact h87⟩⟩)
      · have b42 : (pek t n a1 == 42) = false := by simp [c42]
        have hr' : (up2 g.1 88 L (bI false), g.2).2.1 70 = rMap := hr
        cases hsm2 : sm with
        | none =>
          have D3 := D' (bI false)
          rw [hsm2] at D3 e87 P3
          refine k_aload_n C dX5_endFactor_25 rfl ?_
          refine j_getr C fX5_63 rfl (by first | decide | omega) (by first | assumption | rfl) (congrFun hr _) dX5_endFactor_26 ?_
          refine k_iload_n C dX5_endFactor_29 rfl ?_
          refine k_aload_n C dX5_endFactor_30 rfl ?_
          refine j_bipush (v := 42) C dX5_endFactor_31 (by decide) ?_
          refine k_callV (k := 70) (ci := 5) (As := [.int (nI 42)]) C mX5_127 (r_pass hw hr ht (by omega) (ch := 42) (by decide)) jCl5.1 (by first | decide | omega) (by first | assumption | rfl) rfl rfl (Nat.le_of_ble_eq_true rfl) (jroom hR (by first | decide | omega) (by decide)) dX5_endFactor_33 ?_
          rintro v9 h9 ⟨rfl, rfl⟩
          rw [b42, if_neg c42]
          refine j_zast C (by first | decide | omega) (by first | assumption | rfl) (rfl) ((by omega)) (by decide) (bI_01 false) dX5_endFactor_36 ?_
          refine jeqh (hp _ _) ?_
          refine k_aload_n C dX5_endFactor_37 rfl ?_
          refine j_getr C fX5_63 rfl (by first | decide | omega) (by first | assumption | rfl) (congrFun hr _) dX5_endFactor_38 ?_
          refine k_iload_n C dX5_endFactor_41 rfl ?_
          refine j_zald C (by first | decide | omega) (by first | assumption | rfl) (rfl) ((by omega)) (by decide) dX5_endFactor_42 ?_
          refine j_if_eq C 52 dX5_endFactor_43 (by decide) (fun c43 => ?_) (fun c43 => ?_)
          · refine k_aload_n C dX5_endFactor_52 rfl ?_
            refine j_getr C fX5_60 rfl (by first | decide | omega) (by first | assumption | rfl) (congrFun hr _) dX5_endFactor_53 ?_
            refine k_iload_n C dX5_endFactor_56 rfl ?_
            refine j_iald C (by first | decide | omega) (by first | assumption | rfl) (rfl) ((by omega)) (by decide) dX5_endFactor_57 ?_
            refine j_if_eq C 71 dX5_endFactor_58 (by decide) (fun c58 => ?_) (fun c58 => ?_)
            · exact P3 _ _ _ _ D3 up2_s c42
            · exact absurd (e87 a1 (bI false) ty) c58 -- stop
          · exact absurd (e88 a1 (bI false) ty) c43 -- stop
        | some z =>
          have hz := hsm z hsm2
          have D3 := D' (bI false)
          rw [hsm2] at D3 e87 P3
          have hkr : (z.1 = 5 ∧ ssI (some z) = 3) ∨ (z.1 = 6 ∧ ssI (some z) = 4) ∨ (z.1 = 7 ∧ ssI (some z) = 5) := by
            rcases hz with y | y
            · left; exact ⟨y, show (if z.1 = 5 then (3 : Int32) else 4) = 3 from if_pos y⟩
            · right; left; exact ⟨y, show (if z.1 = 5 then (3 : Int32) else 4) = 4 from if_neg (by omega)⟩
          have hk0 : ¬ ssI (some z) = 0 := by rcases hkr with y | y | y <;> rw [y.2] <;> decide
          refine k_aload_n C dX5_endFactor_25 rfl ?_
          refine j_getr C fX5_63 rfl (by first | decide | omega) (by first | assumption | rfl) (congrFun hr _) dX5_endFactor_26 ?_
          refine k_iload_n C dX5_endFactor_29 rfl ?_
          refine k_aload_n C dX5_endFactor_30 rfl ?_
          refine j_bipush (v := 42) C dX5_endFactor_31 (by decide) ?_
          refine k_callV (k := 70) (ci := 5) (As := [.int (nI 42)]) C mX5_127 (r_pass hw hr ht (by omega) (ch := 42) (by decide)) jCl5.1 (by first | decide | omega) (by first | assumption | rfl) rfl rfl (Nat.le_of_ble_eq_true rfl) (jroom hR (by first | decide | omega) (by decide)) dX5_endFactor_33 ?_
          rintro v9 h9 ⟨rfl, rfl⟩
          rw [b42, if_neg c42]
          refine j_zast C (by first | decide | omega) (by first | assumption | rfl) (rfl) ((by omega)) (by decide) (bI_01 false) dX5_endFactor_36 ?_
          refine jeqh (hp _ _) ?_
          refine k_aload_n C dX5_endFactor_37 rfl ?_
          refine j_getr C fX5_63 rfl (by first | decide | omega) (by first | assumption | rfl) (congrFun hr _) dX5_endFactor_38 ?_
          refine k_iload_n C dX5_endFactor_41 rfl ?_
          refine j_zald C (by first | decide | omega) (by first | assumption | rfl) (rfl) ((by omega)) (by decide) dX5_endFactor_42 ?_
          refine j_if_eq C 52 dX5_endFactor_43 (by decide) (fun c43 => ?_) (fun c43 => ?_)
          · refine k_aload_n C dX5_endFactor_52 rfl ?_
            refine j_getr C fX5_60 rfl (by first | decide | omega) (by first | assumption | rfl) (congrFun hr _) dX5_endFactor_53 ?_
            refine k_iload_n C dX5_endFactor_56 rfl ?_
            refine j_iald C (by first | decide | omega) (by first | assumption | rfl) (rfl) ((by omega)) (by decide) dX5_endFactor_57 ?_
            refine j_if_eq C 71 dX5_endFactor_58 (by decide) (fun c58 => ?_) (fun c58 => ?_)
            · exact absurd ((e87 a1 (bI false) ty).symm.trans c58) hk0 -- stop
            · refine k_aload_n C dX5_endFactor_61 rfl ?_
              refine k_aload_n C dX5_endFactor_62 rfl ?_
              refine j_getr C fX5_60 rfl (by first | decide | omega) (by first | assumption | rfl) (congrFun hr _) dX5_endFactor_63 ?_
              refine k_iload_n C dX5_endFactor_66 rfl ?_
              refine j_iald C (by first | decide | omega) (by first | assumption | rfl) (rfl) ((by omega)) (by decide) dX5_endFactor_67 ?_
              rw [e87]
              refine k_callV (k := 70) (ci := 5) (As := [.int (ssI (some z))]) C mX5_206 (r_operate hw (g := (up2 g.1 88 L (bI false), g.2)) hr' (by dsimp only; rw [up2_n (by omega)]; exact hd) D3.1.2.2.1 (by omega) D3.2.2.1 (ssI (some z))) jCl5.1 (by first | decide | omega) (by first | assumption | rfl) rfl rfl (Nat.le_of_ble_eq_true rfl) (jroom hR (by first | decide | omega) (by decide)) dX5_endFactor_68 ?_
              rintro v9 h9 ⟨rfl, rfl⟩
              exact P3 _ _ _ _ (xD_op hkr D3) (by rw [opR_o (by omega) (by omega)]; exact up2_s) c42
          · exact absurd (e88 a1 (bI false) ty) c43 -- stop
    have P1 : ∀ (g : jH) (ty ip : Bool) (s : Nat), xD h0 gE g dc H L (c + cN sm + cN pd) a1 (qF qs sm pd) f1 s ty ip → g.1 88 L = bI pd.isSome → g.1 87 L = ssI sm → J X w (pv g a1 true ty) 11 [(0, .ref (jad w 70)), (1, .int (nI L))] [] := by
      intro g ty ip s D h88 h87
      have sa := D.1.2.2.2.1
      obtain ⟨hr, ht, hd⟩ := xT_g T D.1.1
      have e88 : (pv g a1 true ty).1 88 L = bI pd.isSome := by rw [pv_o (by omega)]; exact h88
      cases hpd : pd with
      | none =>
        rw [hpd] at D P2 e88
        refine k_aload_n C dX5_endFactor_11 rfl ?_
        refine j_getr C fX5_63 rfl (by first | decide | omega) (by first | assumption | rfl) (congrFun hr _) dX5_endFactor_12 ?_
        refine k_iload_n C dX5_endFactor_15 rfl ?_
        refine j_zald C (by first | decide | omega) (by first | assumption | rfl) (rfl) ((by omega)) (by decide) dX5_endFactor_16 ?_
        refine j_if_eq C 25 dX5_endFactor_17 (by decide) (fun c17 => ?_) (fun c17 => ?_)
        · exact P2 _ _ _ _ D h87
        · exact absurd e88 c17 -- stop
      | some fP =>
        rw [hpd] at D P2 e88
        refine k_aload_n C dX5_endFactor_11 rfl ?_
        refine j_getr C fX5_63 rfl (by first | decide | omega) (by first | assumption | rfl) (congrFun hr _) dX5_endFactor_12 ?_
        refine k_iload_n C dX5_endFactor_15 rfl ?_
        refine j_zald C (by first | decide | omega) (by first | assumption | rfl) (rfl) ((by omega)) (by decide) dX5_endFactor_16 ?_
        refine j_if_eq C 25 dX5_endFactor_17 (by decide) (fun c17 => ?_) (fun c17 => ?_)
        · exact absurd (e88.symm.trans c17) (show ¬ bI true = 0 by decide) -- stop
        · refine k_aload_n C dX5_endFactor_20 rfl ?_
          refine j_iconst (v := 5) C dX5_endFactor_21 (by decide) ?_
          refine k_callV (k := 70) (ci := 5) (As := [.int 5]) C mX5_206 (r_operate hw hr hd D.1.2.2.1 (by omega) D.2.2.1 5) jCl5.1 (by first | decide | omega) (by first | assumption | rfl) rfl rfl (Nat.le_of_ble_eq_true rfl) (jroom hR (by first | decide | omega) (by decide)) dX5_endFactor_22 ?_
          rintro v9 h9 ⟨rfl, rfl⟩
          exact P2 _ _ _ _ (xD_op (Or.inr (Or.inr ⟨rfl, rfl⟩)) D) (by rw [opR_o (by omega) (by omega)]; exact h87)
    unfold prjR at hpr
    by_cases e46 : pek t n a = 46
    · rw [if_pos e46] at hpr ⊢
      by_cases e48 : pek t n (a + 1) = 48
      · rw [if_pos e48] at hpr
        simp only [Option.some.injEq, Prod.mk.injEq] at hpr
        obtain ⟨rfl, rfl⟩ := hpr
        have e49 : ¬ pek t n (a + 1) = 49 := by omega
        rw [if_neg e49, decide_eq_true e48]
        exact P1 _ _ _ _ (xD_prj (Or.inl ⟨rfl, rfl⟩) D) (by rw [prR_o (by omega) (by omega)]; exact h88) (by rw [prR_o (by omega) (by omega)]; exact h87)
      · rw [if_neg e48] at hpr
        by_cases e49 : pek t n (a + 1) = 49
        · rw [if_pos e49] at hpr
          simp only [Option.some.injEq, Prod.mk.injEq] at hpr
          obtain ⟨rfl, rfl⟩ := hpr
          rw [if_pos e49, decide_eq_true e49, Bool.or_true]
          exact P1 _ _ _ _ (xD_prj (Or.inr ⟨rfl, rfl⟩) D) (by rw [prR_o (by omega) (by omega)]; exact h88) (by rw [prR_o (by omega) (by omega)]; exact h87)
        · rw [if_neg e49] at hpr; cases hpr
    · rw [if_neg e46] at hpr ⊢
      simp only [Option.some.injEq, Prod.mk.injEq] at hpr
      obtain ⟨rfl, rfl⟩ := hpr
      exact P1 _ _ _ _ D h88 h87
end X7
