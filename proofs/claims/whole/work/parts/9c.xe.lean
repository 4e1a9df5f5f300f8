def e2R (g : jH) (M : Nat) : jH := (up2 (up2 (grw (up2 g.1 86 M 1, g.2) 1).1 70 33 0) 70 23 (nI (M + 1)), g.2)
def e3R (g : jH) (M : Nat) : jH := (up2 (up2 (up2 (up2 g.1 86 M 2) 70 31 (g.1 70 31 - 1)) 70 33 1) 70 23 (nI M), g.2)
def ch0 (dc : Bool) (g : jH) (M s : Nat) : jH := emD dc (up2 g.1 90 M (nI s), g.2) s 8 0
def ptR (dc : Bool) (g : jH) (j : Nat) (v : Int32) : jH := if dc then g else (up2 g.1 83 (780 + j) v, g.2)
def ch1 (dc : Bool) (g : jH) (M s kq : Nat) (ip : Bool) : jH := emD dc (up2 (ptR dc (up2 g.1 89 M (bI ip), g.2) kq (nI (s + 1))).1 90 M (nI s), g.2) s 9 0
def ch2 (dc : Bool) (g : jH) (M s kq : Nat) (kp : Bool) : jH := (up2 (ptR dc (up2 g.1 70 33 (bI kp), g.2) kq (nI s)).1 70 23 (nI M), g.2)
section XE
variable {l : Launch} {w : jW} {h h0 g1 gE g g' : jH} {t : Nat → Nat} {n : Nat} {dc gd ty ip kp : Bool} {H : Nat → Prop} {L c a s M ow nm k st kq : Nat} {q qs : TA} {f f2 : CL} {e : List Ev} {tb : List HD} {x sg0 sg : Nat}
/-- the beginning of endSum -/
theorem eS_k {X : jX} (C : jC X w cX5_endSum RX5) (hnL : (jXc X).maxLocals = 4) (hr : g.2.1 70 = rMap) (h23 : g.1 70 23 = nI (M + 1)) (hM : M < 10) (hst : g.1 86 M = nI st) {v : Int32} {tgt : Nat} (hkd : g.1 85 M = v) (hsw : (v = 1 ∧ tgt = 56) ∨ (v = 2 ∧ tgt = 74) ∨ (v = 3 ∧ tgt = 166) ∨ (v = 4 ∧ tgt = 173)) (kk : J X w (pv (up2 g.1 86 M (nI (st + 1)), g.2) a gd ty) tgt [(0, .ref (jad w 70)), (1, .int (nI M)), (2, .int (nI st))] []) : J X w (pv g a gd ty) 0 [(0, .ref (jad w 70))] [] := by
  have e23 : (pv g a gd ty).1 70 23 = nI (M + 1) := by rw [pv_o (by omega)]; exact h23
  have e86 : (pv g a gd ty).1 86 M = nI st := by rw [pv_o (by omega)]; exact hst
  have e85 : (pv (up2 g.1 86 M (nI (st + 1)), g.2) a gd ty).1 85 M = v := by rw [pv_o (by omega)]; dsimp only; rw [up2_n (by omega)]; exact hkd
  have hr1 : (up2 g.1 86 M (nI (st + 1)), g.2).2.1 70 = rMap := hr
  refine k_aload_n C dX5_endSum_0 rfl ?_
  refine j_geti C fX5_151 rfl (by first | decide | omega) (by first | assumption | rfl) dX5_endSum_1 ?_
  refine j_iconst (v := 1) C dX5_endSum_4 (by decide) ?_
  refine j_isub C dX5_endSum_5 ?_
  rw [e23, nI_pred]
  refine k_istore_n C dX5_endSum_6 (by rw [hnL]; decide) ?_
  refine k_aload_n C dX5_endSum_7 rfl ?_
  refine j_getr C fX5_57 rfl (by first | decide | omega) (by first | assumption | rfl) (congrFun hr _) dX5_endSum_8 ?_
  refine k_iload_n C dX5_endSum_11 rfl ?_
  refine j_iald C (by first | decide | omega) (by first | assumption | rfl) (rfl) (hM) (by decide) dX5_endSum_12 ?_
  rw [e86]
  refine k_istore_n C dX5_endSum_13 (by rw [hnL]; decide) ?_
  refine k_aload_n C dX5_endSum_14 rfl ?_
  refine j_getr C fX5_57 rfl (by first | decide | omega) (by first | assumption | rfl) (congrFun hr _) dX5_endSum_15 ?_
  refine k_iload_n C dX5_endSum_18 rfl ?_
  refine k_iload_n C dX5_endSum_19 rfl ?_
  refine j_iconst (v := 1) C dX5_endSum_20 (by decide) ?_
  refine j_iadd C dX5_endSum_21 ?_
  rw [nI_1]
  refine j_iast C (by first | decide | omega) (by first | assumption | rfl) (rfl) (hM) (by decide) dX5_endSum_22 ?_
  refine jeqh (pv_put (by omega)) ?_
  refine k_aload_n C dX5_endSum_23 rfl ?_
  refine j_getr C fX5_54 rfl (by first | decide | omega) (by first | assumption | rfl) (congrFun hr1 _) dX5_endSum_24 ?_
  refine k_iload_n C dX5_endSum_27 rfl ?_
  refine j_iald C (by first | decide | omega) (by first | assumption | rfl) (rfl) (hM) (by decide) dX5_endSum_28 ?_
  rw [e85]
  rcases hsw with ⟨rfl, rfl⟩ | ⟨rfl, rfl⟩ | ⟨rfl, rfl⟩ | ⟨rfl, rfl⟩
  · exact j_tableIn (off := 27) C 56 dX5_endSum_29 (by decide) (by decide) rfl (by decide) kk
  · exact j_tableIn (off := 45) C 74 dX5_endSum_29 (by decide) (by decide) rfl (by decide) kk
  · exact j_tableIn (off := 137) C 166 dX5_endSum_29 (by decide) (by decide) rfl (by decide) kk
  · exact j_tableOut C 173 dX5_endSum_29 (by decide) (by decide) kk
theorem r_eS1 (hw : jok w) (hr : g.2.1 70 = rMap) (ht : rtx g t n) (ha : a < 1000) (h23 : g.1 70 23 = nI (M + 1)) (hM : M < 10) (hst : g.1 86 M = nI st) (hkd : g.1 85 M = 1) : jM l w yX5_endSum cX5_endSum 4 (some .boolean) 4 [.ref (jad w 70)] (pv g a gd ty) (fun r h' => r = some (.int 0) ∧ h' = pv (up2 (up2 g.1 86 M (nI (st + 1))) 70 23 (nI M), g.2) (if pek t n a = 41 then a + 1 else a) (gd && pek t n a == 41) ty) := by
  refine jM_of (by decide) hw (Nat.le_of_ble_eq_true rfl) ?_
  intro X C hl hR hnL hrt hE
  subst hl
  have C : jC X w cX5_endSum RX5 := C
  show J X w (pv g a gd ty) 0 [(0, .ref (jad w 70))] []
  refine eS_k C hnL hr h23 hM hst hkd (Or.inl ⟨rfl, rfl⟩) ?_
  obtain ⟨g1, eg1⟩ : ∃ g1 : jH, g1 = (up2 g.1 86 M (nI (st + 1)), g.2) := ⟨_, rfl⟩
  have hr1 : g1.2.1 70 = rMap := by rw [eg1]; exact hr
  have ht1 : rtx g1 t n := by rw [eg1]; exact rtx_e (by omega) ht
  rw [← eg1]
  have e23 : ∀ {a : Nat} {gd ty : Bool}, (pv g1 a gd ty).1 70 23 - 1 = nI M := fun {a gd ty} => by rw [pv_o (by omega), eg1]; dsimp only; rw [up2_n (by omega), h23]; exact nI_pred M
  refine k_aload_n C dX5_endSum_56 rfl ?_
  refine j_bipush (v := 41) C dX5_endSum_57 (by decide) ?_
  refine k_callV (k := 70) (ci := 5) (As := [.int (nI 41)]) C mX5_175 (r_expect hw hr1 ht1 (by omega) (ch := 41) (by decide)) jCl5.1 (by first | decide | omega) (by first | assumption | rfl) rfl rfl (Nat.le_of_ble_eq_true rfl) (jroom hR (by first | decide | omega) (by decide)) dX5_endSum_59 ?_
  rintro v9 h9 ⟨rfl, rfl⟩
  refine k_aload_n C dX5_endSum_62 rfl ?_
  refine j_dup C dX5_endSum_63 rfl ?_
  refine j_geti C fX5_151 rfl (by first | decide | omega) (by first | assumption | rfl) dX5_endSum_64 ?_
  refine j_iconst (v := 1) C dX5_endSum_67 (by decide) ?_
  refine j_isub C dX5_endSum_68 ?_
  rw [e23]
  refine j_puti C fX5_151 rfl rfl (by first | decide | omega) (by first | assumption | rfl) dX5_endSum_69 ?_
  refine jeqh (show _ = pv (up2 (up2 g.1 86 M (nI (st + 1))) 70 23 (nI M), g.2) (if pek t n a = 41 then a + 1 else a) (gd && pek t n a == 41) ty from by rw [pv_put (by omega), eg1]) ?_
  refine j_iconst (v := 0) C dX5_endSum_72 (by decide) ?_
  exact j_zret C hrt (rfl) hE dX5_endSum_73 (⟨rfl, rfl⟩)
theorem r_eS2 (hw : jok w) (hr : g.2.1 70 = rMap) (ht : rtx g t n) (ha : a < 1000) (h23 : g.1 70 23 = nI (M + 1)) (hM : M < 10) (hst : g.1 86 M = nI 0) (hkd : g.1 85 M = 2) (hip : g.1 70 33 = bI ip) : jM l w yX5_endSum cX5_endSum 4 (some .boolean) 4 [.ref (jad w 70)] (pv g a gd ty) (fun r h' => r = some (.int 1) ∧ h' = pv (e2R g M) (if pek t n a = 44 then a + 1 else a) (gd && pek t n a == 44) (ty && !ip)) := by
  refine jM_of (by decide) hw (Nat.le_of_ble_eq_true rfl) ?_
  intro X C hl hR hnL hrt hE
  subst hl
  have C : jC X w cX5_endSum RX5 := C
  show J X w (pv g a gd ty) 0 [(0, .ref (jad w 70))] []
  refine eS_k C hnL hr h23 hM hst hkd (Or.inr (Or.inl ⟨rfl, rfl⟩)) ?_
  obtain ⟨g1, eg1⟩ : ∃ g1 : jH, g1 = (up2 g.1 86 M 1, g.2) := ⟨_, rfl⟩
  rw [show ((up2 g.1 86 M (nI (0 + 1)), g.2) : jH) = g1 from eg1.symm]
  have hr1 : g1.2.1 70 = rMap := by rw [eg1]; exact hr
  have ht1 : rtx (grw g1 1) t n := by
    have : rtx g1 t n := by rw [eg1]; exact rtx_e (by omega) ht
    exact rtx_keep (grw_o (by omega)) (fun j => grw_o (by omega)) this
  have hip1 : (pv g1 a gd ty).1 70 33 = bI ip := by rw [pv_o (by omega), eg1]; dsimp only; rw [up2_n (by omega)]; exact hip
  have fin : ∀ b, b = !ip → J X w (pv g1 a gd ty) 87 [(0, .ref (jad w 70)), (1, .int (nI M)), (2, .int (nI 0))] [.int (bI b), .ref (jad w 70)] := by
    intro b hb
    have e23 : ∀ {a : Nat} {gd ty : Bool}, (pv (up2 (grw g1 1).1 70 33 0, (grw g1 1).2) a gd ty).1 70 23 = nI (M + 1) := fun {a gd ty} => by rw [pv_o (by omega)]; dsimp only; rw [up2_n (by omega), grw_o (by omega), eg1]; dsimp only; rw [up2_n (by omega)]; exact h23
    refine k_callV (k := 70) (ci := 5) (As := [.int (bI b)]) C mX5_172 (r_type hw b) jCl5.1 (by first | decide | omega) (by first | assumption | rfl) rfl rfl (Nat.le_of_ble_eq_true rfl) (jroom hR (by first | decide | omega) (by decide)) dX5_endSum_87 ?_
    rintro v9 h9 ⟨rfl, rfl⟩
    refine k_iload_n C dX5_endSum_90 rfl ?_
    refine j_if_ne C 102 dX5_endSum_91 (by decide) (fun c91 => ?_) (fun c91 => ?_)
    · exact absurd rfl c91 -- stop
    · refine k_aload_n C dX5_endSum_94 rfl ?_
      refine j_iconst (v := 1) C dX5_endSum_95 (by decide) ?_
      refine k_callV (k := 70) (ci := 5) (As := [.int 1]) C mX5_212 (r_grow hw 1) jCl5.1 (by first | decide | omega) (by first | assumption | rfl) rfl rfl (Nat.le_of_ble_eq_true rfl) (jroom hR (by first | decide | omega) (by decide)) dX5_endSum_96 ?_
      rintro v9 h9 ⟨rfl, rfl⟩
      refine j_goto C 112 dX5_endSum_99 (by decide) ?_
      refine k_aload_n C dX5_endSum_112 rfl ?_
      refine k_iload_n C dX5_endSum_113 rfl ?_
      refine j_if_ne C 122 dX5_endSum_114 (by decide) (fun c114 => ?_) (fun c114 => ?_)
      · exact absurd rfl c114 -- stop
      · refine j_bipush (v := 44) C dX5_endSum_117 (by decide) ?_
        refine j_goto C 124 dX5_endSum_119 (by decide) ?_
        refine k_callV (k := 70) (ci := 5) (As := [.int (nI 44)]) C mX5_175 (r_expect hw (show (grw g1 1).2.1 70 = rMap from hr1) ht1 (by omega) (ch := 44) (by decide)) jCl5.1 (by first | decide | omega) (by first | assumption | rfl) rfl rfl (Nat.le_of_ble_eq_true rfl) (jroom hR (by first | decide | omega) (by decide)) dX5_endSum_124 ?_
        rintro v9 h9 ⟨rfl, rfl⟩
        refine k_aload_n C dX5_endSum_127 rfl ?_
        refine k_iload_n C dX5_endSum_128 rfl ?_
        refine j_if_le C 136 dX5_endSum_129 (by decide) (fun c129 => ?_) (fun c129 => ?_)
        · refine j_iconst (v := 0) C dX5_endSum_136 (by decide) ?_
          refine j_putz C fX5_162 rfl rfl (by first | decide | assumption) (by first | decide | omega) (by first | assumption | rfl) dX5_endSum_137 ?_
          refine jeqh (pv_put (by omega)) ?_
          refine k_aload_n C dX5_endSum_140 rfl ?_
          refine k_iload_n C dX5_endSum_141 rfl ?_
          refine j_if_ne C 152 dX5_endSum_142 (by decide) (fun c142 => ?_) (fun c142 => ?_)
          · exact absurd rfl c142 -- stop
          · refine k_aload_n C dX5_endSum_145 rfl ?_
            refine j_geti C fX5_151 rfl (by first | decide | omega) (by first | assumption | rfl) dX5_endSum_146 ?_
            refine j_goto C 153 dX5_endSum_149 (by decide) ?_
            rw [e23]
            refine j_puti C fX5_151 rfl rfl (by first | decide | omega) (by first | assumption | rfl) dX5_endSum_153 ?_
            refine jeqh (show _ = pv (e2R g M) (if pek t n a = 44 then a + 1 else a) (gd && pek t n a == 44) (ty && b) from by rw [pv_put (by omega), eg1]; rfl) ?_
            refine k_iload_n C dX5_endSum_156 rfl ?_
            refine j_if_ne C 164 dX5_endSum_157 (by decide) (fun c157 => ?_) (fun c157 => ?_)
            · exact absurd rfl c157 -- stop
            · refine j_iconst (v := 1) C dX5_endSum_160 (by decide) ?_
              refine j_goto C 165 dX5_endSum_161 (by decide) ?_
              exact j_zret C hrt (rfl) hE dX5_endSum_165 (⟨rfl, by rw [hb]⟩)
        · exact absurd (show nI 0 ≤ 0 by decide) c129 -- stop
  refine k_aload_n C dX5_endSum_74 rfl ?_
  refine k_aload_n C dX5_endSum_75 rfl ?_
  refine j_geti C fX5_162 rfl (by first | decide | omega) (by first | assumption | rfl) dX5_endSum_76 ?_
  refine j_if_ne C 86 dX5_endSum_79 (by decide) (fun c79 => ?_) (fun c79 => ?_)
  · rw [hip1, bI_z] at c79
    refine j_iconst (v := 0) C dX5_endSum_86 (by decide) ?_
    first | exact fin true (by rw [c79]; rfl) | exact fin false (by rw [eq_true_of_ne_false c79]; rfl)
  · rw [hip1, bI_z] at c79
    refine j_iconst (v := 1) C dX5_endSum_82 (by decide) ?_
    refine j_goto C 87 dX5_endSum_83 (by decide) ?_
    first | exact fin true (by rw [c79]; rfl) | exact fin false (by rw [eq_true_of_ne_false c79]; rfl)
theorem r_eS3 (hw : jok w) (hr : g.2.1 70 = rMap) (ht : rtx g t n) (ha : a < 1000) (h23 : g.1 70 23 = nI (M + 1)) (hM : M < 10) (hst : g.1 86 M = nI 1) (hkd : g.1 85 M = 2) (hip : g.1 70 33 = bI ip) : jM l w yX5_endSum cX5_endSum 4 (some .boolean) 4 [.ref (jad w 70)] (pv g a gd ty) (fun r h' => r = some (.int 0) ∧ h' = pv (e3R g M) (if pek t n a = 125 then a + 1 else a) (gd && pek t n a == 125) (ty && !ip)) := by
  refine jM_of (by decide) hw (Nat.le_of_ble_eq_true rfl) ?_
  intro X C hl hR hnL hrt hE
  subst hl
  have C : jC X w cX5_endSum RX5 := C
  show J X w (pv g a gd ty) 0 [(0, .ref (jad w 70))] []
  refine eS_k C hnL hr h23 hM hst hkd (Or.inr (Or.inl ⟨rfl, rfl⟩)) ?_
  obtain ⟨g1, eg1⟩ : ∃ g1 : jH, g1 = (up2 g.1 86 M 2, g.2) := ⟨_, rfl⟩
  obtain ⟨g2, eg2⟩ : ∃ g2 : jH, g2 = (up2 g1.1 70 31 (g.1 70 31 - 1), g1.2) := ⟨_, rfl⟩
  rw [show ((up2 g.1 86 M (nI (1 + 1)), g.2) : jH) = g1 from eg1.symm]
  have hr2 : g2.2.1 70 = rMap := by rw [eg2, eg1]; exact hr
  have ht2 : rtx g2 t n := by rw [eg2]; exact rtx_e (by omega) (by rw [eg1]; exact rtx_e (by omega) ht)
  have hip1 : (pv g1 a gd ty).1 70 33 = bI ip := by rw [pv_o (by omega), eg1]; dsimp only; rw [up2_n (by omega)]; exact hip
  have fin : ∀ b, b = !ip → J X w (pv g1 a gd ty) 87 [(0, .ref (jad w 70)), (1, .int (nI M)), (2, .int (nI 1))] [.int (bI b), .ref (jad w 70)] := by
    intro b hb
    have e31 : (pv g1 a gd (ty && b)).1 70 31 = g.1 70 31 := by rw [pv_o (by omega), eg1]; dsimp only; rw [up2_n (by omega)]
    refine k_callV (k := 70) (ci := 5) (As := [.int (bI b)]) C mX5_172 (r_type hw b) jCl5.1 (by first | decide | omega) (by first | assumption | rfl) rfl rfl (Nat.le_of_ble_eq_true rfl) (jroom hR (by first | decide | omega) (by decide)) dX5_endSum_87 ?_
    rintro v9 h9 ⟨rfl, rfl⟩
    refine k_iload_n C dX5_endSum_90 rfl ?_
    refine j_if_ne C 102 dX5_endSum_91 (by decide) (fun c91 => ?_) (fun c91 => ?_)
    · refine k_aload_n C dX5_endSum_102 rfl ?_
      refine j_dup C dX5_endSum_103 rfl ?_
      refine j_geti C fX5_141 rfl (by first | decide | omega) (by first | assumption | rfl) dX5_endSum_104 ?_
      refine j_iconst (v := 1) C dX5_endSum_107 (by decide) ?_
      refine j_isub C dX5_endSum_108 ?_
      rw [e31]
      refine j_puti C fX5_141 rfl rfl (by first | decide | omega) (by first | assumption | rfl) dX5_endSum_109 ?_
      refine jeqh (show _ = pv g2 a gd (ty && b) from by rw [pv_put (by omega), eg2]) ?_
      refine k_aload_n C dX5_endSum_112 rfl ?_
      refine k_iload_n C dX5_endSum_113 rfl ?_
      refine j_if_ne C 122 dX5_endSum_114 (by decide) (fun c114 => ?_) (fun c114 => ?_)
      · refine j_bipush (v := 125) C dX5_endSum_122 (by decide) ?_
        refine k_callV (k := 70) (ci := 5) (As := [.int (nI 125)]) C mX5_175 (r_expect hw hr2 ht2 (by omega) (ch := 125) (by decide)) jCl5.1 (by first | decide | omega) (by first | assumption | rfl) rfl rfl (Nat.le_of_ble_eq_true rfl) (jroom hR (by first | decide | omega) (by decide)) dX5_endSum_124 ?_
        rintro v9 h9 ⟨rfl, rfl⟩
        refine k_aload_n C dX5_endSum_127 rfl ?_
        refine k_iload_n C dX5_endSum_128 rfl ?_
        refine j_if_le C 136 dX5_endSum_129 (by decide) (fun c129 => ?_) (fun c129 => ?_)
        · exact absurd c129 (by decide) -- stop
        · refine j_iconst (v := 1) C dX5_endSum_132 (by decide) ?_
          refine j_goto C 137 dX5_endSum_133 (by decide) ?_
          refine j_putz C fX5_162 rfl rfl (by first | decide | assumption) (by first | decide | omega) (by first | assumption | rfl) dX5_endSum_137 ?_
          refine jeqh (pv_put (by omega)) ?_
          refine k_aload_n C dX5_endSum_140 rfl ?_
          refine k_iload_n C dX5_endSum_141 rfl ?_
          refine j_if_ne C 152 dX5_endSum_142 (by decide) (fun c142 => ?_) (fun c142 => ?_)
          · refine k_iload_n C dX5_endSum_152 rfl ?_
            refine j_puti C fX5_151 rfl rfl (by first | decide | omega) (by first | assumption | rfl) dX5_endSum_153 ?_
            refine jeqh (show _ = pv (e3R g M) (if pek t n a = 125 then a + 1 else a) (gd && pek t n a == 125) (ty && b) from by rw [pv_put (by omega), eg2, eg1]; rfl) ?_
            refine k_iload_n C dX5_endSum_156 rfl ?_
            refine j_if_ne C 164 dX5_endSum_157 (by decide) (fun c157 => ?_) (fun c157 => ?_)
            · refine j_iconst (v := 0) C dX5_endSum_164 (by decide) ?_
              exact j_zret C hrt (rfl) hE dX5_endSum_165 (⟨rfl, by rw [hb]⟩)
            · exact absurd (by first | exact c157 | exact Classical.not_not.mp c157) (by decide) -- stop
          · exact absurd (by first | exact c142 | exact Classical.not_not.mp c142) (by decide) -- stop
      · exact absurd (by first | exact c114 | exact Classical.not_not.mp c114) (by decide) -- stop
    · exact absurd (by first | exact c91 | exact Classical.not_not.mp c91) (by decide) -- stop
  refine k_aload_n C dX5_endSum_74 rfl ?_
  refine k_aload_n C dX5_endSum_75 rfl ?_
  refine j_geti C fX5_162 rfl (by first | decide | omega) (by first | assumption | rfl) dX5_endSum_76 ?_
  refine j_if_ne C 86 dX5_endSum_79 (by decide) (fun c79 => ?_) (fun c79 => ?_)
  · rw [hip1, bI_z] at c79
    refine j_iconst (v := 0) C dX5_endSum_86 (by decide) ?_
    first | exact fin true (by rw [c79]; rfl) | exact fin false (by rw [eq_true_of_ne_false c79]; rfl)
  · rw [hip1, bI_z] at c79
    refine j_iconst (v := 1) C dX5_endSum_82 (by decide) ?_
    refine j_goto C 87 dX5_endSum_83 (by decide) ?_
    first | exact fin true (by rw [c79]; rfl) | exact fin false (by rw [eq_true_of_ne_false c79]; rfl)
theorem r_ch0 (hw : jok w) (hr : g.2.1 70 = rMap) (ht : rtx g t n) (ha : a < 1000) (hd : g.1 70 7 = bI dc) (hs : g.1 70 21 = nI s) (hs2 : s < 130) (hM : M < 10) (hip : g.1 70 33 = bI ip) : jM l w yX5_choose cX5_choose 3 (some .boolean) 3 [.ref (jad w 70), .int (nI M), .int (nI 0)] (pv g a gd ty) (fun r h' => r = some (.int 1) ∧ h' = pv (ch0 dc g M s) (if pek t n a = 63 then a + 1 else a) (gd && pek t n a == 63) (ty && !ip)) := by
  refine jM_of (by decide) hw (Nat.le_of_ble_eq_true rfl) ?_
  intro X C hl hR hnL hrt hE
  subst hl
  have C : jC X w cX5_choose RX5 := C
  have hip1 : (pv g a gd ty).1 70 33 = bI ip := by rw [pv_o (by omega)]; exact hip
  have e21 : ∀ {a : Nat} {gd ty : Bool}, (pv g a gd ty).1 70 21 = nI s := fun {a gd ty} => by rw [pv_o (by omega)]; exact hs
  have hr2 : (up2 g.1 90 M (nI s), g.2).2.1 70 = rMap := hr
  have fin : ∀ b, b = !ip → J X w (pv g a gd ty) 17 [(0, .ref (jad w 70)), (1, .int (nI M)), (2, .int (nI 0))] [.int (bI b), .ref (jad w 70)] := by
    intro b hb
    refine k_callV (k := 70) (ci := 5) (As := [.int (bI b)]) C mX5_172 (r_type hw b) jCl5.1 (by first | decide | omega) (by first | assumption | rfl) rfl rfl (Nat.le_of_ble_eq_true rfl) (jroom hR (by first | decide | omega) (by decide)) dX5_choose_17 ?_
    rintro v9 h9 ⟨rfl, rfl⟩
    refine k_aload_n C dX5_choose_20 rfl ?_
    refine j_bipush (v := 63) C dX5_choose_21 (by decide) ?_
    refine k_callV (k := 70) (ci := 5) (As := [.int (nI 63)]) C mX5_175 (r_expect hw hr ht (by omega) (ch := 63) (by decide)) jCl5.1 (by first | decide | omega) (by first | assumption | rfl) rfl rfl (Nat.le_of_ble_eq_true rfl) (jroom hR (by first | decide | omega) (by decide)) dX5_choose_23 ?_
    rintro v9 h9 ⟨rfl, rfl⟩
    refine k_aload_n C dX5_choose_26 rfl ?_
    refine j_getr C fX5_69 rfl (by first | decide | omega) (by first | assumption | rfl) (congrFun hr _) dX5_choose_27 ?_
    refine k_iload_n C dX5_choose_30 rfl ?_
    refine k_aload_n C dX5_choose_31 rfl ?_
    refine j_geti C fX5_138 rfl (by first | decide | omega) (by first | assumption | rfl) dX5_choose_32 ?_
    rw [e21]
    refine j_iast C (by first | decide | omega) (by first | assumption | rfl) (rfl) (hM) (by decide) dX5_choose_35 ?_
    refine jeqh (pv_put (by omega)) ?_
    refine k_aload_n C dX5_choose_36 rfl ?_
    refine j_bipush (v := 8) C dX5_choose_37 (by decide) ?_
    refine j_iconst (v := 0) C dX5_choose_39 (by decide) ?_
    refine k_callV (k := 70) (ci := 5) (As := [.int 8, .int 0]) C mX5_158 (r_emit hw hr2 (by dsimp only; rw [up2_n (by omega)]; exact hd) (by dsimp only; rw [up2_n (by omega)]; exact hs) hs2 8 0) jCl5.1 (by first | decide | omega) (by first | assumption | rfl) rfl rfl (Nat.le_of_ble_eq_true rfl) (jroom hR (by first | decide | omega) (by decide)) dX5_choose_40 ?_
    rintro v9 h9 ⟨rfl, rfl⟩
    refine j_iconst (v := 1) C dX5_choose_43 (by decide) ?_
    exact j_zret C hrt (rfl) hE dX5_choose_44 (⟨rfl, by rw [hb]; rfl⟩)
  show J X w (pv g a gd ty) 0 [(0, .ref (jad w 70)), (1, .int (nI M)), (2, .int (nI 0))] []
  refine k_iload_n C dX5_choose_0 rfl ?_
  refine j_if_ne C 45 dX5_choose_1 (by decide) (fun c1 => ?_) (fun c1 => ?_)
  · exact absurd rfl c1 -- stop
  · refine k_aload_n C dX5_choose_4 rfl ?_
    refine k_aload_n C dX5_choose_5 rfl ?_
    refine j_geti C fX5_162 rfl (by first | decide | omega) (by first | assumption | rfl) dX5_choose_6 ?_
    refine j_if_ne C 16 dX5_choose_9 (by decide) (fun c9 => ?_) (fun c9 => ?_)
    · rw [hip1, bI_z] at c9
      refine j_iconst (v := 0) C dX5_choose_16 (by decide) ?_
      first | exact fin true (by rw [c9]; rfl) | exact fin false (by rw [eq_true_of_ne_false c9]; rfl)
    · rw [hip1, bI_z] at c9
      refine j_iconst (v := 1) C dX5_choose_12 (by decide) ?_
      refine j_goto C 17 dX5_choose_13 (by decide) ?_
      first | exact fin true (by rw [c9]; rfl) | exact fin false (by rw [eq_true_of_ne_false c9]; rfl)
theorem r_ch1 (hw : jok w) (hr : g.2.1 70 = rMap) (ht : rtx g t n) (ha : a < 1000) (hd : g.1 70 7 = bI dc) (hs : g.1 70 21 = nI s) (hs2 : s < 130) (hM : M < 10) (hip : g.1 70 33 = bI ip) (hkq : dc = false → g.1 90 M = nI kq) (hkq2 : kq < 130) : jM l w yX5_choose cX5_choose 3 (some .boolean) 3 [.ref (jad w 70), .int (nI M), .int (nI 1)] (pv g a gd ty) (fun r h' => r = some (.int 1) ∧ h' = pv (ch1 dc g M s kq ip) (if pek t n a = 58 then a + 1 else a) (gd && pek t n a == 58) ty) := by
  refine jM_of (by decide) hw (Nat.le_of_ble_eq_true rfl) ?_
  intro X C hl hR hnL hrt hE
  subst hl
  have C : jC X w cX5_choose RX5 := C
  have hip1 : ∀ {a : Nat} {gd ty : Bool}, (pv g a gd ty).1 70 33 = bI ip := fun {a gd ty} => by rw [pv_o (by omega)]; exact hip
  obtain ⟨g1, eg1⟩ : ∃ g1 : jH, g1 = (up2 g.1 89 M (bI ip), g.2) := ⟨_, rfl⟩
  have hr1 : g1.2.1 70 = rMap := by rw [eg1]; exact hr
  have d7 : g1.1 70 7 = bI dc := by rw [eg1]; dsimp only; rw [up2_n (by omega)]; exact hd
  have d21 : g1.1 70 21 = nI s := by rw [eg1]; dsimp only; rw [up2_n (by omega)]; exact hs
  have fin : ∀ (a : Nat) (gd : Bool), J X w (pv (ptR dc g1 kq (nI (s + 1))) a gd ty) 94 [(0, .ref (jad w 70)), (1, .int (nI M)), (2, .int (nI 1))] [] → J X w (pv g1 a gd ty) 66 [(0, .ref (jad w 70)), (1, .int (nI M)), (2, .int (nI 1))] [] := by
    intro a gd kk
    have e7 : (pv g1 a gd ty).1 70 7 = bI dc := by rw [pv_o (by omega)]; exact d7
    have e21 : (pv g1 a gd ty).1 70 21 = nI s := by rw [pv_o (by omega)]; exact d21
    cases dc with
    | true =>
      refine k_aload_n C dX5_choose_66 rfl ?_
      refine j_geti C fX5_135 rfl (by first | decide | omega) (by first | assumption | rfl) dX5_choose_67 ?_
      refine j_if_ne C 94 dX5_choose_70 (by decide) (fun c70 => ?_) (fun c70 => ?_)
      · exact kk
      · exact absurd (e7.symm.trans (by first | exact c70 | exact Classical.not_not.mp c70)) (by decide) -- stop
    | false =>
      have e90 : (pv g1 a gd ty).1 90 M = nI kq := by rw [pv_o (by omega), eg1]; dsimp only; rw [up2_n (by omega)]; exact hkq rfl
      have ei : (780 : Int32) + nI kq = nI (780 + kq) := by rw [show (780 : Int32) = nI 780 from rfl, nI_add]
      refine k_aload_n C dX5_choose_66 rfl ?_
      refine j_geti C fX5_135 rfl (by first | decide | omega) (by first | assumption | rfl) dX5_choose_67 ?_
      refine j_if_ne C 94 dX5_choose_70 (by decide) (fun c70 => ?_) (fun c70 => ?_)
      · exact absurd e7 c70 -- stop
      · refine k_aload_n C dX5_choose_73 rfl ?_
        refine j_getr C fX5_48 rfl (by first | decide | omega) (by first | assumption | rfl) (congrFun hr1 _) dX5_choose_74 ?_
        refine j_sipush (v := 780) C dX5_choose_77 (by decide) ?_
        refine k_aload_n C dX5_choose_80 rfl ?_
        refine j_getr C fX5_69 rfl (by first | decide | omega) (by first | assumption | rfl) (congrFun hr1 _) dX5_choose_81 ?_
        refine k_iload_n C dX5_choose_84 rfl ?_
        refine j_iald C (by first | decide | omega) (by first | assumption | rfl) (rfl) (hM) (by decide) dX5_choose_85 ?_
        rw [e90]
        refine j_iadd C dX5_choose_86 ?_
        refine k_aload_n C dX5_choose_87 rfl ?_
        refine j_geti C fX5_138 rfl (by first | decide | omega) (by first | assumption | rfl) dX5_choose_88 ?_
        refine j_iconst (v := 1) C dX5_choose_91 (by decide) ?_
        refine j_iadd C dX5_choose_92 ?_
        rw [e21, nI_1]
        refine j_iast C (by first | decide | omega) (by first | assumption | rfl) (ei) ((by omega)) (by decide) dX5_choose_93 ?_
        refine jeqh (pv_put (by omega)) ?_
        exact kk
  have pt_o : ∀ {k j : Nat}, k ≠ 83 → (ptR dc g1 kq (nI (s + 1))).1 k j = g1.1 k j := fun {k j} z => by unfold ptR; split; rfl; exact up2_n (by omega)
  have pt_2 : (ptR dc g1 kq (nI (s + 1))).2 = g.2 := by unfold ptR; split <;> rw [eg1]
  have tail : ∀ (a' : Nat) (gd' : Bool), a' = (if pek t n a = 58 then a + 1 else a) → gd' = (gd && pek t n a == 58) → J X w (pv (ptR dc g1 kq (nI (s + 1))) a' gd' ty) 94 [(0, .ref (jad w 70)), (1, .int (nI M)), (2, .int (nI 1))] [] := by
    intro a' gd' h1 h2
    have hr2 : (ptR dc g1 kq (nI (s + 1))).2.1 70 = rMap := by rw [pt_2]; exact hr
    have e21 : (pv (ptR dc g1 kq (nI (s + 1))) a' gd' ty).1 70 21 = nI s := by rw [pv_o (by omega), pt_o (by omega)]; exact d21
    have hr3 : (up2 (ptR dc g1 kq (nI (s + 1))).1 90 M (nI s), (ptR dc g1 kq (nI (s + 1))).2).2.1 70 = rMap := hr2
    refine k_aload_n C dX5_choose_94 rfl ?_
    refine j_getr C fX5_69 rfl (by first | decide | omega) (by first | assumption | rfl) (congrFun hr2 _) dX5_choose_95 ?_
    refine k_iload_n C dX5_choose_98 rfl ?_
    refine k_aload_n C dX5_choose_99 rfl ?_
    refine j_geti C fX5_138 rfl (by first | decide | omega) (by first | assumption | rfl) dX5_choose_100 ?_
    rw [e21]
    refine j_iast C (by first | decide | omega) (by first | assumption | rfl) (rfl) (hM) (by decide) dX5_choose_103 ?_
    refine jeqh (pv_put (by omega)) ?_
    refine k_aload_n C dX5_choose_104 rfl ?_
    refine j_bipush (v := 9) C dX5_choose_105 (by decide) ?_
    refine j_iconst (v := 0) C dX5_choose_107 (by decide) ?_
    refine k_callV (k := 70) (ci := 5) (As := [.int 9, .int 0]) C mX5_158 (r_emit hw hr3 (by dsimp only; rw [up2_n (by omega), pt_o (by omega)]; exact d7) (by dsimp only; rw [up2_n (by omega), pt_o (by omega)]; exact d21) hs2 9 0) jCl5.1 (by first | decide | omega) (by first | assumption | rfl) rfl rfl (Nat.le_of_ble_eq_true rfl) (jroom hR (by first | decide | omega) (by decide)) dX5_choose_108 ?_
    rintro v9 h9 ⟨rfl, rfl⟩
    refine j_iconst (v := 1) C dX5_choose_111 (by decide) ?_
    exact j_zret C hrt (rfl) hE dX5_choose_112 (⟨rfl, by rw [h1, h2, pt_2]; unfold ch1; rw [eg1]⟩)
  show J X w (pv g a gd ty) 0 [(0, .ref (jad w 70)), (1, .int (nI M)), (2, .int (nI 1))] []
  refine k_iload_n C dX5_choose_0 rfl ?_
  refine j_if_ne C 45 dX5_choose_1 (by decide) (fun c1 => ?_) (fun c1 => ?_)
  · refine k_iload_n C dX5_choose_45 rfl ?_
    refine j_iconst (v := 1) C dX5_choose_46 (by decide) ?_
    refine j_icmp_ne C 113 dX5_choose_47 (by decide) (fun c47 => ?_) (fun c47 => ?_)
    · exact absurd rfl c47 -- stop
    · refine k_aload_n C dX5_choose_50 rfl ?_
      refine j_bipush (v := 58) C dX5_choose_51 (by decide) ?_
      refine k_callV (k := 70) (ci := 5) (As := [.int (nI 58)]) C mX5_175 (r_expect hw hr ht (by omega) (ch := 58) (by decide)) jCl5.1 (by first | decide | omega) (by first | assumption | rfl) rfl rfl (Nat.le_of_ble_eq_true rfl) (jroom hR (by first | decide | omega) (by decide)) dX5_choose_53 ?_
      rintro v9 h9 ⟨rfl, rfl⟩
      refine k_aload_n C dX5_choose_56 rfl ?_
      refine j_getr C fX5_66 rfl (by first | decide | omega) (by first | assumption | rfl) (congrFun hr _) dX5_choose_57 ?_
      refine k_iload_n C dX5_choose_60 rfl ?_
      refine k_aload_n C dX5_choose_61 rfl ?_
      refine j_geti C fX5_162 rfl (by first | decide | omega) (by first | assumption | rfl) dX5_choose_62 ?_
      rw [hip1]
      refine j_zast C (by first | decide | omega) (by first | assumption | rfl) (rfl) (hM) (by decide) (bI_01 ip) dX5_choose_65 ?_
      refine jeqh (show _ = pv g1 (if pek t n a = 58 then a + 1 else a) (gd && pek t n a == 58) ty from by rw [pv_put (by omega), eg1]) ?_
      exact fin _ _ (tail _ _ rfl rfl)
  · exact absurd (by first | exact c1 | exact Classical.not_not.mp c1) (by decide) -- stop
theorem r_ch2 (hw : jok w) (hr : g.2.1 70 = rMap) (ht : rtx g t n) (ha : a < 1000) (hd : g.1 70 7 = bI dc) (hs : g.1 70 21 = nI s) (hs2 : s < 130) (hM : M < 10) (h23 : g.1 70 23 = nI (M + 1)) (hip : g.1 70 33 = bI ip) (hkp : g.1 89 M = bI kp) (hkq : dc = false → g.1 90 M = nI kq) (hkq2 : kq < 130) : jM l w yX5_choose cX5_choose 3 (some .boolean) 3 [.ref (jad w 70), .int (nI M), .int (nI 2)] (pv g a gd ty) (fun r h' => r = some (.int 0) ∧ h' = pv (ch2 dc g M s kq kp) (if pek t n a = 93 then a + 1 else a) (gd && pek t n a == 93) (ty && ip == kp)) := by
  refine jM_of (by decide) hw (Nat.le_of_ble_eq_true rfl) ?_
  intro X C hl hR hnL hrt hE
  subst hl
  have C : jC X w cX5_choose RX5 := C
  have hip1 : (pv g a gd ty).1 70 33 = bI ip := by rw [pv_o (by omega)]; exact hip
  have hkp1 : ∀ {a : Nat} {gd ty : Bool}, (pv g a gd ty).1 89 M = bI kp := fun {a gd ty} => by rw [pv_o (by omega)]; exact hkp
  obtain ⟨g1, eg1⟩ : ∃ g1 : jH, g1 = (up2 g.1 70 33 (bI kp), g.2) := ⟨_, rfl⟩
  have hr1 : g1.2.1 70 = rMap := by rw [eg1]; exact hr
  have ht1 : rtx g1 t n := by rw [eg1]; exact rtx_e (by omega) ht
  have d7 : g1.1 70 7 = bI dc := by rw [eg1]; dsimp only; rw [up2_n (by omega)]; exact hd
  have d21 : g1.1 70 21 = nI s := by rw [eg1]; dsimp only; rw [up2_n (by omega)]; exact hs
  have pt_o : ∀ {k j : Nat}, k ≠ 83 → (ptR dc g1 kq (nI s)).1 k j = g1.1 k j := fun {k j} z => by unfold ptR; split; rfl; exact up2_n (by omega)
  have pt_2 : (ptR dc g1 kq (nI s)).2 = g.2 := by unfold ptR; split <;> rw [eg1]
  have fin : ∀ (a : Nat) (gd ty : Bool), J X w (pv (ptR dc g1 kq (nI s)) a gd ty) 177 [(0, .ref (jad w 70)), (1, .int (nI M)), (2, .int (nI 2))] [] → J X w (pv g1 a gd ty) 151 [(0, .ref (jad w 70)), (1, .int (nI M)), (2, .int (nI 2))] [] := by
    intro a gd ty kk
    have e7 : (pv g1 a gd ty).1 70 7 = bI dc := by rw [pv_o (by omega)]; exact d7
    have e21 : (pv g1 a gd ty).1 70 21 = nI s := by rw [pv_o (by omega)]; exact d21
    cases dc with
    | true =>
      refine k_aload_n C dX5_choose_151 rfl ?_
      refine j_geti C fX5_135 rfl (by first | decide | omega) (by first | assumption | rfl) dX5_choose_152 ?_
      refine j_if_ne C 177 dX5_choose_155 (by decide) (fun c155 => ?_) (fun c155 => ?_)
      · exact kk
      · exact absurd (e7.symm.trans (by first | exact c155 | exact Classical.not_not.mp c155)) (by decide) -- stop
    | false =>
      have e90 : (pv g1 a gd ty).1 90 M = nI kq := by rw [pv_o (by omega), eg1]; dsimp only; rw [up2_n (by omega)]; exact hkq rfl
      have ei : (780 : Int32) + nI kq = nI (780 + kq) := by rw [show (780 : Int32) = nI 780 from rfl, nI_add]
      refine k_aload_n C dX5_choose_151 rfl ?_
      refine j_geti C fX5_135 rfl (by first | decide | omega) (by first | assumption | rfl) dX5_choose_152 ?_
      refine j_if_ne C 177 dX5_choose_155 (by decide) (fun c155 => ?_) (fun c155 => ?_)
      · exact absurd e7 c155 -- stop
      · refine k_aload_n C dX5_choose_158 rfl ?_
        refine j_getr C fX5_48 rfl (by first | decide | omega) (by first | assumption | rfl) (congrFun hr1 _) dX5_choose_159 ?_
        refine j_sipush (v := 780) C dX5_choose_162 (by decide) ?_
        refine k_aload_n C dX5_choose_165 rfl ?_
        refine j_getr C fX5_69 rfl (by first | decide | omega) (by first | assumption | rfl) (congrFun hr1 _) dX5_choose_166 ?_
        refine k_iload_n C dX5_choose_169 rfl ?_
        refine j_iald C (by first | decide | omega) (by first | assumption | rfl) (rfl) (hM) (by decide) dX5_choose_170 ?_
        rw [e90]
        refine j_iadd C dX5_choose_171 ?_
        refine k_aload_n C dX5_choose_172 rfl ?_
        refine j_geti C fX5_138 rfl (by first | decide | omega) (by first | assumption | rfl) dX5_choose_173 ?_
        rw [e21]
        refine j_iast C (by first | decide | omega) (by first | assumption | rfl) (ei) ((by omega)) (by decide) dX5_choose_176 ?_
        refine jeqh (pv_put (by omega)) ?_
        exact kk
  have tail : ∀ (a' : Nat) (gd' ty' : Bool), a' = (if pek t n a = 93 then a + 1 else a) → gd' = (gd && pek t n a == 93) → ty' = (ty && ip == kp) → J X w (pv (ptR dc g1 kq (nI s)) a' gd' ty') 177 [(0, .ref (jad w 70)), (1, .int (nI M)), (2, .int (nI 2))] [] := by
    intro a' gd' ty' h1 h2 h3
    have e23 : (pv (ptR dc g1 kq (nI s)) a' gd' ty').1 70 23 - 1 = nI M := by rw [pv_o (by omega), pt_o (by omega), eg1]; dsimp only; rw [up2_n (by omega), h23]; exact nI_pred M
    refine k_aload_n C dX5_choose_177 rfl ?_
    refine j_dup C dX5_choose_178 rfl ?_
    refine j_geti C fX5_151 rfl (by first | decide | omega) (by first | assumption | rfl) dX5_choose_179 ?_
    refine j_iconst (v := 1) C dX5_choose_182 (by decide) ?_
    refine j_isub C dX5_choose_183 ?_
    rw [e23]
    refine j_puti C fX5_151 rfl rfl (by first | decide | omega) (by first | assumption | rfl) dX5_choose_184 ?_
    refine jeqh (pv_put (by omega)) ?_
    refine j_iconst (v := 0) C dX5_choose_187 (by decide) ?_
    exact j_zret C hrt (rfl) hE dX5_choose_188 (⟨rfl, by rw [h1, h2, h3, pt_2]; unfold ch2; rw [eg1]⟩)
  have fin2 : ∀ b, b = (ip == kp) → J X w (pv g a gd ty) 132 [(0, .ref (jad w 70)), (1, .int (nI M)), (2, .int (nI 2))] [.int (bI b), .ref (jad w 70)] := by
    intro b hb
    refine k_callV (k := 70) (ci := 5) (As := [.int (bI b)]) C mX5_172 (r_type hw b) jCl5.1 (by first | decide | omega) (by first | assumption | rfl) rfl rfl (Nat.le_of_ble_eq_true rfl) (jroom hR (by first | decide | omega) (by decide)) dX5_choose_132 ?_
    rintro v9 h9 ⟨rfl, rfl⟩
    refine k_aload_n C dX5_choose_135 rfl ?_
    refine k_aload_n C dX5_choose_136 rfl ?_
    refine j_getr C fX5_66 rfl (by first | decide | omega) (by first | assumption | rfl) (congrFun hr _) dX5_choose_137 ?_
    refine k_iload_n C dX5_choose_140 rfl ?_
    refine j_zald C (by first | decide | omega) (by first | assumption | rfl) (rfl) (hM) (by decide) dX5_choose_141 ?_
    rw [hkp1]
    refine j_putz C fX5_162 rfl rfl (bI_01 kp) (by first | decide | omega) (by first | assumption | rfl) dX5_choose_142 ?_
    refine jeqh (show _ = pv g1 a gd (ty && b) from by rw [pv_put (by omega), eg1]) ?_
    refine k_aload_n C dX5_choose_145 rfl ?_
    refine j_bipush (v := 93) C dX5_choose_146 (by decide) ?_
    refine k_callV (k := 70) (ci := 5) (As := [.int (nI 93)]) C mX5_175 (r_expect hw hr1 ht1 (by omega) (ch := 93) (by decide)) jCl5.1 (by first | decide | omega) (by first | assumption | rfl) rfl rfl (Nat.le_of_ble_eq_true rfl) (jroom hR (by first | decide | omega) (by decide)) dX5_choose_148 ?_
    rintro v9 h9 ⟨rfl, rfl⟩
    exact fin _ _ _ (tail _ _ _ rfl rfl (by rw [hb]))
  show J X w (pv g a gd ty) 0 [(0, .ref (jad w 70)), (1, .int (nI M)), (2, .int (nI 2))] []
  refine k_iload_n C dX5_choose_0 rfl ?_
  refine j_if_ne C 45 dX5_choose_1 (by decide) (fun c1 => ?_) (fun c1 => ?_)
  · refine k_iload_n C dX5_choose_45 rfl ?_
    refine j_iconst (v := 1) C dX5_choose_46 (by decide) ?_
    refine j_icmp_ne C 113 dX5_choose_47 (by decide) (fun c47 => ?_) (fun c47 => ?_)
    · refine k_aload_n C dX5_choose_113 rfl ?_
      refine k_aload_n C dX5_choose_114 rfl ?_
      refine j_geti C fX5_162 rfl (by first | decide | omega) (by first | assumption | rfl) dX5_choose_115 ?_
      refine k_aload_n C dX5_choose_118 rfl ?_
      refine j_getr C fX5_66 rfl (by first | decide | omega) (by first | assumption | rfl) (congrFun hr _) dX5_choose_119 ?_
      refine k_iload_n C dX5_choose_122 rfl ?_
      refine j_zald C (by first | decide | omega) (by first | assumption | rfl) (rfl) (hM) (by decide) dX5_choose_123 ?_
      refine j_icmp_ne C 131 dX5_choose_124 (by decide) (fun c124 => ?_) (fun c124 => ?_)
      · rw [hip1, hkp1] at c124
        refine j_iconst (v := 0) C dX5_choose_131 (by decide) ?_
        first | exact fin2 false (by cases ip <;> cases kp <;> first | rfl | exact absurd rfl c124) | exact fin2 true (by rw [bI_inj c124]; simp)
      · rw [hip1, hkp1] at c124
        refine j_iconst (v := 1) C dX5_choose_127 (by decide) ?_
        refine j_goto C 132 dX5_choose_128 (by decide) ?_
        first | exact fin2 false (by cases ip <;> cases kp <;> first | rfl | exact absurd rfl c124) | exact fin2 true (by rw [bI_inj c124]; simp)
    · exact absurd (by first | exact c47 | exact Classical.not_not.mp c47) (by decide) -- stop
  · exact absurd (by first | exact c1 | exact Classical.not_not.mp c1) (by decide) -- stop
theorem r_eS4 (hw : jok w) (hr : g.2.1 70 = rMap) (h23 : g.1 70 23 = nI (M + 1)) (hM : M < 10) (hst : g.1 86 M = nI st) (hkd : g.1 85 M = 3) {Po : Option Value → jH → Prop} (hPo : ∀ v h', Po v h' → ∃ b, v = some (.int (bI b))) (hch : jM l w yX5_choose cX5_choose 3 (some .boolean) 3 [.ref (jad w 70), .int (nI M), .int (nI st)] (pv (up2 g.1 86 M (nI (st + 1)), g.2) a gd ty) Po) : jM l w yX5_endSum cX5_endSum 4 (some .boolean) 4 [.ref (jad w 70)] (pv g a gd ty) Po := by
  refine jM_of (by decide) hw (Nat.le_of_ble_eq_true rfl) ?_
  intro X C hl hR hnL hrt hE
  subst hl
  have C : jC X w cX5_endSum RX5 := C
  show J X w (pv g a gd ty) 0 [(0, .ref (jad w 70))] []
  refine eS_k C hnL hr h23 hM hst hkd (Or.inr (Or.inr (Or.inl ⟨rfl, rfl⟩))) ?_
  refine k_aload_n C dX5_endSum_166 rfl ?_
  refine k_iload_n C dX5_endSum_167 rfl ?_
  refine k_iload_n C dX5_endSum_168 rfl ?_
  refine k_callV (k := 70) (ci := 5) (As := [.int (nI M), .int (nI st)]) C mX5_215 (hch) jCl5.1 (by first | decide | omega) (by first | assumption | rfl) rfl rfl (Nat.le_of_ble_eq_true rfl) (jroom hR (by first | decide | omega) (by decide)) dX5_endSum_169 ?_
  intro v9 h9 p9
  obtain ⟨b9, rfl⟩ := hPo _ _ p9
  exact j_zret C hrt (by cases b9 <;> rfl) hE dX5_endSum_172 p9
end XE
