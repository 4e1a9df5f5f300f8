/-! THE REFERENCE'S PARSER: what its small methods do -/
def emD (dc : Bool) (g : jH) (s : Nat) (x y : Int32) : jH := if dc then g else emR g s x y
def grw (g : jH) (x : Int32) : jH := (up2 (up2 g.1 70 31 (g.1 70 31 + x)) 70 32 (if g.1 70 31 + x ≤ g.1 70 32 then g.1 70 32 else g.1 70 31 + x), g.2)
def opR (dc : Bool) (g : jH) (s : Nat) (k : Int32) : jH := (up2 (emD dc (up2 g.1 70 31 (g.1 70 31 - 1), g.2) s k 0).1 70 33 0, (emD dc (up2 g.1 70 31 (g.1 70 31 - 1), g.2) s k 0).2)
def opn (g : jH) (o : Nat) (kd : Int32) : jH := (up2 (up2 (up2 (up2 (up2 g.1 85 o kd) 86 o 0) 87 o 0) 88 o 0) 70 23 (nI (o + 1)), g.2)
section X1
variable {l : Launch} {w : jW} {h g : jH} {t : Nat → Nat} {n a s o : Nat} {gd ty dc ip : Bool}
theorem pv_self (h4 : h.1 70 4 = nI a) (h5 : h.1 70 5 = bI gd) (h6 : h.1 70 6 = bI ty) : pv h a gd ty = h := by
  refine Prod.ext ?_ rfl
  funext x y
  simp only [pv, up2]
  by_cases c6 : x = 70 ∧ y = 6
  · rw [if_pos c6, c6.1, c6.2, h6]
  · rw [if_neg c6]
    by_cases c5 : x = 70 ∧ y = 5
    · rw [if_pos c5, c5.1, c5.2, h5]
    · rw [if_neg c5]
      by_cases c4 : x = 70 ∧ y = 4
      · rw [if_pos c4, c4.1, c4.2, h4]
      · rw [if_neg c4]
theorem emD_ref {x y : Int32} : (emD dc g s x y).2 = g.2 := by unfold emD; split <;> rfl
theorem r_emit (hw : jok w) (hr : g.2.1 70 = rMap) (hd : g.1 70 7 = bI dc) (hs : g.1 70 21 = nI s) (hs2 : s < 130) (x y : Int32) : jM l w yX5_emit cX5_emit 3 none 0 [.ref (jad w 70), .int x, .int y] (pv g a gd ty) (fun r h' => r = none ∧ h' = pv (emD dc g s x y) a gd ty) := by
  cases dc with
  | false => exact r_emit0 hw hr hd hs hs2 x y
  | true => exact r_emit1 hw hd x y
theorem r_grow (hw : jok w) (x : Int32) : jM l w yX5_grow cX5_grow 2 none 0 [.ref (jad w 70), .int x] (pv g a gd ty) (fun r h' => r = none ∧ h' = pv (grw g x) a gd ty) := by
  refine jM_of (by decide) hw (Nat.le_of_ble_eq_true rfl) ?_
  intro X C hl hR hnL hrt hE
  have C : jC X w cX5_grow RX5 := C
  obtain ⟨g1, eg1⟩ : ∃ g1 : jH, g1 = (up2 g.1 70 31 (g.1 70 31 + x), g.2) := ⟨_, rfl⟩
  have e31 : (pv g1 a gd ty).1 70 31 = g.1 70 31 + x := by rw [pv_o (by omega), eg1]; simp [up2]
  have e32 : (pv g1 a gd ty).1 70 32 = g.1 70 32 := by rw [pv_o (by omega), eg1]; simp [up2]
  have fin : ∀ v, v = (if g.1 70 31 + x ≤ g.1 70 32 then g.1 70 32 else g.1 70 31 + x) → J X w (pv g1 a gd ty) 33 [(0, .ref (jad w 70)), (1, .int x)] [.int v, .ref (jad w 70)] := by
    intro v hv
    refine j_puti C fX5_144 rfl rfl (by first | decide | omega) (by first | assumption | rfl) dX5_grow_33 ?_
    refine jeqh (show _ = pv (grw g x) a gd ty from by rw [pv_put (by omega), eg1, hv]; rfl) ?_
    exact j_vret C hrt hE dX5_grow_36 (⟨rfl, rfl⟩)
  show J X w (pv g a gd ty) 0 [(0, .ref (jad w 70)), (1, .int x)] []
  refine k_aload_n C dX5_grow_0 rfl ?_
  refine j_dup C dX5_grow_1 rfl ?_
  refine j_geti C fX5_141 rfl (by first | decide | omega) (by first | assumption | rfl) dX5_grow_2 ?_
  refine k_iload_n C dX5_grow_5 rfl ?_
  refine j_iadd C dX5_grow_6 ?_
  rw [pv_o (by omega)]
  refine j_puti C fX5_141 rfl rfl (by first | decide | omega) (by first | assumption | rfl) dX5_grow_7 ?_
  refine jeqh (show _ = pv g1 a gd ty from by rw [pv_put (by omega), eg1]) ?_
  refine k_aload_n C dX5_grow_10 rfl ?_
  refine k_aload_n C dX5_grow_11 rfl ?_
  refine j_geti C fX5_141 rfl (by first | decide | omega) (by first | assumption | rfl) dX5_grow_12 ?_
  refine k_aload_n C dX5_grow_15 rfl ?_
  refine j_geti C fX5_144 rfl (by first | decide | omega) (by first | assumption | rfl) dX5_grow_16 ?_
  refine j_icmp_le C 29 dX5_grow_19 (by decide) (fun c19 => ?_) (fun c19 => ?_)
  · rw [e31, e32] at c19
    refine k_aload_n C dX5_grow_29 rfl ?_
    refine j_geti C fX5_144 rfl (by first | decide | omega) (by first | assumption | rfl) dX5_grow_30 ?_
    first | exact fin _ (by rw [e32, if_pos c19]) | exact fin _ (by rw [e31, if_neg c19])
  · rw [e31, e32] at c19
    refine k_aload_n C dX5_grow_22 rfl ?_
    refine j_geti C fX5_141 rfl (by first | decide | omega) (by first | assumption | rfl) dX5_grow_23 ?_
    refine j_goto C 33 dX5_grow_26 (by decide) ?_
    first | exact fin _ (by rw [e32, if_pos c19]) | exact fin _ (by rw [e31, if_neg c19])
theorem r_keep (hw : jok w) (hip : g.1 70 33 = bI ip) : jM l w yX5_keep cX5_keep 1 none 1 [.ref (jad w 70)] (pv g a gd ty) (fun r h' => r = none ∧ h' = pv (grw g 1) a gd (ty && !ip)) := by
  refine jM_of (by decide) hw (Nat.le_of_ble_eq_true rfl) ?_
  intro X C hl hR hnL hrt hE
  subst hl
  have C : jC X w cX5_keep RX5 := C
  have e33 : (pv g a gd ty).1 70 33 = bI ip := by rw [pv_o (by omega)]; exact hip
  have fin : ∀ b, b = !ip → J X w (pv g a gd ty) 13 [(0, .ref (jad w 70))] [.int (bI b), .ref (jad w 70)] := by
    intro b hb
    refine k_callV (k := 70) (ci := 5) (As := [.int (bI b)]) C mX5_172 (r_type hw b) jCl5.1 (by first | decide | omega) (by first | assumption | rfl) rfl rfl (Nat.le_of_ble_eq_true rfl) (jroom hR (by first | decide | omega) (by decide)) dX5_keep_13 ?_
    rintro v9 h9 ⟨rfl, rfl⟩
    refine k_aload_n C dX5_keep_16 rfl ?_
    refine j_iconst (v := 1) C dX5_keep_17 (by decide) ?_
    refine k_callV (k := 70) (ci := 5) (As := [.int 1]) C mX5_212 (r_grow hw 1) jCl5.1 (by first | decide | omega) (by first | assumption | rfl) rfl rfl (Nat.le_of_ble_eq_true rfl) (jroom hR (by first | decide | omega) (by decide)) dX5_keep_18 ?_
    rintro v9 h9 ⟨rfl, rfl⟩
    exact j_vret C hrt hE dX5_keep_21 (⟨rfl, by rw [hb]⟩)
  show J X w (pv g a gd ty) 0 [(0, .ref (jad w 70))] []
  refine k_aload_n C dX5_keep_0 rfl ?_
  refine k_aload_n C dX5_keep_1 rfl ?_
  refine j_geti C fX5_162 rfl (by first | decide | omega) (by first | assumption | rfl) dX5_keep_2 ?_
  refine j_if_ne C 12 dX5_keep_5 (by decide) (fun c5 => ?_) (fun c5 => ?_)
  · rw [e33, bI_z] at c5
    refine j_iconst (v := 0) C dX5_keep_12 (by decide) ?_
    first | exact fin true (by rw [c5]; rfl) | exact fin false (by rw [eq_true_of_ne_false c5]; rfl)
  · rw [e33, bI_z] at c5
    refine j_iconst (v := 1) C dX5_keep_8 (by decide) ?_
    refine j_goto C 13 dX5_keep_9 (by decide) ?_
    first | exact fin true (by rw [c5]; rfl) | exact fin false (by rw [eq_true_of_ne_false c5]; rfl)
theorem r_operate (hw : jok w) (hr : g.2.1 70 = rMap) (hd : g.1 70 7 = bI dc) (hs : g.1 70 21 = nI s) (hs2 : s < 130) (hip : g.1 70 33 = bI ip) (k : Int32) : jM l w yX5_operate cX5_operate 2 none 1 [.ref (jad w 70), .int k] (pv g a gd ty) (fun r h' => r = none ∧ h' = pv (opR dc g s k) a gd (ty && !ip)) := by
  refine jM_of (by decide) hw (Nat.le_of_ble_eq_true rfl) ?_
  intro X C hl hR hnL hrt hE
  subst hl
  have C : jC X w cX5_operate RX5 := C
  have e33 : (pv g a gd ty).1 70 33 = bI ip := by rw [pv_o (by omega)]; exact hip
  obtain ⟨g1, eg1⟩ : ∃ g1 : jH, g1 = (up2 g.1 70 31 (g.1 70 31 - 1), g.2) := ⟨_, rfl⟩
  have f7 : g1.1 70 7 = bI dc := by rw [eg1]; simpa [up2] using hd
  have f21 : g1.1 70 21 = nI s := by rw [eg1]; simpa [up2] using hs
  have fr : g1.2.1 70 = rMap := by rw [eg1]; exact hr
  have fin : ∀ b, b = !ip → J X w (pv g a gd ty) 13 [(0, .ref (jad w 70)), (1, .int k)] [.int (bI b), .ref (jad w 70)] := by
    intro b hb
    refine k_callV (k := 70) (ci := 5) (As := [.int (bI b)]) C mX5_172 (r_type hw b) jCl5.1 (by first | decide | omega) (by first | assumption | rfl) rfl rfl (Nat.le_of_ble_eq_true rfl) (jroom hR (by first | decide | omega) (by decide)) dX5_operate_13 ?_
    rintro v9 h9 ⟨rfl, rfl⟩
    refine k_aload_n C dX5_operate_16 rfl ?_
    refine j_dup C dX5_operate_17 rfl ?_
    refine j_geti C fX5_141 rfl (by first | decide | omega) (by first | assumption | rfl) dX5_operate_18 ?_
    refine j_iconst (v := 1) C dX5_operate_21 (by decide) ?_
    refine j_isub C dX5_operate_22 ?_
    rw [pv_o (by omega)]
    refine j_puti C fX5_141 rfl rfl (by first | decide | omega) (by first | assumption | rfl) dX5_operate_23 ?_
    refine jeqh (show _ = pv g1 a gd (ty && b) from by rw [pv_put (by omega), eg1]) ?_
    refine k_aload_n C dX5_operate_26 rfl ?_
    refine k_iload_n C dX5_operate_27 rfl ?_
    refine j_iconst (v := 0) C dX5_operate_28 (by decide) ?_
    refine k_callV (k := 70) (ci := 5) (As := [.int k, .int 0]) C mX5_158 (r_emit hw fr f7 f21 hs2 k 0) jCl5.1 (by first | decide | omega) (by first | assumption | rfl) rfl rfl (Nat.le_of_ble_eq_true rfl) (jroom hR (by first | decide | omega) (by decide)) dX5_operate_29 ?_
    rintro v9 h9 ⟨rfl, rfl⟩
    refine k_aload_n C dX5_operate_32 rfl ?_
    refine j_iconst (v := 0) C dX5_operate_33 (by decide) ?_
    refine j_putz C fX5_162 rfl rfl (by first | decide | assumption) (by first | decide | omega) (by first | assumption | rfl) dX5_operate_34 ?_
    refine jeqh (show _ = pv (opR dc g s k) a gd (ty && b) from by rw [pv_put (by omega), eg1]; rfl) ?_
    exact j_vret C hrt hE dX5_operate_37 (⟨rfl, by rw [hb]⟩)
  show J X w (pv g a gd ty) 0 [(0, .ref (jad w 70)), (1, .int k)] []
  refine k_aload_n C dX5_operate_0 rfl ?_
  refine k_aload_n C dX5_operate_1 rfl ?_
  refine j_geti C fX5_162 rfl (by first | decide | omega) (by first | assumption | rfl) dX5_operate_2 ?_
  refine j_if_ne C 12 dX5_operate_5 (by decide) (fun c5 => ?_) (fun c5 => ?_)
  · rw [e33, bI_z] at c5
    refine j_iconst (v := 0) C dX5_operate_12 (by decide) ?_
    first | exact fin true (by rw [c5]; rfl) | exact fin false (by rw [eq_true_of_ne_false c5]; rfl)
  · rw [e33, bI_z] at c5
    refine j_iconst (v := 1) C dX5_operate_8 (by decide) ?_
    refine j_goto C 13 dX5_operate_9 (by decide) ?_
    first | exact fin true (by rw [c5]; rfl) | exact fin false (by rw [eq_true_of_ne_false c5]; rfl)
theorem r_opened (hw : jok w) (hr : g.2.1 70 = rMap) (ho : g.1 70 23 = nI o) (ho2 : o < 100) (kd : Int32) : jM l w yX5_opened cX5_opened 2 none 1 [.ref (jad w 70), .int kd] (pv g a gd ty) (fun r h' => r = none ∧ h' = if gd = true ∧ o < 9 then pv (opn g o kd) a true ty else pv g a false ty) := by
  refine jM_of (by decide) hw (Nat.le_of_ble_eq_true rfl) ?_
  intro X C hl hR hnL hrt hE
  subst hl
  have C : jC X w cX5_opened RX5 := C
  have e23 : ∀ b, (pv g a b ty).1 70 23 = nI o := fun b => by rw [pv_o (by omega)]; exact ho
  have fin : ∀ b, b = decide (o < 9) → J X w (pv g a gd ty) 15 [(0, .ref (jad w 70)), (1, .int kd)] [.int (bI b), .ref (jad w 70)] := by
    intro b hb
    cases hgb : (gd && b) with
    | false =>
      have e9 : ¬ (gd = true ∧ o < 9) := fun z => by rw [z.1, hb, decide_eq_true z.2] at hgb; cases hgb
      refine k_callV (k := 70) (ci := 5) (As := [.int (bI b)]) C mX5_131 (r_must hw b) jCl5.1 (by first | decide | omega) (by first | assumption | rfl) rfl rfl (Nat.le_of_ble_eq_true rfl) (jroom hR (by first | decide | omega) (by decide)) dX5_opened_15 ?_
      rintro v9 h9 ⟨rfl, rfl⟩
      rw [hgb]
      refine k_aload_n C dX5_opened_18 rfl ?_
      refine j_geti C fX5_116 rfl (by first | decide | omega) (by first | assumption | rfl) dX5_opened_19 ?_
      refine j_if_ne C 26 dX5_opened_22 (by decide) (fun c22 => ?_) (fun c22 => ?_)
      · exact absurd pv_5 c22 -- stop
      · exact j_vret C hrt hE dX5_opened_25 (⟨rfl, by rw [if_neg e9]⟩)
    | true =>
      have hgb' : gd = true ∧ b = true := by simpa using hgb
      have e9 : gd = true ∧ o < 9 := ⟨hgb'.1, by rw [hb] at hgb'; exact of_decide_eq_true hgb'.2⟩
      obtain ⟨g1, eg1⟩ : ∃ g1 : jH, g1 = (up2 g.1 85 o kd, g.2) := ⟨_, rfl⟩
      obtain ⟨g2, eg2⟩ : ∃ g2 : jH, g2 = (up2 g1.1 86 o 0, g1.2) := ⟨_, rfl⟩
      obtain ⟨g3, eg3⟩ : ∃ g3 : jH, g3 = (up2 g2.1 87 o 0, g2.2) := ⟨_, rfl⟩
      obtain ⟨g4, eg4⟩ : ∃ g4 : jH, g4 = (up2 g3.1 88 o 0, g3.2) := ⟨_, rfl⟩
      have o1 : g1.1 70 23 = nI o := by rw [eg1]; dsimp only; rw [up2_n (by omega)]; exact ho
      have o2 : g2.1 70 23 = nI o := by rw [eg2]; dsimp only; rw [up2_n (by omega)]; exact o1
      have o3 : g3.1 70 23 = nI o := by rw [eg3]; dsimp only; rw [up2_n (by omega)]; exact o2
      have o4 : g4.1 70 23 = nI o := by rw [eg4]; dsimp only; rw [up2_n (by omega)]; exact o3
      have p : ∀ {g' : jH}, g'.1 70 23 = nI o → (pv g' a true ty).1 70 23 = nI o := fun z => by rw [pv_o (by omega)]; exact z
      have r1 : g1.2.1 70 = rMap := by rw [eg1]; exact hr
      have r2 : g2.2.1 70 = rMap := by rw [eg2]; exact r1
      have r3 : g3.2.1 70 = rMap := by rw [eg3]; exact r2
      refine k_callV (k := 70) (ci := 5) (As := [.int (bI b)]) C mX5_131 (r_must hw b) jCl5.1 (by first | decide | omega) (by first | assumption | rfl) rfl rfl (Nat.le_of_ble_eq_true rfl) (jroom hR (by first | decide | omega) (by decide)) dX5_opened_15 ?_
      rintro v9 h9 ⟨rfl, rfl⟩
      rw [hgb]
      refine k_aload_n C dX5_opened_18 rfl ?_
      refine j_geti C fX5_116 rfl (by first | decide | omega) (by first | assumption | rfl) dX5_opened_19 ?_
      refine j_if_ne C 26 dX5_opened_22 (by decide) (fun c22 => ?_) (fun c22 => ?_)
      · refine k_aload_n C dX5_opened_26 rfl ?_
        refine j_getr C fX5_54 rfl (by first | decide | omega) (by first | assumption | rfl) (congrFun hr _) dX5_opened_27 ?_
        refine k_aload_n C dX5_opened_30 rfl ?_
        refine j_geti C fX5_151 rfl (by first | decide | omega) (by first | assumption | rfl) dX5_opened_31 ?_
        refine k_iload_n C dX5_opened_34 rfl ?_
        refine j_iast C (by first | decide | omega) (by first | assumption | rfl) (p ho) ((by omega)) (by decide) dX5_opened_35 ?_
        refine jeqh (show _ = pv g1 a true ty from by rw [pv_put (by omega), eg1]) ?_
        refine k_aload_n C dX5_opened_36 rfl ?_
        refine j_getr C fX5_57 rfl (by first | decide | omega) (by first | assumption | rfl) (congrFun r1 _) dX5_opened_37 ?_
        refine k_aload_n C dX5_opened_40 rfl ?_
        refine j_geti C fX5_151 rfl (by first | decide | omega) (by first | assumption | rfl) dX5_opened_41 ?_
        refine j_iconst (v := 0) C dX5_opened_44 (by decide) ?_
        refine j_iast C (by first | decide | omega) (by first | assumption | rfl) (p o1) ((by omega)) (by decide) dX5_opened_45 ?_
        refine jeqh (show _ = pv g2 a true ty from by rw [pv_put (by omega), eg2]) ?_
        refine k_aload_n C dX5_opened_46 rfl ?_
        refine j_getr C fX5_60 rfl (by first | decide | omega) (by first | assumption | rfl) (congrFun r2 _) dX5_opened_47 ?_
        refine k_aload_n C dX5_opened_50 rfl ?_
        refine j_geti C fX5_151 rfl (by first | decide | omega) (by first | assumption | rfl) dX5_opened_51 ?_
        refine j_iconst (v := 0) C dX5_opened_54 (by decide) ?_
        refine j_iast C (by first | decide | omega) (by first | assumption | rfl) (p o2) ((by omega)) (by decide) dX5_opened_55 ?_
        refine jeqh (show _ = pv g3 a true ty from by rw [pv_put (by omega), eg3]) ?_
        refine k_aload_n C dX5_opened_56 rfl ?_
        refine j_getr C fX5_63 rfl (by first | decide | omega) (by first | assumption | rfl) (congrFun r3 _) dX5_opened_57 ?_
        refine k_aload_n C dX5_opened_60 rfl ?_
        refine j_geti C fX5_151 rfl (by first | decide | omega) (by first | assumption | rfl) dX5_opened_61 ?_
        refine j_iconst (v := 0) C dX5_opened_64 (by decide) ?_
        refine j_zast C (by first | decide | omega) (by first | assumption | rfl) (p o3) ((by omega)) (by decide) (by first | decide | assumption) dX5_opened_65 ?_
        refine jeqh (show _ = pv g4 a true ty from by rw [pv_put (by omega), eg4]) ?_
        refine k_aload_n C dX5_opened_66 rfl ?_
        refine j_dup C dX5_opened_67 rfl ?_
        refine j_geti C fX5_151 rfl (by first | decide | omega) (by first | assumption | rfl) dX5_opened_68 ?_
        refine j_iconst (v := 1) C dX5_opened_71 (by decide) ?_
        refine j_iadd C dX5_opened_72 ?_
        rw [p o4, nI_1]
        refine j_puti C fX5_151 rfl rfl (by first | decide | omega) (by first | assumption | rfl) dX5_opened_73 ?_
        refine jeqh (show _ = pv (opn g o kd) a true ty from by rw [pv_put (by omega), eg4, eg3, eg2, eg1]; rfl) ?_
        exact j_vret C hrt hE dX5_opened_76 (⟨rfl, by rw [if_pos e9]⟩)
      · exact absurd ((show (pv g a true ty).1 70 5 = 1 from pv_5).symm.trans (by first | exact c22 | exact Classical.not_not.mp c22)) (by decide) -- stop
  show J X w (pv g a gd ty) 0 [(0, .ref (jad w 70)), (1, .int kd)] []
  refine k_aload_n C dX5_opened_0 rfl ?_
  refine k_aload_n C dX5_opened_1 rfl ?_
  refine j_geti C fX5_151 rfl (by first | decide | omega) (by first | assumption | rfl) dX5_opened_2 ?_
  refine j_bipush (v := 9) C dX5_opened_5 (by decide) ?_
  refine j_icmp_ge C 14 dX5_opened_7 (by decide) (fun c7 => ?_) (fun c7 => ?_)
  · rw [e23, show (9 : Int32) = nI 9 from rfl, nI_leI (by omega) (by omega)] at c7
    refine j_iconst (v := 0) C dX5_opened_14 (by decide) ?_
    first | exact fin true (decide_eq_true (by omega)).symm | exact fin false (decide_eq_false (by omega)).symm
  · rw [e23, show (9 : Int32) = nI 9 from rfl, nI_leI (by omega) (by omega)] at c7
    refine j_iconst (v := 1) C dX5_opened_10 (by decide) ?_
    refine j_goto C 15 dX5_opened_11 (by decide) ?_
    first | exact fin true (decide_eq_true (by omega)).symm | exact fin false (decide_eq_false (by omega)).symm
end X1
