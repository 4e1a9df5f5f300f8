/-! THE REFERENCE: cell 70, its rows 71 .. 97 -/
def rMap (j : Nat) : Option Nat := match j with
  | 2 => some 71
  | 8 => some 72
  | 9 => some 73
  | 10 => some 74
  | 11 => some 75
  | 12 => some 76
  | 13 => some 77
  | 14 => some 78
  | 15 => some 79
  | 16 => some 80
  | 17 => some 81
  | 18 => some 82
  | 19 => some 83
  | 20 => some 84
  | 24 => some 85
  | 25 => some 86
  | 26 => some 87
  | 27 => some 88
  | 28 => some 89
  | 29 => some 90
  | 30 => some 91
  | 39 => some 92
  | 41 => some 93
  | 42 => some 94
  | 43 => some 95
  | 44 => some 96
  | 45 => some 97
  | _ => none
def bI (b : Bool) : Int32 := if b then 1 else 0
/-- the text of the reference -/
def rtx (h : jH) (t : Nat → Nat) (n : Nat) : Prop := h.1 70 3 = nI n ∧ n ≤ 120 ∧ ∀ i, i < n → h.1 71 i = nI (t i) ∧ 32 ≤ t i ∧ t i ≤ 126
/-- the heap g with the place, whether the text and the types are good -/
def pv (g : jH) (a : Nat) (gd ty : Bool) : jH := (up2 (up2 (up2 g.1 70 4 (nI a)) 70 5 (bI gd)) 70 6 (bI ty), g.2)
section R1
variable {l : Launch} {w : jW} {h g : jH} {t : Nat → Nat} {n a : Nat} {gd ty : Bool}
theorem bI_z (b : Bool) : bI b = 0 ↔ b = false := by cases b <;> simp [bI]
theorem bI_01 (b : Bool) : bI b = 0 ∨ bI b = 1 := by cases b <;> simp [bI]
theorem pv_o {k j : Nat} (hk : ¬ (k = 70 ∧ (j = 4 ∨ j = 5 ∨ j = 6))) : (pv g a gd ty).1 k j = g.1 k j := by
  show up2 (up2 (up2 g.1 70 4 (nI a)) 70 5 (bI gd)) 70 6 (bI ty) k j = _
  rw [up2_n (by omega), up2_n (by omega), up2_n (by omega)]
theorem pv_4 : (pv g a gd ty).1 70 4 = nI a := by simp [pv, up2]
theorem pv_5 : (pv g a gd ty).1 70 5 = bI gd := by simp [pv, up2]
theorem pv_6 : (pv g a gd ty).1 70 6 = bI ty := by simp [pv, up2]
theorem pv_put {k j : Nat} {v : Int32} (hk : ¬ (k = 70 ∧ (j = 4 ∨ j = 5 ∨ j = 6))) : ((up2 (pv g a gd ty).1 k j v, (pv g a gd ty).2) : jH) = pv (up2 g.1 k j v, g.2) a gd ty := by
  refine Prod.ext ?_ rfl
  funext x y
  simp only [pv, up2]
  by_cases h1 : x = k ∧ y = j
  · have e1 : ¬ (k = 70 ∧ j = 4) := by omega
    have e2 : ¬ (k = 70 ∧ j = 5) := by omega
    have e3 : ¬ (k = 70 ∧ j = 6) := by omega
    simp [h1.1, h1.2, e1, e2, e3]
  · simp only [h1, if_false]
theorem pv_at {b : Nat} : ((up2 (pv g a gd ty).1 70 4 (nI b), (pv g a gd ty).2) : jH) = pv g b gd ty := by
  refine Prod.ext ?_ rfl
  funext x y
  simp only [pv, up2]
  by_cases h4 : x = 70 ∧ y = 4
  · simp [h4]
  · simp [h4]
theorem pv_gd {b : Bool} : ((up2 (pv g a gd ty).1 70 5 (bI b), (pv g a gd ty).2) : jH) = pv g a b ty := by
  refine Prod.ext ?_ rfl
  funext x y
  simp only [pv, up2]
  by_cases h4 : x = 70 ∧ y = 5
  · simp [h4]
  · simp [h4]
theorem pv_ty {b : Bool} : ((up2 (pv g a gd ty).1 70 6 (bI b), (pv g a gd ty).2) : jH) = pv g a gd b := by
  refine Prod.ext ?_ rfl
  funext x y
  simp only [pv, up2]
  by_cases h4 : x = 70 ∧ y = 6
  · simp [h4]
  · simp [h4]
theorem rtx_pv (ht : rtx g t n) : rtx (pv g a gd ty) t n := ⟨by rw [pv_o (by omega)]; exact ht.1, ht.2.1, fun i hi => by rw [pv_o (by omega)]; exact ht.2.2 i hi⟩
theorem pek_le (ht : rtx g t n) (a : Nat) : pek t n a ≤ 126 := by
  unfold pek
  split
  · next e => exact (ht.2.2 a e).2.2
  · decide
theorem r_thrown (hw : jok w) : jM l w yX5_thrown cX5_thrown 1 (some .int) 0 [.ref (jad w 70)] h (fun r h' => r = some (.int (h.1 70 0)) ∧ h' = h) := by
  refine jM_of (by decide) hw (Nat.le_of_ble_eq_true rfl) ?_
  intro X C hl hR hnL hrt hE
  have C : jC X w cX5_thrown RX5 := C
  show J X w h 0 [(0, .ref (jad w 70))] []
  refine k_aload_n C dX5_thrown_0 rfl ?_
  refine j_geti C fX5_103 rfl (by first | decide | omega) (by first | assumption | rfl) dX5_thrown_1 ?_
  exact j_iret C hrt hE dX5_thrown_4 (⟨rfl, rfl⟩)
theorem r_refuse (hw : jok w) (x : Int32) : jM l w yX5_refuse cX5_refuse 2 (some .int) 0 [.ref (jad w 70), .int x] h (fun r h' => r = some (.int 0) ∧ h' = (up2 h.1 70 0 x, h.2)) := by
  refine jM_of (by decide) hw (Nat.le_of_ble_eq_true rfl) ?_
  intro X C hl hR hnL hrt hE
  have C : jC X w cX5_refuse RX5 := C
  show J X w h 0 [(0, .ref (jad w 70)), (1, .int x)] []
  refine k_aload_n C dX5_refuse_0 rfl ?_
  refine k_iload_n C dX5_refuse_1 rfl ?_
  refine j_puti C fX5_103 rfl rfl (by first | decide | omega) (by first | assumption | rfl) dX5_refuse_2 ?_
  refine j_iconst (v := 0) C dX5_refuse_5 (by decide) ?_
  exact j_iret C hrt hE dX5_refuse_6 (⟨rfl, rfl⟩)
theorem r_outside (hw : jok w) (x y z : Int32) : jM l w yX5_outside cX5_outside 3 (some .boolean) 0 [.int x, .int y, .int z] h (fun r h' => r = some (.int (bI (decide (x < y) || decide (z < x)))) ∧ h' = h) := by
  refine jM_of (by decide) hw (Nat.le_of_ble_eq_true rfl) ?_
  intro X C hl hR hnL hrt hE
  have C : jC X w cX5_outside RX5 := C
  show J X w h 0 [(0, .int x), (1, .int y), (2, .int z)] []
  refine k_iload_n C dX5_outside_0 rfl ?_
  refine k_iload_n C dX5_outside_1 rfl ?_
  refine j_icmp_lt C 10 dX5_outside_2 (by decide) (fun c2 => ?_) (fun c2 => ?_)
  · refine j_iconst (v := 1) C dX5_outside_10 (by decide) ?_
    refine j_goto C 15 dX5_outside_11 (by decide) ?_
    exact j_zret C hrt (rfl) hE dX5_outside_15 (by first | exact ⟨by rw [decide_eq_true c2]; rfl, rfl⟩ | exact ⟨by rw [decide_eq_false c2, decide_eq_true c7']; rfl, rfl⟩ | exact ⟨by rw [decide_eq_false c2, decide_eq_false c7']; rfl, rfl⟩)
  · refine k_iload_n C dX5_outside_5 rfl ?_
    refine k_iload_n C dX5_outside_6 rfl ?_
    refine j_icmp_le C 14 dX5_outside_7 (by decide) (fun c7 => ?_) (fun c7 => ?_)
    · have c7' : ¬ z < x := Int32.not_lt.mpr c7
      refine j_iconst (v := 0) C dX5_outside_14 (by decide) ?_
      exact j_zret C hrt (rfl) hE dX5_outside_15 (by first | exact ⟨by rw [decide_eq_true c2]; rfl, rfl⟩ | exact ⟨by rw [decide_eq_false c2, decide_eq_true c7']; rfl, rfl⟩ | exact ⟨by rw [decide_eq_false c2, decide_eq_false c7']; rfl, rfl⟩)
    · have c7' : z < x := Int32.not_le.mp c7
      refine j_iconst (v := 1) C dX5_outside_10 (by decide) ?_
      refine j_goto C 15 dX5_outside_11 (by decide) ?_
      exact j_zret C hrt (rfl) hE dX5_outside_15 (by first | exact ⟨by rw [decide_eq_true c2]; rfl, rfl⟩ | exact ⟨by rw [decide_eq_false c2, decide_eq_true c7']; rfl, rfl⟩ | exact ⟨by rw [decide_eq_false c2, decide_eq_false c7']; rfl, rfl⟩)
theorem r_look (hw : jok w) (hr : g.2.1 70 = rMap) (ht : rtx g t n) (ha : a < 2 ^ 31) : jM l w yX5_look cX5_look 1 (some .char) 0 [.ref (jad w 70)] (pv g a gd ty) (fun r h' => r = some (.int (nI (pek t n a))) ∧ h' = pv g a gd ty) := by
  refine jM_of (by decide) hw (Nat.le_of_ble_eq_true rfl) ?_
  intro X C hl hR hnL hrt hE
  have C : jC X w cX5_look RX5 := C
  obtain ⟨h1, h2, h3⟩ := rtx_pv (a := a) (gd := gd) (ty := ty) ht
  show J X w (pv g a gd ty) 0 [(0, .ref (jad w 70))] []
  refine k_aload_n C dX5_look_0 rfl ?_
  refine j_geti C fX5_113 rfl (by first | decide | omega) (by first | assumption | rfl) dX5_look_1 ?_
  refine k_aload_n C dX5_look_4 rfl ?_
  refine j_geti C fX5_110 rfl (by first | decide | omega) (by first | assumption | rfl) dX5_look_5 ?_
  refine j_icmp_ge C 23 dX5_look_8 (by decide) (fun c8 => ?_) (fun c8 => ?_)
  · rw [h1, pv_4, nI_leI (by omega) (by omega)] at c8
    refine j_iconst (v := 0) C dX5_look_23 (by decide) ?_
    first | exact j_zret C hrt rfl hE dX5_look_24 ⟨by rw [pek, if_neg (by omega)]; rfl, rfl⟩ | (rw [(h3 a (by omega)).1]; exact j_zret C hrt (pk_charN (by have := (h3 a (by omega)).2; omega)).1 hE dX5_look_24 ⟨by rw [pek, if_pos (by omega)], rfl⟩)
  · rw [h1, pv_4, nI_leI (by omega) (by omega)] at c8
    refine k_aload_n C dX5_look_11 rfl ?_
    refine j_getr C fX5_7 rfl (by first | decide | omega) (by first | assumption | rfl) (congrFun hr _) dX5_look_12 ?_
    refine k_aload_n C dX5_look_15 rfl ?_
    refine j_geti C fX5_113 rfl (by first | decide | omega) (by first | assumption | rfl) dX5_look_16 ?_
    refine j_cald C (by first | decide | omega) (by first | assumption | rfl) (pv_4) ((by omega)) (by decide) dX5_look_19 ?_
    refine j_goto C 24 dX5_look_20 (by decide) ?_
    first | exact j_zret C hrt rfl hE dX5_look_24 ⟨by rw [pek, if_neg (by omega)]; rfl, rfl⟩ | (rw [(h3 a (by omega)).1]; exact j_zret C hrt (pk_charN (by have := (h3 a (by omega)).2; omega)).1 hE dX5_look_24 ⟨by rw [pek, if_pos (by omega)], rfl⟩)
theorem r_must (hw : jok w) (b : Bool) : jM l w yX5_must cX5_must 2 none 0 [.ref (jad w 70), .int (bI b)] (pv g a gd ty) (fun r h' => r = none ∧ h' = pv g a (gd && b) ty) := by
  refine jM_of (by decide) hw (Nat.le_of_ble_eq_true rfl) ?_
  intro X C hl hR hnL hrt hE
  have C : jC X w cX5_must RX5 := C
  have h5 : (pv g a gd ty).1 70 5 = bI gd := pv_5
  show J X w (pv g a gd ty) 0 [(0, .ref (jad w 70)), (1, .int (bI b))] []
  refine k_aload_n C dX5_must_0 rfl ?_
  refine k_aload_n C dX5_must_1 rfl ?_
  refine j_geti C fX5_116 rfl (by first | decide | omega) (by first | assumption | rfl) dX5_must_2 ?_
  refine j_if_eq C 16 dX5_must_5 (by decide) (fun c5 => ?_) (fun c5 => ?_)
  · rw [h5, bI_z] at c5
    refine j_iconst (v := 0) C dX5_must_16 (by decide) ?_
    refine j_putz C fX5_116 rfl rfl (by first | decide | assumption) (by first | decide | omega) (by first | assumption | rfl) dX5_must_17 ?_
    exact j_vret C hrt hE dX5_must_20 (by first | exact ⟨rfl, by subst c5; exact pv_gd (b := false)⟩ | exact ⟨rfl, by subst c9; rw [Bool.and_false]; exact pv_gd (b := false)⟩ | exact ⟨rfl, by rw [eq_true_of_ne_false c5, eq_true_of_ne_false c9]; exact pv_gd (b := true)⟩)
  · rw [h5, bI_z] at c5
    refine k_iload_n C dX5_must_8 rfl ?_
    refine j_if_eq C 16 dX5_must_9 (by decide) (fun c9 => ?_) (fun c9 => ?_)
    · rw [bI_z] at c9
      refine j_iconst (v := 0) C dX5_must_16 (by decide) ?_
      refine j_putz C fX5_116 rfl rfl (by first | decide | assumption) (by first | decide | omega) (by first | assumption | rfl) dX5_must_17 ?_
      exact j_vret C hrt hE dX5_must_20 (by first | exact ⟨rfl, by subst c5; exact pv_gd (b := false)⟩ | exact ⟨rfl, by subst c9; rw [Bool.and_false]; exact pv_gd (b := false)⟩ | exact ⟨rfl, by rw [eq_true_of_ne_false c5, eq_true_of_ne_false c9]; exact pv_gd (b := true)⟩)
    · rw [bI_z] at c9
      refine j_iconst (v := 1) C dX5_must_12 (by decide) ?_
      refine j_goto C 17 dX5_must_13 (by decide) ?_
      refine j_putz C fX5_116 rfl rfl (by first | decide | assumption) (by first | decide | omega) (by first | assumption | rfl) dX5_must_17 ?_
      exact j_vret C hrt hE dX5_must_20 (by first | exact ⟨rfl, by subst c5; exact pv_gd (b := false)⟩ | exact ⟨rfl, by subst c9; rw [Bool.and_false]; exact pv_gd (b := false)⟩ | exact ⟨rfl, by rw [eq_true_of_ne_false c5, eq_true_of_ne_false c9]; exact pv_gd (b := true)⟩)
theorem r_type (hw : jok w) (b : Bool) : jM l w yX5_type cX5_type 2 none 0 [.ref (jad w 70), .int (bI b)] (pv g a gd ty) (fun r h' => r = none ∧ h' = pv g a gd (ty && b)) := by
  refine jM_of (by decide) hw (Nat.le_of_ble_eq_true rfl) ?_
  intro X C hl hR hnL hrt hE
  have C : jC X w cX5_type RX5 := C
  have h5 : (pv g a gd ty).1 70 6 = bI ty := pv_6
  show J X w (pv g a gd ty) 0 [(0, .ref (jad w 70)), (1, .int (bI b))] []
  refine k_aload_n C dX5_type_0 rfl ?_
  refine k_aload_n C dX5_type_1 rfl ?_
  refine j_geti C fX5_120 rfl (by first | decide | omega) (by first | assumption | rfl) dX5_type_2 ?_
  refine j_if_eq C 16 dX5_type_5 (by decide) (fun c5 => ?_) (fun c5 => ?_)
  · rw [h5, bI_z] at c5
    refine j_iconst (v := 0) C dX5_type_16 (by decide) ?_
    refine j_putz C fX5_120 rfl rfl (by first | decide | assumption) (by first | decide | omega) (by first | assumption | rfl) dX5_type_17 ?_
    exact j_vret C hrt hE dX5_type_20 (by first | exact ⟨rfl, by subst c5; exact pv_ty (b := false)⟩ | exact ⟨rfl, by subst c9; rw [Bool.and_false]; exact pv_ty (b := false)⟩ | exact ⟨rfl, by rw [eq_true_of_ne_false c5, eq_true_of_ne_false c9]; exact pv_ty (b := true)⟩)
  · rw [h5, bI_z] at c5
    refine k_iload_n C dX5_type_8 rfl ?_
    refine j_if_eq C 16 dX5_type_9 (by decide) (fun c9 => ?_) (fun c9 => ?_)
    · rw [bI_z] at c9
      refine j_iconst (v := 0) C dX5_type_16 (by decide) ?_
      refine j_putz C fX5_120 rfl rfl (by first | decide | assumption) (by first | decide | omega) (by first | assumption | rfl) dX5_type_17 ?_
      exact j_vret C hrt hE dX5_type_20 (by first | exact ⟨rfl, by subst c5; exact pv_ty (b := false)⟩ | exact ⟨rfl, by subst c9; rw [Bool.and_false]; exact pv_ty (b := false)⟩ | exact ⟨rfl, by rw [eq_true_of_ne_false c5, eq_true_of_ne_false c9]; exact pv_ty (b := true)⟩)
    · rw [bI_z] at c9
      refine j_iconst (v := 1) C dX5_type_12 (by decide) ?_
      refine j_goto C 17 dX5_type_13 (by decide) ?_
      refine j_putz C fX5_120 rfl rfl (by first | decide | assumption) (by first | decide | omega) (by first | assumption | rfl) dX5_type_17 ?_
      exact j_vret C hrt hE dX5_type_20 (by first | exact ⟨rfl, by subst c5; exact pv_ty (b := false)⟩ | exact ⟨rfl, by subst c9; rw [Bool.and_false]; exact pv_ty (b := false)⟩ | exact ⟨rfl, by rw [eq_true_of_ne_false c5, eq_true_of_ne_false c9]; exact pv_ty (b := true)⟩)
theorem r_pass (hw : jok w) (hr : g.2.1 70 = rMap) (ht : rtx g t n) (ha : a < 2 ^ 30) {ch : Nat} (hch : ch < 128) : jM l w yX5_pass cX5_pass 3 (some .boolean) 1 [.ref (jad w 70), .int (nI ch)] (pv g a gd ty) (fun r h' => r = some (.int (bI (pek t n a == ch))) ∧ h' = pv g (if pek t n a = ch then a + 1 else a) gd ty) := by
  refine jM_of (by decide) hw (Nat.le_of_ble_eq_true rfl) ?_
  intro X C hl hR hnL hrt hE
  subst hl
  have C : jC X w cX5_pass RX5 := C
  have hp := pek_le ht a
  have h4 : (pv g a gd ty).1 70 4 = nI a := pv_4
  show J X w (pv g a gd ty) 0 [(0, .ref (jad w 70)), (1, .int (nI ch))] []
  have fin : ∀ b : Bool, (b = true ↔ pek t n a = ch) → J X w (pv g a gd ty) 13 [(0, .ref (jad w 70)), (1, .int (nI ch))] [.int (bI b)] := by
    intro b hb
    cases b with
    | true =>
      have e := hb.mp rfl
      refine k_istore_n C dX5_pass_13 (by rw [hnL]; decide) ?_
      refine k_aload_n C dX5_pass_14 rfl ?_
      refine k_iload_n C dX5_pass_15 rfl ?_
      refine j_if_eq C 28 dX5_pass_16 (by decide) (fun c16 => ?_) (fun c16 => ?_)
      · exact absurd c16 (by decide) -- stop
      · refine k_aload_n C dX5_pass_19 rfl ?_
        refine j_geti C fX5_113 rfl (by first | decide | omega) (by first | assumption | rfl) dX5_pass_20 ?_
        refine j_iconst (v := 1) C dX5_pass_23 (by decide) ?_
        refine j_iadd C dX5_pass_24 ?_
        refine j_goto C 32 dX5_pass_25 (by decide) ?_
        rw [h4, nI_1]
        refine j_puti C fX5_113 rfl rfl (by first | decide | omega) (by first | assumption | rfl) dX5_pass_32 ?_
        refine jeqh pv_at ?_
        refine k_iload_n C dX5_pass_35 rfl ?_
        exact j_zret C hrt (rfl) hE dX5_pass_36 (⟨by simp [e, bI], by rw [if_pos e]⟩)
    | false =>
      have e : ¬ pek t n a = ch := fun z => by have := hb.mpr z; cases this
      refine k_istore_n C dX5_pass_13 (by rw [hnL]; decide) ?_
      refine k_aload_n C dX5_pass_14 rfl ?_
      refine k_iload_n C dX5_pass_15 rfl ?_
      refine j_if_eq C 28 dX5_pass_16 (by decide) (fun c16 => ?_) (fun c16 => ?_)
      · refine k_aload_n C dX5_pass_28 rfl ?_
        refine j_geti C fX5_113 rfl (by first | decide | omega) (by first | assumption | rfl) dX5_pass_29 ?_
        rw [h4]
        refine j_puti C fX5_113 rfl rfl (by first | decide | omega) (by first | assumption | rfl) dX5_pass_32 ?_
        refine jeqh pv_at ?_
        refine k_iload_n C dX5_pass_35 rfl ?_
        exact j_zret C hrt (rfl) hE dX5_pass_36 (⟨by simp [e, bI], by rw [if_neg e]⟩)
      · exact absurd rfl c16 -- stop
  refine k_aload_n C dX5_pass_0 rfl ?_
  refine k_callV (k := 70) (ci := 5) (As := []) C mX5_123 (r_look hw hr ht (by omega)) jCl5.1 (by first | decide | omega) (by first | assumption | rfl) rfl rfl (Nat.le_of_ble_eq_true rfl) (jroom hR (by first | decide | omega) (by decide)) dX5_pass_1 ?_
  rintro v9 h9 ⟨rfl, rfl⟩
  refine k_iload_n C dX5_pass_4 rfl ?_
  refine j_icmp_ne C 12 dX5_pass_5 (by decide) (fun c5 => ?_) (fun c5 => ?_)
  · replace c5 : ¬ pek t n a = ch := fun z => c5 (by rw [z])
    refine j_iconst (v := 0) C dX5_pass_12 (by decide) ?_
    first | exact fin true ⟨fun _ => c5, fun _ => rfl⟩ | exact fin false ⟨(fun z => by cases z), fun z => absurd z c5⟩
  · replace c5 : pek t n a = ch := (nI_eq (by omega) (by omega)).mp c5
    refine j_iconst (v := 1) C dX5_pass_8 (by decide) ?_
    refine j_goto C 13 dX5_pass_9 (by decide) ?_
    first | exact fin true ⟨fun _ => c5, fun _ => rfl⟩ | exact fin false ⟨(fun z => by cases z), fun z => absurd z c5⟩
theorem r_expect (hw : jok w) (hr : g.2.1 70 = rMap) (ht : rtx g t n) (ha : a < 2 ^ 30) {ch : Nat} (hch : ch < 128) : jM l w yX5_expect cX5_expect 2 none 2 [.ref (jad w 70), .int (nI ch)] (pv g a gd ty) (fun r h' => r = none ∧ h' = pv g (if pek t n a = ch then a + 1 else a) (gd && pek t n a == ch) ty) := by
  refine jM_of (by decide) hw (Nat.le_of_ble_eq_true rfl) ?_
  intro X C hl hR hnL hrt hE
  subst hl
  have C : jC X w cX5_expect RX5 := C
  show J X w (pv g a gd ty) 0 [(0, .ref (jad w 70)), (1, .int (nI ch))] []
  refine k_aload_n C dX5_expect_0 rfl ?_
  refine k_aload_n C dX5_expect_1 rfl ?_
  refine k_iload_n C dX5_expect_2 rfl ?_
  refine k_callV (k := 70) (ci := 5) (As := [.int (nI ch)]) C mX5_127 (r_pass hw hr ht ha hch) jCl5.1 (by first | decide | omega) (by first | assumption | rfl) rfl rfl (Nat.le_of_ble_eq_true rfl) (jroom hR (by first | decide | omega) (by decide)) dX5_expect_3 ?_
  rintro v9 h9 ⟨rfl, rfl⟩
  refine k_callV (k := 70) (ci := 5) (As := [.int (bI (pek t n a == ch))]) C mX5_131 (r_must hw (pek t n a == ch)) jCl5.1 (by first | decide | omega) (by first | assumption | rfl) rfl rfl (Nat.le_of_ble_eq_true rfl) (jroom hR (by first | decide | omega) (by decide)) dX5_expect_6 ?_
  rintro v9 h9 ⟨rfl, rfl⟩
  exact j_vret C hrt hE dX5_expect_9 (⟨rfl, rfl⟩)
theorem out2 {x lo hi : Nat} (hx : x < 2 ^ 31) (hl : lo < 2 ^ 31) (hh : hi < 2 ^ 31) : (decide (nI x < nI lo) || decide (nI hi < nI x)) = !decide (lo ≤ x ∧ x ≤ hi) := by
  by_cases c1 : x < lo
  · rw [decide_eq_true ((nI_ltI hx hl).mpr c1), decide_eq_false (show ¬ (lo ≤ x ∧ x ≤ hi) by omega)]; rfl
  · rw [decide_eq_false (fun z => c1 ((nI_ltI hx hl).mp z))]
    by_cases c2 : hi < x
    · rw [decide_eq_true ((nI_ltI hh hx).mpr c2), decide_eq_false (show ¬ (lo ≤ x ∧ x ≤ hi) by omega)]; rfl
    · rw [decide_eq_false (fun z => c2 ((nI_ltI hh hx).mp z)), decide_eq_true (show lo ≤ x ∧ x ≤ hi by omega)]; rfl
theorem r_isDigit (hw : jok w) (hr : g.2.1 70 = rMap) (ht : rtx g t n) (ha : a < 2 ^ 30) : jM l w yX5_isDigit cX5_isDigit 1 (some .boolean) 1 [.ref (jad w 70)] (pv g a gd ty) (fun r h' => r = some (.int (bI (decide (48 ≤ pek t n a ∧ pek t n a ≤ 57)))) ∧ h' = pv g a gd ty) := by
  refine jM_of (by decide) hw (Nat.le_of_ble_eq_true rfl) ?_
  intro X C hl hR hnL hrt hE
  subst hl
  have C : jC X w cX5_isDigit RX5 := C
  have hp := pek_le ht a
  have e1 := out2 (x := pek t n a) (lo := 48) (hi := 57) (by omega) (by omega) (by omega)
  show J X w (pv g a gd ty) 0 [(0, .ref (jad w 70))] []
  refine k_aload_n C dX5_isDigit_0 rfl ?_
  refine k_callV (k := 70) (ci := 5) (As := []) C mX5_123 (r_look hw hr ht (by omega)) jCl5.1 (by first | decide | omega) (by first | assumption | rfl) rfl rfl (Nat.le_of_ble_eq_true rfl) (jroom hR (by first | decide | omega) (by decide)) dX5_isDigit_1 ?_
  rintro v9 h9 ⟨rfl, rfl⟩
  refine j_bipush (v := 48) C dX5_isDigit_4 (by decide) ?_
  refine j_bipush (v := 57) C dX5_isDigit_6 (by decide) ?_
  refine k_callS (As := [.int (nI (pek t n a)), .int (nI 48), .int (nI 57)]) C mX5_106 (r_outside hw (nI (pek t n a)) (nI 48) (nI 57)) rfl rfl (Nat.le_of_ble_eq_true rfl) (jroom hR (by first | decide | omega) (by decide)) dX5_isDigit_8 ?_
  rintro v9 h9 ⟨rfl, rfl⟩
  rw [e1]
  refine j_if_ne C 18 dX5_isDigit_11 (by decide) (fun c11 => ?_) (fun c11 => ?_)
  · rw [bI_z] at c11
    refine j_iconst (v := 0) C dX5_isDigit_18 (by decide) ?_
    exact j_zret C hrt (rfl) hE dX5_isDigit_19 (by first | exact ⟨by cases ed : decide (48 ≤ pek t n a ∧ pek t n a ≤ 57); rfl; rw [ed] at c11; exact absurd rfl c11, rfl⟩ | exact ⟨by cases ed : decide (48 ≤ pek t n a ∧ pek t n a ≤ 57); rw [ed] at c11; cases c11; rfl, rfl⟩)
  · rw [bI_z] at c11
    refine j_iconst (v := 1) C dX5_isDigit_14 (by decide) ?_
    refine j_goto C 19 dX5_isDigit_15 (by decide) ?_
    exact j_zret C hrt (rfl) hE dX5_isDigit_19 (by first | exact ⟨by cases ed : decide (48 ≤ pek t n a ∧ pek t n a ≤ 57); rfl; rw [ed] at c11; exact absurd rfl c11, rfl⟩ | exact ⟨by cases ed : decide (48 ≤ pek t n a ∧ pek t n a ≤ 57); rw [ed] at c11; cases c11; rfl, rfl⟩)
theorem r_letter (hw : jok w) (hr : g.2.1 70 = rMap) (ht : rtx g t n) (ha : a < 2 ^ 30) {lo hi : Nat} (hlo : 0 < lo) (hhi : hi < 128) (hlh : lo < 128) : jM l w yX5_letter cX5_letter 3 (some .int) 1 [.ref (jad w 70), .int (nI lo), .int (nI hi)] (pv g a gd ty) (fun r h' => r = some (.int (nI (if gd = true ∧ lo ≤ pek t n a ∧ pek t n a ≤ hi then pek t n a - lo else 0))) ∧ h' = pv g (a + 1) (gd && decide (lo ≤ pek t n a ∧ pek t n a ≤ hi)) ty) := by
  refine jM_of (by decide) hw (Nat.le_of_ble_eq_true rfl) ?_
  intro X C hl hR hnL hrt hE
  subst hl
  have C : jC X w cX5_letter RX5 := C
  have hp := pek_le ht a
  show J X w (pv g a gd ty) 0 [(0, .ref (jad w 70)), (1, .int (nI lo)), (2, .int (nI hi))] []
  have fin : ∀ b : Bool, (b = true ↔ (lo ≤ pek t n a ∧ pek t n a ≤ hi)) → J X w (pv g a gd ty) 22 [(0, .ref (jad w 70)), (1, .int (nI lo)), (2, .int (nI hi))] [.int (bI b), .ref (jad w 70)] := by
    intro b hb
    have eb : decide (lo ≤ pek t n a ∧ pek t n a ≤ hi) = b := by cases b; (exact decide_eq_false (fun z => by have := hb.mpr z; cases this)); exact decide_eq_true (hb.mp rfl)
    cases hgb : (gd && b) with
    | true =>
      have hgb' : gd = true ∧ b = true := by simpa using hgb
      have e := hb.mp hgb'.2
      have hlt := pek_gt (c := 0) (t := t) (n := n) (a := a) (by omega)
      have hx := (rtx_pv (a := a + 1) (gd := true) (ty := ty) ht).2.2 a hlt
      have hn := ht.2.1
      have ep : pek t n a = t a := by unfold pek; rw [if_pos hlt]
      refine k_callV (k := 70) (ci := 5) (As := [.int (bI b)]) C mX5_131 (r_must hw b) jCl5.1 (by first | decide | omega) (by first | assumption | rfl) rfl rfl (Nat.le_of_ble_eq_true rfl) (jroom hR (by first | decide | omega) (by decide)) dX5_letter_22 ?_
      rintro v9 h9 ⟨rfl, rfl⟩
      rw [hgb]
      refine k_aload_n C dX5_letter_25 rfl ?_
      refine j_dup C dX5_letter_26 rfl ?_
      refine j_geti C fX5_113 rfl (by first | decide | omega) (by first | assumption | rfl) dX5_letter_27 ?_
      refine j_iconst (v := 1) C dX5_letter_30 (by decide) ?_
      refine j_iadd C dX5_letter_31 ?_
      rw [pv_4, nI_1]
      refine j_puti C fX5_113 rfl rfl (by first | decide | omega) (by first | assumption | rfl) dX5_letter_32 ?_
      refine jeqh pv_at ?_
      refine k_aload_n C dX5_letter_35 rfl ?_
      refine j_geti C fX5_116 rfl (by first | decide | omega) (by first | assumption | rfl) dX5_letter_36 ?_
      refine j_if_eq C 58 dX5_letter_39 (by decide) (fun c39 => ?_) (fun c39 => ?_)
      · rw [pv_5] at c39; exact absurd c39 (by decide) -- stop
      · refine k_aload_n C dX5_letter_42 rfl ?_
        refine j_getr C fX5_7 rfl (by first | decide | omega) (by first | assumption | rfl) (congrFun hr _) dX5_letter_43 ?_
        refine k_aload_n C dX5_letter_46 rfl ?_
        refine j_geti C fX5_113 rfl (by first | decide | omega) (by first | assumption | rfl) dX5_letter_47 ?_
        refine j_iconst (v := 1) C dX5_letter_50 (by decide) ?_
        refine j_isub C dX5_letter_51 ?_
        refine j_cald C (by first | decide | omega) (by first | assumption | rfl) (show (pv g (a + 1) true ty).1 70 4 - 1 = nI a from by rw [pv_4]; exact nI_pred a) ((by omega)) (by decide) dX5_letter_52 ?_
        refine k_iload_n C dX5_letter_53 rfl ?_
        rw [hx.1, ← ep]
        refine j_isub C dX5_letter_54 ?_
        rw [pk_sub e.1]
        refine j_goto C 59 dX5_letter_55 (by decide) ?_
        exact j_iret C hrt hE dX5_letter_59 (⟨by rw [if_pos ⟨hgb'.1, e⟩], by rw [eb, hgb]⟩)
    | false =>
      refine k_callV (k := 70) (ci := 5) (As := [.int (bI b)]) C mX5_131 (r_must hw b) jCl5.1 (by first | decide | omega) (by first | assumption | rfl) rfl rfl (Nat.le_of_ble_eq_true rfl) (jroom hR (by first | decide | omega) (by decide)) dX5_letter_22 ?_
      rintro v9 h9 ⟨rfl, rfl⟩
      rw [hgb]
      refine k_aload_n C dX5_letter_25 rfl ?_
      refine j_dup C dX5_letter_26 rfl ?_
      refine j_geti C fX5_113 rfl (by first | decide | omega) (by first | assumption | rfl) dX5_letter_27 ?_
      refine j_iconst (v := 1) C dX5_letter_30 (by decide) ?_
      refine j_iadd C dX5_letter_31 ?_
      rw [pv_4, nI_1]
      refine j_puti C fX5_113 rfl rfl (by first | decide | omega) (by first | assumption | rfl) dX5_letter_32 ?_
      refine jeqh pv_at ?_
      refine k_aload_n C dX5_letter_35 rfl ?_
      refine j_geti C fX5_116 rfl (by first | decide | omega) (by first | assumption | rfl) dX5_letter_36 ?_
      refine j_if_eq C 58 dX5_letter_39 (by decide) (fun c39 => ?_) (fun c39 => ?_)
      · refine j_iconst (v := 0) C dX5_letter_58 (by decide) ?_
        exact j_iret C hrt hE dX5_letter_59 (⟨by rw [if_neg (fun z => by rw [z.1, hb.mpr z.2] at hgb; cases hgb)]; rfl, by rw [eb, hgb]⟩)
      · exact absurd pv_5 c39 -- stop
  refine k_aload_n C dX5_letter_0 rfl ?_
  refine k_aload_n C dX5_letter_1 rfl ?_
  refine k_callV (k := 70) (ci := 5) (As := []) C mX5_123 (r_look hw hr ht (by omega)) jCl5.1 (by first | decide | omega) (by first | assumption | rfl) rfl rfl (Nat.le_of_ble_eq_true rfl) (jroom hR (by first | decide | omega) (by decide)) dX5_letter_2 ?_
  rintro v9 h9 ⟨rfl, rfl⟩
  refine k_iload_n C dX5_letter_5 rfl ?_
  refine j_icmp_lt C 21 dX5_letter_6 (by decide) (fun c6 => ?_) (fun c6 => ?_)
  · rw [nI_ltI (by omega) (by omega)] at c6
    refine j_iconst (v := 0) C dX5_letter_21 (by decide) ?_
    first | exact fin true ⟨fun _ => ⟨by omega, by omega⟩, fun _ => rfl⟩ | exact fin false ⟨(fun z => by cases z), fun z => by omega⟩
  · rw [nI_ltI (by omega) (by omega)] at c6
    refine k_aload_n C dX5_letter_9 rfl ?_
    refine k_callV (k := 70) (ci := 5) (As := []) C mX5_123 (r_look hw hr ht (by omega)) jCl5.1 (by first | decide | omega) (by first | assumption | rfl) rfl rfl (Nat.le_of_ble_eq_true rfl) (jroom hR (by first | decide | omega) (by decide)) dX5_letter_10 ?_
    rintro v9 h9 ⟨rfl, rfl⟩
    refine k_iload_n C dX5_letter_13 rfl ?_
    refine j_icmp_gt C 21 dX5_letter_14 (by decide) (fun c14 => ?_) (fun c14 => ?_)
    · rw [nI_ltI (by omega) (by omega)] at c14
      refine j_iconst (v := 0) C dX5_letter_21 (by decide) ?_
      first | exact fin true ⟨fun _ => ⟨by omega, by omega⟩, fun _ => rfl⟩ | exact fin false ⟨(fun z => by cases z), fun z => by omega⟩
    · rw [nI_ltI (by omega) (by omega)] at c14
      refine j_iconst (v := 1) C dX5_letter_17 (by decide) ?_
      refine j_goto C 22 dX5_letter_18 (by decide) ?_
      first | exact fin true ⟨fun _ => ⟨by omega, by omega⟩, fun _ => rfl⟩ | exact fin false ⟨(fun z => by cases z), fun z => by omega⟩
end R1
