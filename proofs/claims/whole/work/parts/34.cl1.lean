/-- the text that is compiled: n characters, t i the one at place i; the compiler reads it from the buffer -/
def tx (h : jH) (t : Nat → Nat) (n : Nat) : Prop := h.2.1 13 0 = some 1 ∧ h.1 13 1 = nI n ∧ n ≤ 120 ∧ ∀ i, i < n → h.1 1 i = nI (t i) ∧ t i < 128
def pek (t : Nat → Nat) (n a : Nat) : Nat := if a < n then t a else 0
theorem pek_lt {h : jH} {t : Nat → Nat} {n : Nat} (ht : tx h t n) (a : Nat) : pek t n a < 128 := by
  unfold pek
  split
  · next e => exact (ht.2.2.2 a e).2
  · decide
section CL1
variable {l : Launch} {w : jW} {h : jH} {t : Nat → Nat} {n a : Nat}
theorem m_peek (hw : jok w) (ht : tx h t n) (ha : h.1 13 2 = nI a) (han : a ≤ n) : jM l w yX0_peek cX0_peek 1 (some .char) 0 [.ref (jad w 13)] h (fun r h' => r = some (.int (nI (pek t n a))) ∧ h' = h) := by
  refine jM_of (by decide) hw (Nat.le_of_ble_eq_true rfl) ?_
  intro X C hl hR hnL hrt hE
  have C : jC X w cX0_peek RX0 := C
  obtain ⟨h0, h1, h2, h3⟩ := ht
  show J X w h 0 [(0, .ref (jad w 13))] []
  refine k_aload_n C dX0_peek_0 rfl ?_
  refine j_geti C fX0_19 rfl (by first | decide | omega) (by first | assumption | rfl) dX0_peek_1 ?_
  refine k_aload_n C dX0_peek_4 rfl ?_
  refine j_geti C fX0_15 rfl (by first | decide | omega) (by first | assumption | rfl) dX0_peek_5 ?_
  refine j_icmp_ge C 23 dX0_peek_8 (by decide) (fun c8 => ?_) (fun c8 => ?_)
  · rw [h1, ha, nI_leI (by omega) (by omega)] at c8
    refine j_iconst (v := 0) C dX0_peek_23 (by decide) ?_
    first | exact j_zret C hrt rfl hE dX0_peek_24 ⟨by rw [pek, if_neg (by omega)]; rfl, rfl⟩ | (rw [(h3 a (by omega)).1]; exact j_zret C hrt (pk_charN (by have := (h3 a (by omega)).2; omega)).1 hE dX0_peek_24 ⟨by rw [pek, if_pos (by omega)], rfl⟩)
  · rw [h1, ha, nI_leI (by omega) (by omega)] at c8
    refine k_aload_n C dX0_peek_11 rfl ?_
    refine j_getr C fX0_9 rfl (by first | decide | omega) (by first | assumption | rfl) (by assumption) dX0_peek_12 ?_
    refine k_aload_n C dX0_peek_15 rfl ?_
    refine j_geti C fX0_19 rfl (by first | decide | omega) (by first | assumption | rfl) dX0_peek_16 ?_
    refine j_cald C (by first | decide | omega) (by first | assumption | rfl) (ha) ((by omega)) (by decide) dX0_peek_19 ?_
    refine j_goto C 24 dX0_peek_20 (by decide) ?_
    first | exact j_zret C hrt rfl hE dX0_peek_24 ⟨by rw [pek, if_neg (by omega)]; rfl, rfl⟩ | (rw [(h3 a (by omega)).1]; exact j_zret C hrt (pk_charN (by have := (h3 a (by omega)).2; omega)).1 hE dX0_peek_24 ⟨by rw [pek, if_pos (by omega)], rfl⟩)
theorem m_takeIf (hw : jok w) (ht : tx h t n) (ha : h.1 13 2 = nI a) (han : a ≤ n) {ch : Nat} (hch : ch < 128) (h0c : ch ≠ 0) : jM l w yX0_takeIf cX0_takeIf 2 (some .boolean) 1 [.ref (jad w 13), .int (nI ch)] h (fun r h' => r = some (.int (if pek t n a = ch then 1 else 0)) ∧ h' = if pek t n a = ch then (up2 h.1 13 2 (nI (a + 1)), h.2) else h) := by
  refine jM_of (by decide) hw (Nat.le_of_ble_eq_true rfl) ?_
  intro X C hl hR hnL hrt hE
  have C : jC X w cX0_takeIf RX0 := C
  obtain ⟨h0, h1, h2, h3⟩ := ht
  show J X w h 0 [(0, .ref (jad w 13)), (1, .int (nI ch))] []
  refine k_aload_n C dX0_takeIf_0 rfl ?_
  refine j_geti C fX0_19 rfl (by first | decide | omega) (by first | assumption | rfl) dX0_takeIf_1 ?_
  refine k_aload_n C dX0_takeIf_4 rfl ?_
  refine j_geti C fX0_15 rfl (by first | decide | omega) (by first | assumption | rfl) dX0_takeIf_5 ?_
  refine j_icmp_ge C 24 dX0_takeIf_8 (by decide) (fun c8 => ?_) (fun c8 => ?_)
  · rw [h1, ha, nI_leI (by omega) (by omega)] at c8; have cp : ¬ pek t n a = ch := fun q => h0c (by rw [← q, pek, if_neg (by omega)])
    refine j_iconst (v := 0) C dX0_takeIf_24 (by decide) ?_
    exact j_zret C hrt (rfl) hE dX0_takeIf_25 (by first | exact ⟨by rw [if_neg cp], by rw [if_neg cp]⟩ | exact ⟨by rw [if_pos cp], by rw [if_pos cp]⟩)
  · rw [h1, ha, nI_leI (by omega) (by omega)] at c8; have c9 := (h3 a (by omega)).2; have e9 : pek t n a = t a := if_pos (by omega)
    refine k_aload_n C dX0_takeIf_11 rfl ?_
    refine j_getr C fX0_9 rfl (by first | decide | omega) (by first | assumption | rfl) (by assumption) dX0_takeIf_12 ?_
    refine k_aload_n C dX0_takeIf_15 rfl ?_
    refine j_geti C fX0_19 rfl (by first | decide | omega) (by first | assumption | rfl) dX0_takeIf_16 ?_
    refine j_cald C (by first | decide | omega) (by first | assumption | rfl) (ha) ((by omega)) (by decide) dX0_takeIf_19 ?_
    rw [(h3 a (by omega)).1]
    refine k_iload_n C dX0_takeIf_20 rfl ?_
    refine j_icmp_eq C 26 dX0_takeIf_21 (by decide) (fun c21 => ?_) (fun c21 => ?_)
    · rw [nI_eq (by omega) (by omega), ← e9] at c21; have cp := c21
      refine k_aload_n C dX0_takeIf_26 rfl ?_
      refine j_dup C dX0_takeIf_27 rfl ?_
      refine j_geti C fX0_19 rfl (by first | decide | omega) (by first | assumption | rfl) dX0_takeIf_28 ?_
      refine j_iconst (v := 1) C dX0_takeIf_31 (by decide) ?_
      refine j_iadd C dX0_takeIf_32 ?_
      rw [ha, nI_1]
      refine j_puti C fX0_19 rfl rfl (by decide) rfl dX0_takeIf_33 ?_
      refine j_iconst (v := 1) C dX0_takeIf_36 (by decide) ?_
      exact j_zret C hrt (rfl) hE dX0_takeIf_37 (by first | exact ⟨by rw [if_neg cp], by rw [if_neg cp]⟩ | exact ⟨by rw [if_pos cp], by rw [if_pos cp]⟩)
    · rw [nI_eq (by omega) (by omega), ← e9] at c21; have cp := c21
      refine j_iconst (v := 0) C dX0_takeIf_24 (by decide) ?_
      exact j_zret C hrt (rfl) hE dX0_takeIf_25 (by first | exact ⟨by rw [if_neg cp], by rw [if_neg cp]⟩ | exact ⟨by rw [if_pos cp], by rw [if_pos cp]⟩)
theorem m_refuse (hw : jok w) : jM l w yX0_refuse cX0_refuse 1 (some .int) 0 [.ref (jad w 13)] h (fun r h' => r = some (.int 1) ∧ h' = (up2 (up2 h.1 13 4 1) 13 2 (h.1 13 1), h.2)) := by
  refine jM_of (by decide) hw (Nat.le_of_ble_eq_true rfl) ?_
  intro X C hl hR hnL hrt hE
  have C : jC X w cX0_refuse RX0 := C
  show J X w h 0 [(0, .ref (jad w 13))] []
  refine k_aload_n C dX0_refuse_0 rfl ?_
  refine j_iconst (v := 1) C dX0_refuse_1 (by decide) ?_
  refine j_putz C fX0_34 rfl rfl (by first | decide | assumption) (by first | decide | omega) (by first | assumption | rfl) dX0_refuse_2 ?_
  refine k_aload_n C dX0_refuse_5 rfl ?_
  refine k_aload_n C dX0_refuse_6 rfl ?_
  refine j_geti C fX0_15 rfl (by first | decide | omega) (by first | assumption | rfl) dX0_refuse_7 ?_
  refine j_puti C fX0_19 rfl rfl (by first | decide | omega) (by first | assumption | rfl) dX0_refuse_10 ?_
  refine j_iconst (v := 1) C dX0_refuse_13 (by decide) ?_
  exact j_iret C hrt hE dX0_refuse_14 (⟨rfl, rfl⟩)
theorem m_need (hw : jok w) (x y : Int32) : jM l w yX0_need cX0_need 3 none 0 [.ref (jad w 13), .int x, .int y] h (fun r h' => r = none ∧ h' = if x = y then h else (up2 h.1 13 5 1, h.2)) := by
  refine jM_of (by decide) hw (Nat.le_of_ble_eq_true rfl) ?_
  intro X C hl hR hnL hrt hE
  have C : jC X w cX0_need RX0 := C
  show J X w h 0 [(0, .ref (jad w 13)), (1, .int x), (2, .int y)] []
  refine k_iload_n C dX0_need_0 rfl ?_
  refine k_iload_n C dX0_need_1 rfl ?_
  refine j_icmp_eq C 10 dX0_need_2 (by decide) (fun c2 => ?_) (fun c2 => ?_)
  · exact j_vret C hrt hE dX0_need_10 (⟨rfl, by first | rw [if_pos (by assumption)] | rw [if_neg (by assumption)]⟩)
  · refine k_aload_n C dX0_need_5 rfl ?_
    refine j_iconst (v := 1) C dX0_need_6 (by decide) ?_
    refine j_putz C fX0_38 rfl rfl (by first | decide | assumption) (by first | decide | omega) (by first | assumption | rfl) dX0_need_7 ?_
    exact j_vret C hrt hE dX0_need_10 (⟨rfl, by first | rw [if_pos (by assumption)] | rw [if_neg (by assumption)]⟩)
theorem m_release (hw : jok w) (x : Int32) : jM l w yX0_release cX0_release 2 none 0 [.ref (jad w 13), .int x] h (fun r h' => r = none ∧ h' = (up2 h.1 13 7 (h.1 13 7 - x), h.2)) := by
  refine jM_of (by decide) hw (Nat.le_of_ble_eq_true rfl) ?_
  intro X C hl hR hnL hrt hE
  have C : jC X w cX0_release RX0 := C
  show J X w h 0 [(0, .ref (jad w 13)), (1, .int x)] []
  refine k_aload_n C dX0_release_0 rfl ?_
  refine j_dup C dX0_release_1 rfl ?_
  refine j_geti C fX0_114 rfl (by first | decide | omega) (by first | assumption | rfl) dX0_release_2 ?_
  refine k_iload_n C dX0_release_5 rfl ?_
  refine j_isub C dX0_release_6 ?_
  refine j_puti C fX0_114 rfl rfl (by first | decide | omega) (by first | assumption | rfl) dX0_release_7 ?_
  exact j_vret C hrt hE dX0_release_10 (⟨rfl, rfl⟩)
theorem m_isIn (hw : jok w) {x y z : Nat} (hx : x < 2 ^ 31) (hy : y < 2 ^ 31) (hz : z < 2 ^ 31) : jM l w yX0_isIn cX0_isIn 3 (some .boolean) 0 [.int (nI x), .int (nI y), .int (nI z)] h (fun r h' => r = some (.int (if y ≤ x ∧ x ≤ z then 1 else 0)) ∧ h' = h) := by
  refine jM_of (by decide) hw (Nat.le_of_ble_eq_true rfl) ?_
  intro X C hl hR hnL hrt hE
  have C : jC X w cX0_isIn RX0 := C
  show J X w h 0 [(0, .int (nI x)), (1, .int (nI y)), (2, .int (nI z))] []
  refine k_iload_n C dX0_isIn_0 rfl ?_
  refine k_iload_n C dX0_isIn_1 rfl ?_
  refine j_icmp_lt C 14 dX0_isIn_2 (by decide) (fun c2 => ?_) (fun c2 => ?_)
  · rw [nI_ltI hx hy] at c2
    refine j_iconst (v := 0) C dX0_isIn_14 (by decide) ?_
    first | exact j_zret C hrt rfl hE dX0_isIn_15 ⟨by rw [if_pos (by omega)], rfl⟩ | exact j_zret C hrt rfl hE dX0_isIn_15 ⟨by rw [if_neg (by omega)], rfl⟩
  · rw [nI_ltI hx hy] at c2
    refine k_iload_n C dX0_isIn_5 rfl ?_
    refine k_iload_n C dX0_isIn_6 rfl ?_
    refine j_icmp_gt C 14 dX0_isIn_7 (by decide) (fun c7 => ?_) (fun c7 => ?_)
    · rw [nI_ltI hz hx] at c7
      refine j_iconst (v := 0) C dX0_isIn_14 (by decide) ?_
      first | exact j_zret C hrt rfl hE dX0_isIn_15 ⟨by rw [if_pos (by omega)], rfl⟩ | exact j_zret C hrt rfl hE dX0_isIn_15 ⟨by rw [if_neg (by omega)], rfl⟩
    · rw [nI_ltI hz hx] at c7
      refine j_iconst (v := 1) C dX0_isIn_10 (by decide) ?_
      refine j_goto C 15 dX0_isIn_11 (by decide) ?_
      first | exact j_zret C hrt rfl hE dX0_isIn_15 ⟨by rw [if_pos (by omega)], rfl⟩ | exact j_zret C hrt rfl hE dX0_isIn_15 ⟨by rw [if_neg (by omega)], rfl⟩
end CL1
