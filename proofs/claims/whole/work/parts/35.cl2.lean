/-- a unit's cells hang together -/
def ur (h : jH) (u : Nat) : Prop := u < 7 ∧ h.2.1 (ub u) 2 = some (ub u + 1) ∧ h.2.1 (ub u) 4 = some (ub u + 2) ∧ ∀ i, i < 6 → h.2.1 (ub u + 1) i = some (ub u + 3 + i)
/-- item i of unit u fits owner and name -/
def fitI (h : jH) (u : Nat) (o nm : Int32) (i : Nat) : Prop := h.1 (ub u + 3 + i) 0 = o ∧ h.1 (ub u + 3 + i) 1 = nm
section CL2
variable {l : Launch} {w : jW} {h : jH} {u : Nat}
theorem m_emit (hw : jok w) (hu : ur h u) {c : Nat} (hc : h.1 (ub u) 3 = nI c) (hc2 : c ≤ 240) (x y : Int32) : jM l w yX3_emit cX3_emit 4 (some .int) 0 [.ref (jad w (ub u)), .int x, .int y] h (fun r h' => r = some (.int (nI c)) ∧ h' = if c < 240 then (up2 (up2 h.1 (ub u + 2) c (x ||| y <<< ((4 : Int32) &&& 31))) (ub u) 3 (nI (c + 1)), h.2) else h) := by
  refine jM_of (by decide) hw (Nat.le_of_ble_eq_true rfl) ?_
  intro X C hl hR hnL hrt hE
  have C : jC X w cX3_emit RX3 := C
  obtain ⟨hu1, hu2, hu3, hu4⟩ := hu
  obtain ⟨k3, k4, k5, k6, k7⟩ := jk_unit u hu1
  show J X w h 0 [(0, .ref (jad w (ub u))), (1, .int x), (2, .int y)] []
  refine k_aload_n C dX3_emit_0 rfl ?_
  refine j_geti C fX3_32 rfl (by first | decide | omega) (by first | assumption | rfl) dX3_emit_1 ?_
  refine k_istore_n C dX3_emit_4 (by rw [hnL]; decide) ?_
  refine k_iload_n C dX3_emit_5 rfl ?_
  refine j_sipush (v := 240) C dX3_emit_6 (by decide) ?_
  refine j_icmp_ge C 33 dX3_emit_9 (by decide) (fun c9 => ?_) (fun c9 => ?_)
  · rw [hc, show (240 : Int32) = nI 240 from rfl, nI_leI (by omega) (by omega)] at c9
    refine k_iload_n C dX3_emit_33 rfl ?_
    rw [hc]
    first | exact j_iret C hrt hE dX3_emit_34 ⟨rfl, by rw [if_neg (by omega)]⟩ | exact j_iret C hrt hE dX3_emit_34 ⟨rfl, by rw [if_pos (by omega)]; simp only [up2_o (show ub u ≠ ub u + 2 by omega), hc, nI_1]⟩
  · rw [hc, show (240 : Int32) = nI 240 from rfl, nI_leI (by omega) (by omega)] at c9
    refine k_aload_n C dX3_emit_12 rfl ?_
    refine j_getr C fX3_17 rfl (by first | decide | omega) (by first | assumption | rfl) (by assumption) dX3_emit_13 ?_
    refine k_iload_n C dX3_emit_16 rfl ?_
    refine k_iload_n C dX3_emit_17 rfl ?_
    refine k_iload_n C dX3_emit_18 rfl ?_
    refine j_iconst (v := 4) C dX3_emit_19 (by decide) ?_
    refine j_ishl C dX3_emit_20 ?_
    refine j_ior C dX3_emit_21 ?_
    refine j_iast C (by first | decide | omega) (by first | assumption | rfl) (hc) ((by omega)) (by decide) dX3_emit_22 ?_
    refine k_aload_n C dX3_emit_23 rfl ?_
    refine j_dup C dX3_emit_24 rfl ?_
    refine j_geti C fX3_32 rfl (by first | decide | omega) (by first | assumption | rfl) dX3_emit_25 ?_
    refine j_iconst (v := 1) C dX3_emit_28 (by decide) ?_
    refine j_iadd C dX3_emit_29 ?_
    refine j_puti C fX3_32 rfl rfl (by first | decide | omega) (by first | assumption | rfl) dX3_emit_30 ?_
    refine k_iload_n C dX3_emit_33 rfl ?_
    rw [hc]
    first | exact j_iret C hrt hE dX3_emit_34 ⟨rfl, by rw [if_neg (by omega)]⟩ | exact j_iret C hrt hE dX3_emit_34 ⟨rfl, by rw [if_pos (by omega)]; simp only [up2_o (show ub u ≠ ub u + 2 by omega), hc, nI_1]⟩
theorem m_landHere (hw : jok w) (hu : ur h u) {c j : Nat} (hc : h.1 (ub u) 3 = nI c) (hj : j ≤ 240) : jM l w yX3_landHere cX3_landHere 2 none 0 [.ref (jad w (ub u)), .int (nI j)] h (fun r h' => r = none ∧ h' = if j < 240 then (up2 h.1 (ub u + 2) j (h.1 (ub u + 2) j ||| nI c <<< ((4 : Int32) &&& 31)), h.2) else h) := by
  refine jM_of (by decide) hw (Nat.le_of_ble_eq_true rfl) ?_
  intro X C hl hR hnL hrt hE
  have C : jC X w cX3_landHere RX3 := C
  obtain ⟨hu1, hu2, hu3, hu4⟩ := hu
  obtain ⟨k3, k4, k5, k6, k7⟩ := jk_unit u hu1
  show J X w h 0 [(0, .ref (jad w (ub u))), (1, .int (nI j))] []
  refine k_iload_n C dX3_landHere_0 rfl ?_
  refine j_sipush (v := 240) C dX3_landHere_1 (by decide) ?_
  refine j_icmp_ge C 22 dX3_landHere_4 (by decide) (fun c4 => ?_) (fun c4 => ?_)
  · rw [show (240 : Int32) = nI 240 from rfl, nI_leI (by omega) (by omega)] at c4
    first | exact j_vret C hrt hE dX3_landHere_22 ⟨rfl, by rw [if_neg (by omega)]⟩ | exact j_vret C hrt hE dX3_landHere_22 ⟨rfl, by rw [if_pos (by omega), hc]⟩
  · rw [show (240 : Int32) = nI 240 from rfl, nI_leI (by omega) (by omega)] at c4
    refine k_aload_n C dX3_landHere_7 rfl ?_
    refine j_getr C fX3_17 rfl (by first | decide | omega) (by first | assumption | rfl) (by assumption) dX3_landHere_8 ?_
    refine k_iload_n C dX3_landHere_11 rfl ?_
    refine j_dup2 C dX3_landHere_12 rfl rfl ?_
    refine j_iald C (by first | decide | omega) (by first | assumption | rfl) (rfl) ((by omega)) (by decide) dX3_landHere_13 ?_
    refine k_aload_n C dX3_landHere_14 rfl ?_
    refine j_geti C fX3_32 rfl (by first | decide | omega) (by first | assumption | rfl) dX3_landHere_15 ?_
    refine j_iconst (v := 4) C dX3_landHere_18 (by decide) ?_
    refine j_ishl C dX3_landHere_19 ?_
    refine j_ior C dX3_landHere_20 ?_
    refine j_iast C (by first | decide | omega) (by first | assumption | rfl) (rfl) ((by omega)) (by decide) dX3_landHere_21 ?_
    first | exact j_vret C hrt hE dX3_landHere_22 ⟨rfl, by rw [if_neg (by omega)]⟩ | exact j_vret C hrt hE dX3_landHere_22 ⟨rfl, by rw [if_pos (by omega), hc]⟩
theorem m_find (hw : jok w) (hu : ur h u) {c : Nat} (hc : h.1 (ub u) 1 = nI c) (hc2 : c ≤ 6) (o nm : Int32) : jM l w yX3_find cX3_find 4 (some (.object "ModuleLinker$Item")) 0 [.ref (jad w (ub u)), .int o, .int nm] h (fun r h' => h' = h ∧ ((∃ i, i < c ∧ fitI h u o nm i ∧ (∀ k, k < i → ¬ fitI h u o nm k) ∧ r = some (.ref (jad w (ub u + 3 + i)))) ∨ ((∀ k, k < c → ¬ fitI h u o nm k) ∧ r = some .null))) := by
  refine jM_of (by decide) hw (Nat.le_of_ble_eq_true rfl) ?_
  intro X C hl hR hnL hrt hE
  have C : jC X w cX3_find RX3 := C
  obtain ⟨hu1, hu2, hu3, hu4⟩ := hu
  obtain ⟨k3, k4, k5, k6, k7⟩ := jk_unit u hu1
  show J X w h 0 [(0, .ref (jad w (ub u))), (1, .int o), (2, .int nm)] []
  have loop : ∀ (m i : Nat), i + m = c → (∀ k, k < i → ¬ fitI h u o nm k) → J X w h 2 [(0, .ref (jad w (ub u))), (1, .int o), (2, .int nm), (3, .int (nI i))] [] := by
    intro m
    induction m with
    | zero =>
      intro i hi hno
      refine k_iload_n C dX3_find_2 rfl ?_
      refine k_aload_n C dX3_find_3 rfl ?_
      refine j_geti C fX3_22 rfl (by first | decide | omega) (by first | assumption | rfl) dX3_find_4 ?_
      refine j_icmp_ge C 49 dX3_find_7 (by decide) (fun c7 => ?_) (fun c7 => ?_)
      · refine j_null C dX3_find_49 ?_
        exact j_aret C hrt (Or.inl rfl) hE dX3_find_50 (⟨rfl, Or.inr ⟨fun k hk => hno k (by omega), rfl⟩⟩)
      · exact absurd (by rw [hc]; exact nI_le (by omega) (by omega)) c7 -- stop
    | succ m ih =>
      intro i hi hno
      have k8 := k7 i (by omega)
      have hv := hu4 i (by omega)
      refine k_iload_n C dX3_find_2 rfl ?_
      refine k_aload_n C dX3_find_3 rfl ?_
      refine j_geti C fX3_22 rfl (by first | decide | omega) (by first | assumption | rfl) dX3_find_4 ?_
      refine j_icmp_ge C 49 dX3_find_7 (by decide) (fun c7 => ?_) (fun c7 => ?_)
      · exact absurd c7 (by rw [hc]; exact nI_ge (by omega) (by omega)) -- stop
      · refine k_aload_n C dX3_find_10 rfl ?_
        refine j_getr C fX3_11 rfl (by first | decide | omega) (by first | assumption | rfl) (by assumption) dX3_find_11 ?_
        refine k_iload_n C dX3_find_14 rfl ?_
        refine j_aald C (t := 4) (by decide) rfl (by first | decide | omega) (by first | assumption | rfl) (rfl) ((by omega)) (by decide) (hv) dX3_find_15 ?_
        refine j_geti C fX3_26 rfl (by first | decide | omega) (by first | assumption | rfl) dX3_find_16 ?_
        refine k_iload_n C dX3_find_19 rfl ?_
        refine j_icmp_ne C 43 dX3_find_20 (by decide) (fun c20 => ?_) (fun c20 => ?_)
        · refine k_iinc C dX3_find_43 rfl rfl (by rw [hnL]; decide) ?_
          refine j_goto C 2 dX3_find_46 (by decide) ?_
          rw [show nI i + Int32.ofInt 1 = nI (i + 1) from nI_1 i]
          exact ih (i + 1) (by omega) (fun k hk => by rcases Nat.lt_succ_iff_lt_or_eq.mp hk with h9 | h9; exact hno k h9; subst h9; intro q; first | exact c20 q.1 | exact c33 q.2)
        · refine k_aload_n C dX3_find_23 rfl ?_
          refine j_getr C fX3_11 rfl (by first | decide | omega) (by first | assumption | rfl) (by assumption) dX3_find_24 ?_
          refine k_iload_n C dX3_find_27 rfl ?_
          refine j_aald C (t := 4) (by decide) rfl (by first | decide | omega) (by first | assumption | rfl) (rfl) ((by omega)) (by decide) (hv) dX3_find_28 ?_
          refine j_geti C fX3_29 rfl (by first | decide | omega) (by first | assumption | rfl) dX3_find_29 ?_
          refine k_iload_n C dX3_find_32 rfl ?_
          refine j_icmp_ne C 43 dX3_find_33 (by decide) (fun c33 => ?_) (fun c33 => ?_)
          · refine k_iinc C dX3_find_43 rfl rfl (by rw [hnL]; decide) ?_
            refine j_goto C 2 dX3_find_46 (by decide) ?_
            rw [show nI i + Int32.ofInt 1 = nI (i + 1) from nI_1 i]
            exact ih (i + 1) (by omega) (fun k hk => by rcases Nat.lt_succ_iff_lt_or_eq.mp hk with h9 | h9; exact hno k h9; subst h9; intro q; first | exact c20 q.1 | exact c33 q.2)
          · refine k_aload_n C dX3_find_36 rfl ?_
            refine j_getr C fX3_11 rfl (by first | decide | omega) (by first | assumption | rfl) (by assumption) dX3_find_37 ?_
            refine k_iload_n C dX3_find_40 rfl ?_
            refine j_aald C (t := 4) (by decide) rfl (by first | decide | omega) (by first | assumption | rfl) (rfl) ((by omega)) (by decide) (hv) dX3_find_41 ?_
            exact j_aret C hrt (Or.inr ⟨_, rfl⟩) hE dX3_find_42 (⟨rfl, Or.inl ⟨i, by omega, ⟨c20, c33⟩, hno, rfl⟩⟩)
  refine j_iconst (v := 0) C dX3_find_0 (by decide) ?_
  refine k_istore_n C dX3_find_1 (by rw [hnL]; decide) ?_
  exact loop c 0 (by omega) (fun k hk => absurd hk (Nat.not_lt_zero k))
end CL2
