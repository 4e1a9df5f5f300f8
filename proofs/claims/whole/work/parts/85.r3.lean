/-! THE REFERENCE'S STATE between calls -/
def Rc (ev : List Ev) (p : Nat) : Nat := rpos (ev.take p)
def renc (e : Ev) : Nat := match e.1 with
  | 0 => 0
  | 1 => 1
  | 2 => 2
  | 5 => 3
  | 6 => 4
  | 7 => 5
  | 9 => 6
  | 10 => 7
  | 11 => 8
  | 12 => 9
  | 13 => 10
  | _ => 11
def rnum (R : Nat → Nat) (e : Ev) : Nat := match e.1 with
  | 0 => e.2.1
  | 1 => e.2.1
  | 2 => e.2.1
  | 11 => R e.2.1
  | 12 => R e.2.1
  | 13 => e.2.1
  | _ => 0
/-- the code of module m -/
def rCd (h : jH) (m : Nat) (ev : List Ev) : Prop := ∀ p e, ev[p]? = some e → krf e = 1 → h.1 82 (130 * m + Rc ev p) = nI (renc e) ∧ h.1 83 (130 * m + Rc ev p) = nI (rnum (Rc ev) e) ∧ (e.1 = 13 → h.1 84 (130 * m + Rc ev p) = nI e.2.2.1)
def rU (h : jH) (m : Nat) (U : PU) : Prop := rIt h m U.1 ∧ (∀ i (hi : i < U.1.length), (U.1[i]).1 = 0 → h.1 80 (6 * m + i) = nI (U.2.2.getD i (0, 0)).2 ∧ h.1 81 (6 * m + i) = nI (Rc U.2.1 (U.2.2.getD i (0, 0)).1)) ∧ rCd h m U.2.1
def rM (PG : Nat → PU) (pr : Nat → Bool) (h : jH) : Prop := ∀ m, m < 6 → h.1 72 m = bI (pr m) ∧ (pr m = true → rU h m (PG m) ∧ puOk (PG m))
def rO (sz : Nat) (G : GS) (h : jH) : Prop := h.1 70 1 = nI sz ∧ 8 ≤ sz ∧ sz ≤ 500 ∧ h.1 70 34 = bI G.2.2.1.1 ∧ h.1 70 35 = nI G.2.2.1.2.1 ∧ h.1 70 36 = G.2.2.1.2.2.1 ∧ h.1 70 37 = G.2.2.1.2.2.2 ∧ h.1 70 49 = G.2.2.2.1 ∧ h.1 70 50 = G.2.2.2.2.1 ∧ h.1 70 48 = nI G.2.2.2.2.2.1 ∧ h.1 70 47 = nI G.2.2.2.2.2.2 ∧ ∃ b, h.1 70 6 = bI b
def RI (sz : Nat) (G : GS) (h : jH) : Prop := h.2.1 70 = rMap ∧ rtx h G.1.2 G.1.1 ∧ rM G.2.1.1 G.2.1.2 h ∧ rO sz G h
def rF (h h' : jH) : Prop := h'.2 = h.2 ∧ ∀ k j, k < 70 → h'.1 k j = h.1 k j
section R3
variable {l : Launch} {w : jW} {h h' : jH} {sz : Nat} {G : GS} {PG : Nat → PU} {pr : Nat → Bool}
theorem Rc_le {ev : List Ev} {p : Nat} : Rc ev p ≤ rpos ev := by
  have := rpos_app (ev.take p) (ev.drop p)
  rw [List.take_append_drop] at this
  unfold Rc
  omega
theorem rM_keep (hk : ∀ k j, ((k = 72 ∨ k = 73) ∧ j < 6) ∨ (74 ≤ k ∧ k ≤ 81 ∧ k ≠ 78 ∧ j < 36) ∨ (k = 78 ∧ j < 108) ∨ (82 ≤ k ∧ k ≤ 84 ∧ j < 780) → h'.1 k j = h.1 k j) (H : rM PG pr h) : rM PG pr h' := by
  intro m hm
  obtain ⟨a, b⟩ := H m hm
  refine ⟨by rw [hk _ _ (by omega)]; exact a, fun z => ?_⟩
  obtain ⟨⟨⟨⟨b1, b2, b3⟩, b4⟩, b5, b6⟩, U⟩ := b z
  refine ⟨⟨⟨⟨by rw [hk _ _ (by omega)]; exact b1, b2, fun i hi => ?_⟩, fun i hi => ?_⟩, fun i hi e0 => ?_, fun p e he hk1 => ?_⟩, U⟩
  · obtain ⟨c1, c2, c3⟩ := b3 i hi
    exact ⟨by rw [hk _ _ (by omega)]; exact c1, by rw [hk _ _ (by omega)]; exact c2, c3⟩
  · obtain ⟨c1, c2, c3, c4⟩ := b4 i hi
    exact ⟨by rw [hk _ _ (by omega)]; exact c1, by rw [hk _ _ (by omega)]; exact c2, fun q hq => by rw [hk _ _ (by have := nTk_le ((PG m).1[i]).2.2.1; omega)]; exact c3 q hq, by rw [hk _ _ (by omega)]; exact c4⟩
  · obtain ⟨c1, c2⟩ := b5 i hi e0
    exact ⟨by rw [hk _ _ (by omega)]; exact c1, by rw [hk _ _ (by omega)]; exact c2⟩
  · obtain ⟨c1, c2, c3⟩ := b6 p e he hk1
    have hR := Rc_le (ev := (PG m).2.1) (p := p)
    have hU := U.2.2.2.2.2.1
    exact ⟨by rw [hk _ _ (by omega)]; exact c1, by rw [hk _ _ (by omega)]; exact c2, fun z => by rw [hk _ _ (by omega)]; exact c3 z⟩
theorem rO_keep (hk : ∀ j, (j = 1 ∨ j = 6 ∨ (34 ≤ j ∧ j ≤ 37) ∨ (47 ≤ j ∧ j ≤ 50)) → h'.1 70 j = h.1 70 j) (H : rO sz G h) : rO sz G h' := by
  obtain ⟨a1, a2, a3, a4, a5, a6, a7, a8, a9, aA, aB, b, aC⟩ := H
  exact ⟨by rw [hk _ (by omega)]; exact a1, a2, a3, by rw [hk _ (by omega)]; exact a4, by rw [hk _ (by omega)]; exact a5, by rw [hk _ (by omega)]; exact a6, by rw [hk _ (by omega)]; exact a7, by rw [hk _ (by omega)]; exact a8, by rw [hk _ (by omega)]; exact a9, by rw [hk _ (by omega)]; exact aA, by rw [hk _ (by omega)]; exact aB, b, by rw [hk _ (by omega)]; exact aC⟩
theorem rtx_keep {t : Nat → Nat} {n : Nat} (h3 : h'.1 70 3 = h.1 70 3) (h71 : ∀ j, h'.1 71 j = h.1 71 j) (H : rtx h t n) : rtx h' t n := ⟨by rw [h3]; exact H.1, H.2.1, fun i hi => by rw [h71]; exact H.2.2 i hi⟩
theorem RI_code (x : Int32) (H : RI sz G h) : RI sz G (up2 h.1 70 0 x, h.2) ∧ rF h (up2 h.1 70 0 x, h.2) := by
  obtain ⟨a, b, c, d⟩ := H
  exact ⟨⟨a, rtx_keep (by simp [up2]) (fun j => by dsimp only; rw [up2_n (by omega)]) b, rM_keep (fun k j z => by dsimp only; rw [up2_n (by omega)]) c, rO_keep (fun j z => by dsimp only; rw [up2_n (by omega)]) d⟩, rfl, fun k j z => up2_n (by omega)⟩
theorem r_Fault (hw : jok w) (H : RI sz G h) : jM l w yX5_fault cX5_fault 1 (some .int) 0 [.ref (jad w 70)] h (fun r h' => r = some (.int (nI G.2.2.1.2.1)) ∧ RI sz G h' ∧ rF h h') := by
  refine jM_of (by decide) hw (Nat.le_of_ble_eq_true rfl) ?_
  intro X C hl hR hnL hrt hE
  have C : jC X w cX5_fault RX5 := C
  have h35 := H.2.2.2.2.2.2.2.1
  show J X w h 0 [(0, .ref (jad w 70))] []
  refine k_aload_n C dX5_fault_0 rfl ?_
  refine j_iconst (v := 0) C dX5_fault_1 (by decide) ?_
  refine j_puti C fX5_103 rfl rfl (by first | decide | omega) (by first | assumption | rfl) dX5_fault_2 ?_
  refine k_aload_n C dX5_fault_5 rfl ?_
  refine j_geti C fX5_243 rfl (by first | decide | omega) (by first | assumption | rfl) dX5_fault_6 ?_
  rw [show ((up2 h.1 70 0 0, h.2) : jH).1 70 35 = nI G.2.2.1.2.1 from by simpa [up2] using h35]
  exact j_iret C hrt hE dX5_fault_9 (⟨rfl, RI_code 0 H⟩)
theorem r_Unfit (hw : jok w) (H : RI sz G h) (v : Int32) : jM l w yX5_unfit cX5_unfit 2 (some .int) 0 [.ref (jad w 70), .int v] h (fun r h' => r = some (.int (gUnfit G v)) ∧ RI sz G h' ∧ rF h h') := by
  refine jM_of (by decide) hw (Nat.le_of_ble_eq_true rfl) ?_
  intro X C hl hR hnL hrt hE
  have C : jC X w cX5_unfit RX5 := C
  have q0 := H.2.2.2.2.2.2.2.2.1
  have q1 := H.2.2.2.2.2.2.2.2.2.1
  show J X w h 0 [(0, .ref (jad w 70)), (1, .int v)] []
  refine k_aload_n C dX5_unfit_0 rfl ?_
  refine j_iconst (v := 0) C dX5_unfit_1 (by decide) ?_
  refine j_puti C fX5_103 rfl rfl (by first | decide | omega) (by first | assumption | rfl) dX5_unfit_2 ?_
  refine k_iload_n C dX5_unfit_5 rfl ?_
  refine j_if_ne C 16 dX5_unfit_6 (by decide) (fun c6 => ?_) (fun c6 => ?_)
  · refine k_iload_n C dX5_unfit_16 rfl ?_
    refine j_iconst (v := 1) C dX5_unfit_17 (by decide) ?_
    refine j_icmp_ne C 28 dX5_unfit_18 (by decide) (fun c18 => ?_) (fun c18 => ?_)
    · skip
      refine j_iconst (v := -1) C dX5_unfit_28 (by decide) ?_
      first | (rw [show ((up2 h.1 70 0 0, h.2) : jH).1 70 36 = _ from (show up2 h.1 70 0 0 70 36 = h.1 70 36 by simp [up2]).trans q0]; exact j_iret C hrt hE dX5_unfit_29 ⟨by unfold gUnfit; rw [if_pos c6], RI_code 0 H⟩) | (rw [show ((up2 h.1 70 0 0, h.2) : jH).1 70 37 = _ from (show up2 h.1 70 0 0 70 37 = h.1 70 37 by simp [up2]).trans q1]; exact j_iret C hrt hE dX5_unfit_29 ⟨by unfold gUnfit; rw [if_neg c6, if_pos c18], RI_code 0 H⟩) | exact j_iret C hrt hE dX5_unfit_29 ⟨by unfold gUnfit; rw [if_neg c6, if_neg c18], RI_code 0 H⟩
    · skip
      refine k_aload_n C dX5_unfit_21 rfl ?_
      refine j_geti C fX5_79 rfl (by first | decide | omega) (by first | assumption | rfl) dX5_unfit_22 ?_
      refine j_goto C 29 dX5_unfit_25 (by decide) ?_
      first | (rw [show ((up2 h.1 70 0 0, h.2) : jH).1 70 36 = _ from (show up2 h.1 70 0 0 70 36 = h.1 70 36 by simp [up2]).trans q0]; exact j_iret C hrt hE dX5_unfit_29 ⟨by unfold gUnfit; rw [if_pos c6], RI_code 0 H⟩) | (rw [show ((up2 h.1 70 0 0, h.2) : jH).1 70 37 = _ from (show up2 h.1 70 0 0 70 37 = h.1 70 37 by simp [up2]).trans q1]; exact j_iret C hrt hE dX5_unfit_29 ⟨by unfold gUnfit; rw [if_neg c6, if_pos c18], RI_code 0 H⟩) | exact j_iret C hrt hE dX5_unfit_29 ⟨by unfold gUnfit; rw [if_neg c6, if_neg c18], RI_code 0 H⟩
  · refine k_aload_n C dX5_unfit_9 rfl ?_
    refine j_geti C fX5_75 rfl (by first | decide | omega) (by first | assumption | rfl) dX5_unfit_10 ?_
    refine j_goto C 29 dX5_unfit_13 (by decide) ?_
    first | (rw [show ((up2 h.1 70 0 0, h.2) : jH).1 70 36 = _ from (show up2 h.1 70 0 0 70 36 = h.1 70 36 by simp [up2]).trans q0]; exact j_iret C hrt hE dX5_unfit_29 ⟨by unfold gUnfit; rw [if_pos c6], RI_code 0 H⟩) | (rw [show ((up2 h.1 70 0 0, h.2) : jH).1 70 37 = _ from (show up2 h.1 70 0 0 70 37 = h.1 70 37 by simp [up2]).trans q1]; exact j_iret C hrt hE dX5_unfit_29 ⟨by unfold gUnfit; rw [if_neg c6, if_pos c18], RI_code 0 H⟩) | exact j_iret C hrt hE dX5_unfit_29 ⟨by unfold gUnfit; rw [if_neg c6, if_neg c18], RI_code 0 H⟩
theorem r_Res (hw : jok w) (H : RI sz G h) (v : Int32) : jM l w yX5_result cX5_result 2 (some .int) 0 [.ref (jad w 70), .int v] h (fun r h' => r = some (.int (gRes G v)) ∧ RI sz G h' ∧ rF h h') := by
  refine jM_of (by decide) hw (Nat.le_of_ble_eq_true rfl) ?_
  intro X C hl hR hnL hrt hE
  have C : jC X w cX5_result RX5 := C
  have q0 := H.2.2.2.2.2.2.2.2.2.2.1
  have q1 := H.2.2.2.2.2.2.2.2.2.2.2.1
  show J X w h 0 [(0, .ref (jad w 70)), (1, .int v)] []
  refine k_aload_n C dX5_result_0 rfl ?_
  refine j_iconst (v := 0) C dX5_result_1 (by decide) ?_
  refine j_puti C fX5_103 rfl rfl (by first | decide | omega) (by first | assumption | rfl) dX5_result_2 ?_
  refine k_iload_n C dX5_result_5 rfl ?_
  refine j_if_ne C 16 dX5_result_6 (by decide) (fun c6 => ?_) (fun c6 => ?_)
  · refine k_iload_n C dX5_result_16 rfl ?_
    refine j_iconst (v := 1) C dX5_result_17 (by decide) ?_
    refine j_icmp_ne C 28 dX5_result_18 (by decide) (fun c18 => ?_) (fun c18 => ?_)
    · skip
      refine j_iconst (v := 0) C dX5_result_28 (by decide) ?_
      first | (rw [show ((up2 h.1 70 0 0, h.2) : jH).1 70 49 = _ from (show up2 h.1 70 0 0 70 49 = h.1 70 49 by simp [up2]).trans q0]; exact j_iret C hrt hE dX5_result_29 ⟨by unfold gRes; rw [if_pos c6], RI_code 0 H⟩) | (rw [show ((up2 h.1 70 0 0, h.2) : jH).1 70 50 = _ from (show up2 h.1 70 0 0 70 50 = h.1 70 50 by simp [up2]).trans q1]; exact j_iret C hrt hE dX5_result_29 ⟨by unfold gRes; rw [if_neg c6, if_pos c18], RI_code 0 H⟩) | exact j_iret C hrt hE dX5_result_29 ⟨by unfold gRes; rw [if_neg c6, if_neg c18], RI_code 0 H⟩
    · skip
      refine k_aload_n C dX5_result_21 rfl ?_
      refine j_geti C fX5_306 rfl (by first | decide | omega) (by first | assumption | rfl) dX5_result_22 ?_
      refine j_goto C 29 dX5_result_25 (by decide) ?_
      first | (rw [show ((up2 h.1 70 0 0, h.2) : jH).1 70 49 = _ from (show up2 h.1 70 0 0 70 49 = h.1 70 49 by simp [up2]).trans q0]; exact j_iret C hrt hE dX5_result_29 ⟨by unfold gRes; rw [if_pos c6], RI_code 0 H⟩) | (rw [show ((up2 h.1 70 0 0, h.2) : jH).1 70 50 = _ from (show up2 h.1 70 0 0 70 50 = h.1 70 50 by simp [up2]).trans q1]; exact j_iret C hrt hE dX5_result_29 ⟨by unfold gRes; rw [if_neg c6, if_pos c18], RI_code 0 H⟩) | exact j_iret C hrt hE dX5_result_29 ⟨by unfold gRes; rw [if_neg c6, if_neg c18], RI_code 0 H⟩
  · refine k_aload_n C dX5_result_9 rfl ?_
    refine j_geti C fX5_309 rfl (by first | decide | omega) (by first | assumption | rfl) dX5_result_10 ?_
    refine j_goto C 29 dX5_result_13 (by decide) ?_
    first | (rw [show ((up2 h.1 70 0 0, h.2) : jH).1 70 49 = _ from (show up2 h.1 70 0 0 70 49 = h.1 70 49 by simp [up2]).trans q0]; exact j_iret C hrt hE dX5_result_29 ⟨by unfold gRes; rw [if_pos c6], RI_code 0 H⟩) | (rw [show ((up2 h.1 70 0 0, h.2) : jH).1 70 50 = _ from (show up2 h.1 70 0 0 70 50 = h.1 70 50 by simp [up2]).trans q1]; exact j_iret C hrt hE dX5_result_29 ⟨by unfold gRes; rw [if_neg c6, if_pos c18], RI_code 0 H⟩) | exact j_iret C hrt hE dX5_result_29 ⟨by unfold gRes; rw [if_neg c6, if_neg c18], RI_code 0 H⟩
theorem r_Took (hw : jok w) (H : RI sz G h) (v : Int32) : jM l w yX5_took cX5_took 2 (some .int) 0 [.ref (jad w 70), .int v] h (fun r h' => r = some (.int (gTook G v)) ∧ RI sz G h' ∧ rF h h') := by
  refine jM_of (by decide) hw (Nat.le_of_ble_eq_true rfl) ?_
  intro X C hl hR hnL hrt hE
  have C : jC X w cX5_took RX5 := C
  have q0 := H.2.2.2.2.2.2.2.2.2.2.2.2.1
  have q1 := H.2.2.2.2.2.2.2.2.2.2.2.2.2.1
  show J X w h 0 [(0, .ref (jad w 70)), (1, .int v)] []
  refine k_aload_n C dX5_took_0 rfl ?_
  refine j_iconst (v := 0) C dX5_took_1 (by decide) ?_
  refine j_puti C fX5_103 rfl rfl (by first | decide | omega) (by first | assumption | rfl) dX5_took_2 ?_
  refine k_iload_n C dX5_took_5 rfl ?_
  refine j_if_ne C 16 dX5_took_6 (by decide) (fun c6 => ?_) (fun c6 => ?_)
  · refine k_iload_n C dX5_took_16 rfl ?_
    refine j_iconst (v := 1) C dX5_took_17 (by decide) ?_
    refine j_icmp_ne C 28 dX5_took_18 (by decide) (fun c18 => ?_) (fun c18 => ?_)
    · skip
      refine j_iconst (v := -1) C dX5_took_28 (by decide) ?_
      first | (rw [show ((up2 h.1 70 0 0, h.2) : jH).1 70 48 = _ from (show up2 h.1 70 0 0 70 48 = h.1 70 48 by simp [up2]).trans q0]; exact j_iret C hrt hE dX5_took_29 ⟨by unfold gTook; rw [if_pos c6], RI_code 0 H⟩) | (rw [show ((up2 h.1 70 0 0, h.2) : jH).1 70 47 = _ from (show up2 h.1 70 0 0 70 47 = h.1 70 47 by simp [up2]).trans q1]; exact j_iret C hrt hE dX5_took_29 ⟨by unfold gTook; rw [if_neg c6, if_pos c18], RI_code 0 H⟩) | exact j_iret C hrt hE dX5_took_29 ⟨by unfold gTook; rw [if_neg c6, if_neg c18], RI_code 0 H⟩
    · skip
      refine k_aload_n C dX5_took_21 rfl ?_
      refine j_geti C fX5_272 rfl (by first | decide | omega) (by first | assumption | rfl) dX5_took_22 ?_
      refine j_goto C 29 dX5_took_25 (by decide) ?_
      first | (rw [show ((up2 h.1 70 0 0, h.2) : jH).1 70 48 = _ from (show up2 h.1 70 0 0 70 48 = h.1 70 48 by simp [up2]).trans q0]; exact j_iret C hrt hE dX5_took_29 ⟨by unfold gTook; rw [if_pos c6], RI_code 0 H⟩) | (rw [show ((up2 h.1 70 0 0, h.2) : jH).1 70 47 = _ from (show up2 h.1 70 0 0 70 47 = h.1 70 47 by simp [up2]).trans q1]; exact j_iret C hrt hE dX5_took_29 ⟨by unfold gTook; rw [if_neg c6, if_pos c18], RI_code 0 H⟩) | exact j_iret C hrt hE dX5_took_29 ⟨by unfold gTook; rw [if_neg c6, if_neg c18], RI_code 0 H⟩
  · refine k_aload_n C dX5_took_9 rfl ?_
    refine j_geti C fX5_275 rfl (by first | decide | omega) (by first | assumption | rfl) dX5_took_10 ?_
    refine j_goto C 29 dX5_took_13 (by decide) ?_
    first | (rw [show ((up2 h.1 70 0 0, h.2) : jH).1 70 48 = _ from (show up2 h.1 70 0 0 70 48 = h.1 70 48 by simp [up2]).trans q0]; exact j_iret C hrt hE dX5_took_29 ⟨by unfold gTook; rw [if_pos c6], RI_code 0 H⟩) | (rw [show ((up2 h.1 70 0 0, h.2) : jH).1 70 47 = _ from (show up2 h.1 70 0 0 70 47 = h.1 70 47 by simp [up2]).trans q1]; exact j_iret C hrt hE dX5_took_29 ⟨by unfold gTook; rw [if_neg c6, if_pos c18], RI_code 0 H⟩) | exact j_iret C hrt hE dX5_took_29 ⟨by unfold gTook; rw [if_neg c6, if_neg c18], RI_code 0 H⟩
theorem r_isModule (hw : jok w) (hr : h.2.1 70 = rMap) (hM : rM PG pr h) (m : Int32) : jM l w yX5_isModule cX5_isModule 2 (some .boolean) 1 [.ref (jad w 70), .int m] h (fun r h' => r = some (.int (bI (prs pr m).isSome)) ∧ h' = h) := by
  refine jM_of (by decide) hw (Nat.le_of_ble_eq_true rfl) ?_
  intro X C hl hR hnL hrt hE
  subst hl
  have C : jC X w cX5_isModule RX5 := C
  show J X w h 0 [(0, .ref (jad w 70)), (1, .int m)] []
  have start : (∀ b : Bool, (b = true ↔ iK 6 m = none) → J X w h 6 [(0, .ref (jad w 70)), (1, .int m)] [.int (bI b)]) → J X w h 0 [(0, .ref (jad w 70)), (1, .int m)] [] := by
    intro kk
    refine k_iload_n C dX5_isModule_0 rfl ?_
    refine j_iconst (v := 0) C dX5_isModule_1 (by decide) ?_
    refine j_iconst (v := 5) C dX5_isModule_2 (by decide) ?_
    refine k_callS (As := [.int m, .int 0, .int 5]) C mX5_106 (r_outside hw m 0 5) rfl rfl (Nat.le_of_ble_eq_true rfl) (jroom hR (by first | decide | omega) (by decide)) dX5_isModule_3 ?_
    rintro v9 h9 ⟨rfl, e9⟩
    obtain rfl := e9.symm
    refine kk _ ?_
    rw [Bool.or_eq_true, decide_eq_true_eq, decide_eq_true_eq]
    unfold iK
    have e0 : (0 : Int32).toInt = 0 := rfl
    have e5 : (5 : Int32).toInt = 5 := rfl
    have e6 : (nI 6).toInt = 6 := rfl
    rw [Int32.lt_iff_toInt_lt, Int32.lt_iff_toInt_lt, e0, e5]
    constructor
    · intro z
      rw [if_neg]
      rw [Int32.le_iff_toInt_le, Int32.lt_iff_toInt_lt, e0, e6]
      omega
    · intro z
      split at z
      · cases z
      · next c => rw [Int32.le_iff_toInt_le, Int32.lt_iff_toInt_lt, e0, e6] at c; omega
  refine start (fun b hb => ?_)
  cases e : iK 6 m with
  | none =>
    have hbt := hb.mpr e
    subst hbt
    have e2 : prs pr m = none := by unfold prs; rw [e]; rfl
    refine j_if_ne C 22 dX5_isModule_6 (by decide) (fun c6 => ?_) (fun c6 => ?_)
    · refine j_iconst (v := 0) C dX5_isModule_22 (by decide) ?_
      exact j_zret C hrt (rfl) hE dX5_isModule_23 (⟨by rw [e2]; rfl, rfl⟩)
    · exact absurd c6 (by decide) -- stop
  | some k =>
    have hbf : b = false := by
      cases b with
      | false => rfl
      | true => have := hb.mp rfl; rw [e] at this; cases this
    subst hbf
    obtain ⟨rfl, hk⟩ := iK_some (by decide) e
    have hp := (hM k hk).1
    refine j_if_ne C 22 dX5_isModule_6 (by decide) (fun c6 => ?_) (fun c6 => ?_)
    · exact absurd rfl c6 -- stop
    · refine k_aload_n C dX5_isModule_9 rfl ?_
      refine j_getr C fX5_13 rfl (by first | decide | omega) (by first | assumption | rfl) (congrFun hr _) dX5_isModule_10 ?_
      refine k_iload_n C dX5_isModule_13 rfl ?_
      refine j_zald C (by first | decide | omega) (by first | assumption | rfl) (rfl) ((by omega)) (by decide) dX5_isModule_14 ?_
      refine j_if_eq C 22 dX5_isModule_15 (by decide) (fun c15 => ?_) (fun c15 => ?_)
      · rw [hp, bI_z] at c15
        refine j_iconst (v := 0) C dX5_isModule_22 (by decide) ?_
        exact j_zret C hrt (rfl) hE dX5_isModule_23 (by first | exact ⟨by unfold prs; rw [e]; simp [c15, bI], rfl⟩ | exact ⟨by unfold prs; rw [e]; simp [eq_true_of_ne_false c15, bI], rfl⟩)
      · rw [hp, bI_z] at c15
        refine j_iconst (v := 1) C dX5_isModule_18 (by decide) ?_
        refine j_goto C 23 dX5_isModule_19 (by decide) ?_
        exact j_zret C hrt (rfl) hE dX5_isModule_23 (by first | exact ⟨by unfold prs; rw [e]; simp [c15, bI], rfl⟩ | exact ⟨by unfold prs; rw [e]; simp [eq_true_of_ne_false c15, bI], rfl⟩)
theorem r_Drop (hw : jok w) (H : RI sz G h) (m : Int32) : jM l w yX5_drop cX5_drop 2 none 2 [.ref (jad w 70), .int m] h (fun r h' => r = none ∧ h'.1 70 0 = nI (gDrop G m).1 ∧ RI sz (gDrop G m).2 h' ∧ rF h h') := by
  refine jM_of (by decide) hw (Nat.le_of_ble_eq_true rfl) ?_
  intro X C hl hR hnL hrt hE
  subst hl
  have C : jC X w cX5_drop RX5 := C
  obtain ⟨hr, hT, hM, hO⟩ := id H
  show J X w h 0 [(0, .ref (jad w 70)), (1, .int m)] []
  cases e : prs G.2.1.2 m with
  | none =>
    have eG : gDrop G m = (1, G) := by unfold gDrop; rw [e]
    refine k_aload_n C dX5_drop_0 rfl ?_
    refine k_aload_n C dX5_drop_1 rfl ?_
    refine k_iload_n C dX5_drop_2 rfl ?_
    refine k_callV (k := 70) (ci := 5) (As := [.int m]) C mX5_256 (r_isModule hw hr hM m) jCl5.1 (by first | decide | omega) (by first | assumption | rfl) rfl rfl (Nat.le_of_ble_eq_true rfl) (jroom hR (by first | decide | omega) (by decide)) dX5_drop_3 ?_
    rintro v9 h9 ⟨rfl, e9⟩
    obtain rfl := e9.symm
    rw [e]
    refine j_if_eq C 13 dX5_drop_6 (by decide) (fun c6 => ?_) (fun c6 => ?_)
    · refine j_iconst (v := 1) C dX5_drop_13 (by decide) ?_
      refine j_puti C fX5_103 rfl rfl (by first | decide | omega) (by first | assumption | rfl) dX5_drop_14 ?_
      refine k_aload_n C dX5_drop_17 rfl ?_
      refine j_geti C fX5_103 rfl (by first | decide | omega) (by first | assumption | rfl) dX5_drop_18 ?_
      refine j_if_le C 25 dX5_drop_21 (by decide) (fun c21 => ?_) (fun c21 => ?_)
      · exact absurd (show up2 h.1 70 0 1 70 0 ≤ 0 from c21) (by simp [up2]) -- stop
      · exact j_vret C hrt hE dX5_drop_24 (⟨rfl, by rw [eG]; simp [up2]; rfl, by rw [eG]; exact RI_code 1 H⟩)
    · exact absurd rfl c6 -- stop
  | some k =>
    have eG : gDrop G m = (0, (G.1, (G.2.1.1, upF G.2.1.2 k false), (false, G.2.2.1.2), G.2.2.2)) := by unfold gDrop; rw [e]
    obtain ⟨rfl, hk, hp⟩ := prs_some e
    have key : RI sz (G.1, (G.2.1.1, upF G.2.1.2 k false), (false, G.2.2.1.2), G.2.2.2) (up2 (up2 (up2 h.1 70 0 0) 72 k 0) 70 34 0, h.2) := by
      refine ⟨hr, rtx_keep (by simp [up2]) (fun j => by dsimp only; rw [up2_n (by omega), up2_n (by omega), up2_n (by omega)]) hT, ?_, ?_⟩
      · intro m' hm'
        have hM' := rM_keep (h' := (up2 (up2 h.1 70 0 0) 70 34 0, h.2)) (fun k' j z => by dsimp only; rw [up2_n (by omega), up2_n (by omega)]) hM
        by_cases z : m' = k
        · subst z
          exact ⟨by simp [up2, upF, bI], fun y => by simp [upF] at y⟩
        · have e1 : upF G.2.1.2 k false m' = G.2.1.2 m' := by simp [upF, z]
          have hK := rM_keep (PG := G.2.1.1) (pr := upF G.2.1.2 m' (G.2.1.2 m')) (h := h) (h' := (up2 (up2 (up2 h.1 70 0 0) 72 k 0) 70 34 0, h.2))
          dsimp only
          rw [e1]
          obtain ⟨x1, x2⟩ := hM' m' hm'
          refine ⟨by rw [← x1]; simp [up2, z], fun y => ?_⟩
          obtain ⟨x3, x4⟩ := x2 y
          refine ⟨?_, x4⟩
          have hnum : ∀ k' j, 73 ≤ k' → (up2 (up2 (up2 h.1 70 0 0) 72 k 0) 70 34 0) k' j = (up2 (up2 h.1 70 0 0) 70 34 0) k' j := fun k' j hk' => by rw [up2_n (by omega), up2_n (by omega), up2_n (by omega), up2_n (by omega), up2_n (by omega)]
          unfold rU rIt rNF rSg rCd at x3 ⊢
          simp only [hnum _ _ (show 73 ≤ 73 by decide), hnum _ _ (show 73 ≤ 74 by decide), hnum _ _ (show 73 ≤ 75 by decide), hnum _ _ (show 73 ≤ 76 by decide), hnum _ _ (show 73 ≤ 77 by decide), hnum _ _ (show 73 ≤ 78 by decide), hnum _ _ (show 73 ≤ 79 by decide), hnum _ _ (show 73 ≤ 80 by decide), hnum _ _ (show 73 ≤ 81 by decide), hnum _ _ (show 73 ≤ 82 by decide), hnum _ _ (show 73 ≤ 83 by decide), hnum _ _ (show 73 ≤ 84 by decide)]
          exact x3
      · obtain ⟨a1, a2, a3, a4, a5, a6, a7, a8, a9, aA, aB, b, aC⟩ := hO
        exact ⟨by simpa [up2] using a1, a2, a3, by simp [up2, bI], by simpa [up2] using a5, by simpa [up2] using a6, by simpa [up2] using a7, by simpa [up2] using a8, by simpa [up2] using a9, by simpa [up2] using aA, by simpa [up2] using aB, b, by simpa [up2] using aC⟩
    refine k_aload_n C dX5_drop_0 rfl ?_
    refine k_aload_n C dX5_drop_1 rfl ?_
    refine k_iload_n C dX5_drop_2 rfl ?_
    refine k_callV (k := 70) (ci := 5) (As := [.int (nI k)]) C mX5_256 (r_isModule hw hr hM (nI k)) jCl5.1 (by first | decide | omega) (by first | assumption | rfl) rfl rfl (Nat.le_of_ble_eq_true rfl) (jroom hR (by first | decide | omega) (by decide)) dX5_drop_3 ?_
    rintro v9 h9 ⟨rfl, e9⟩
    obtain rfl := e9.symm
    rw [e]
    refine j_if_eq C 13 dX5_drop_6 (by decide) (fun c6 => ?_) (fun c6 => ?_)
    · exact absurd c6 (by simp [bI]) -- stop
    · refine j_iconst (v := 0) C dX5_drop_9 (by decide) ?_
      refine j_goto C 14 dX5_drop_10 (by decide) ?_
      refine j_puti C fX5_103 rfl rfl (by first | decide | omega) (by first | assumption | rfl) dX5_drop_14 ?_
      refine k_aload_n C dX5_drop_17 rfl ?_
      refine j_geti C fX5_103 rfl (by first | decide | omega) (by first | assumption | rfl) dX5_drop_18 ?_
      refine j_if_le C 25 dX5_drop_21 (by decide) (fun c21 => ?_) (fun c21 => ?_)
      · refine k_aload_n C dX5_drop_25 rfl ?_
        refine j_getr C fX5_13 rfl (by first | decide | omega) (by first | assumption | rfl) (congrFun hr _) dX5_drop_26 ?_
        refine k_iload_n C dX5_drop_29 rfl ?_
        refine j_iconst (v := 0) C dX5_drop_30 (by decide) ?_
        refine j_zast C (by first | decide | omega) (by first | assumption | rfl) (rfl) ((by omega)) (by decide) (by first | decide | assumption) dX5_drop_31 ?_
        refine k_aload_n C dX5_drop_32 rfl ?_
        refine j_iconst (v := 0) C dX5_drop_33 (by decide) ?_
        refine j_putz C fX5_253 rfl rfl (by first | decide | assumption) (by first | decide | omega) (by first | assumption | rfl) dX5_drop_34 ?_
        exact j_vret C hrt hE dX5_drop_37 (⟨rfl, by rw [eG]; simp [up2]; rfl, by rw [eG]; exact ⟨key, rfl, fun k' j z => by dsimp only; rw [up2_n (by omega), up2_n (by omega), up2_n (by omega)]⟩⟩)
      · exact absurd (show up2 h.1 70 0 0 70 0 ≤ 0 by simp [up2]) c21 -- stop
end R3
