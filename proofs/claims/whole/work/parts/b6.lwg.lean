/-! THE LAW FROM ITS ENTRY -/
section LS
variable {X : jX} {w : jW} {I : Heap → Prop} {A : Nat → Prop} {nc ns : Nat} {cc : ByteArray} {own : String} {pc : Nat} {lv : List (Nat × Value)} {r : List Value} {b L : Nat} {xs : Nat → Int32}
theorem p_cell (C : jC X w cL_law RL) (hX : va_X b L xs (jXs X) (jXs X).heap) (hbl : b < (jXs X).heap.size) (hbA : ¬ A b) (hM : jCel (jXl X) w b L xs) (hr : (r.map fun v => v.category).sum ≤ 8) (hR : 1 ≤ (jXR X).frames ∧ 21 ≤ (jXR X).locals) (hcs : nc ≤ (jXR X).cells ∧ ns ≤ (jXR X).slots) (d : decode cL_law pc = .ok (.invokestatic 36, 3))
    (kk : JP X I A nc ns (pc + 3) lv (.int (if 0 < L then xs 0 else 0) :: r)) : JP X I A nc ns pc lv (.int 0 :: .ref b :: r) := by
  intro H locs ls hP hS hl
  obtain ⟨⟨hy1, hy2, hyn, hcode, hini, hlk⟩, hstc⟩ := mL_36
  have hG : GoodIn wsL_law (Cond.code yL_cell cL_cell 2 (some .int) :: wsL_law) := jGoodIn hcode (fun _ h => h)
  have hF : CallFix (jXp X) (jXm X) (jXc X) cL_law (jXc X).maxLocals (jXs X) (jXa X) wsL_law RL := ⟨C.1, C.2.1, rfl, C.2.2.1, C.2.2.2.1⟩
  have hW : 2 * (F0 (jXm X) pc ls (.int 0 :: .ref b :: r)).monitorRoom + (r.map fun v => v.category).sum ≤ 8 := by show 2 * 0 + _ ≤ 8; omega
  refine p_run (free := fun _ => False) (mc := 0) (ms := 0) (r := r) (I' := fun v H1 => v = some (.int (if 0 < L then xs 0 else 0)) ∧ I H1) (Qa := fun st oc t => oc = .returned (some (.int (if 0 < L then xs 0 else 0))) ∧ t.heap = st.heap) (fun _ h => h.elim) (fun v => ?_) (fun v st t h0 hq => ?_) hS hl ?_
  · refine p_and (fun hv => ?_)
    subst hv
    exact kk
  · obtain ⟨e1, e2⟩ := hq
    cases e1
    exact ⟨⟨by rw [e2]; exact Nat.le_refl _, fun q _ _ => by rw [e2]⟩, rfl, by rw [e2, h0]; exact hP⟩
  · rcases hlk with hlk | hlk
    · refine va_runS (As := [.ref b, .int 0]) (rest := r) hF hM ⟨callB_of 2 C.2.2.2.1 hG rfl rfl rfl (C.2.2.2.1 _ hini) (C.2.2.2.1 _ hlk) ⟨hy1, hy2, hyn⟩ hR, C.2.2.2.1 _ hstc⟩ ⟨fun a U g mk q => ?_, fun U hU hW => ?_⟩ rfl rfl hl.1 rfl hW d hcs
      · obtain ⟨q0, qX, qb, qK, qN⟩ := q
        exact ⟨q0, va_X.moved (u := U) (U := U.calling g mk a) (Vm.Alike.refl U.vm) qX, qb, va_K.moved (u := U) (U := U.calling g mk a) (Vm.Alike.refl U.vm) qK, jNok.same (s := U) (U := U.calling g mk a) rfl qN⟩
      · exact ⟨rfl, va_X.moved hW.alike (by rw [hU]; exact hX.kept (hS.2.1 b hbl hbA)), by rw [hU]; exact Nat.lt_of_lt_of_le hbl hS.1, va_K.moved hW.alike C.2.2.2.2.1, jNok.warm hW C.2.2.2.2.2.1⟩
    · exact absurd hlk (by decide +kernel)
theorem g1_70 : g1 70 = fun _ => none := by
  unfold g1
  rw [up2_o (by decide), up2_o (by decide), gL_o (by decide) 6 (by decide)]
  unfold g6
  rw [up2_o (by decide), up2_o (by decide), gU_o (by decide) (by decide), up2_o (by decide), up2_o (by decide), up2_o (by decide)]
theorem f1_o (x : Int32) {k : Nat} (hk : 70 ≤ k) : f1 x k = fun _ => 0 := by
  unfold f1 f6
  rw [up2_o (by omega), up2_o (by omega), up2_o (by omega), up2_o (by omega)]
theorem law_begin (Z : LC X w b L xs) (hao : jAO (jXs X)) (hfin : ∀ nc ns i h, nc ≤ 601024 → ns ≤ 7293000 → JP X (va_P w.1 vwCl (jws w h)) (jAb w) nc ns 571 (lvL w b i) []) : JP X (jIB w ((fun _ _ => 0), (fun _ _ => none), (fun _ _ => 0)) 0) (jAb w) 0 0 0 [(0, .ref b)] [] := by
  have Z9 := Z
  obtain ⟨C, hw, hR, hl9, hXk, hNK, hX, hbl, hbA, hnL, hL⟩ := Z9
  generalize hx0 : (if 0 < L then xs 0 else 0) = x
  have hM := v_Cell (l := jXl X) (xs := xs) (b := b) hw.ok hL
  obtain ⟨sz, e1, e2, e3, e4⟩ := sz_of x
  have hcel : ∀ {I : Heap → Prop} {nc ns pc : Nat} {lv : List (Nat × Value)} {r : List Value}, (r.map fun v => v.category).sum ≤ 8 → nc ≤ 601024 ∧ ns ≤ 7293000 → decode cL_law pc = .ok (.invokestatic 36, 3) → JP X I (jAb w) nc ns (pc + 3) lv (.int x :: r) → JP X I (jAb w) nc ns pc lv (.int 0 :: .ref b :: r) := by
    intro I nc ns pc lv r h1 h2 h3 h4
    rw [← hx0] at h4
    exact p_cell C hX hbl hbA hM h1 ⟨by rw [hR]; decide, by rw [hR]; decide⟩ (by rw [hR]; exact h2) h3 h4
  refine bb_new (N' := 1) (ci := 4) C hw rfl jCl4 (by decide) rfl rfl (rin_1 _ (List.mem_of_getElem? (i := 0) rfl)) (rin_1 _ (List.mem_of_getElem? (i := 1) rfl)) (rin_1 _ (List.mem_of_getElem? (i := 2) rfl)) ⟨by rw [hR]; decide, by rw [hR]; decide⟩ dL_law_0 rfl ?_
  refine p_dup C dL_law_3 rfl ?_
  refine q_aload_n C dL_law_4 rfl ?_
  refine p_iconst (v := 0) C dL_law_5 (by decide) ?_
  refine hcel (Nat.le_of_ble_eq_true rfl) ⟨by decide, by decide⟩ dL_law_6 ?_
  refine b_callI (k := 0) (As := [.int x]) (r := [.ref (jad w 0)]) C hao nL_42 rfl (i_Class hw x (fun k hk => ⟨rfl, rfl⟩)) rfl rfl (Nat.le_of_ble_eq_true rfl) ⟨by rw [hR]; decide, by rw [hR]; decide⟩ ⟨by rw [hR]; decide, by rw [hR]; decide⟩ dL_law_9 ?_
  refine q_astore_n C dL_law_12 (by rw [hnL]; decide) ?_
  refine p_imp (I' := jIB w (f1 x, g1, fun _ _ => 0) 70) (fun _ h9 => h9) ?_
  refine bb_new (N' := 71) (ci := 5) C hw rfl jCl5 (by decide) (f1_o x (by decide)) g1_70 (rin_1 _ (List.mem_of_getElem? (i := 3) rfl)) (rin_1 _ (List.mem_of_getElem? (i := 4) rfl)) (rin_1 _ (List.mem_of_getElem? (i := 5) rfl)) ⟨by rw [hR]; decide, by rw [hR]; decide⟩ dL_law_13 rfl ?_
  refine p_dup C dL_law_16 rfl ?_
  refine q_aload_n C dL_law_17 rfl ?_
  refine p_iconst (v := 0) C dL_law_18 (by decide) ?_
  refine hcel (Nat.le_of_ble_eq_true rfl) ⟨by decide, by decide⟩ dL_law_19 ?_
  refine b_callI (k := 70) (As := [.int x]) (r := [.ref (jad w 70)]) C hao nL_46 rfl (i_Ref hw x (fun k hk => f1_o x (by omega))) rfl rfl (Nat.le_of_ble_eq_true rfl) ⟨by rw [hR]; decide, by rw [hR]; decide⟩ ⟨by rw [hR]; decide, by rw [hR]; decide⟩ dL_law_22 ?_
  refine q_astore_n C dL_law_25 (by rw [hnL]; decide) ?_
  refine p_iconst (v := 1) C dL_law_26 (by decide) ?_
  refine b_newl (h := h2 x) (N := 98) (len := 1) C hw rfl rfl rfl (by decide) (rin_1 _ (List.mem_of_getElem? (i := 6) rfl)) ⟨by rw [hR]; decide, by rw [hR]; decide⟩ dL_law_27 ?_
  refine q_astore_n C dL_law_29 (by rw [hnL]; decide) ?_
  refine p_iconst (v := 1) C dL_law_30 (by decide) ?_
  refine q_istore C dL_law_31 (by rw [hnL]; decide) ?_
  refine p_imp (I' := va_P w.1 vwCl (jws w (h2 x))) (fun _ h9 => h9.1) ?_
  exact law_loop Z hfin 513 1 _ _ G0 (h2 x) (by omega) (by decide) (by decide) (by decide) ⟨KI0 x e1 e3 e4, RI0 x e2 e3 e4, fun h => by cases h⟩
end LS
