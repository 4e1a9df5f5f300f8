def cbV (G : GS) (m f : Int32) : Nat := if G.2.2.1.1 = false then 1 else match dfO G.2.1.1 G.2.1.2 m f with
  | none => 2
  | some q => if ((G.2.1.1 q.1).1.getD q.2 (0, 0, 0, 0, 0)).2.2.2.1 = 0 then 2 else if 4 < wb (sgo G.2.1.1 q.1 q.2) 4 then 3 else 0
section XZ
variable {l : Launch} {w : jW} {h h' g : jH} {sz : Nat} {G : GS}
theorem fit_of {PG : Nat → PU} {pr : Nat → Bool} (h : unfM PG pr 6 0 = none) : fitA PG pr := by
  intro m hm hp i hi h0
  have hn := unfM_none 6 0 h m (Nat.zero_le _) (by omega) hp
  have key : ∀ (l : List HD) (a : Nat), unfI PG pr l a = none → ∀ d ∈ l, d.1 ≠ 0 → fitP PG pr d = true := by
    intro l
    induction l with
    | nil => intro a _ d hd; cases hd
    | cons x l ih =>
      intro a e d hd h0
      unfold unfI at e
      split at e
      · cases e
      · next c =>
        rcases List.mem_cons.mp hd with z | z
        · subst z
          cases y : fitP PG pr d with
          | true => rfl
          | false => exact absurd ⟨h0, y⟩ c
        · exact ih (a + 1) e d z h0
  exact key _ _ hn _ (List.getElem_mem hi) h0
theorem r_callable (hw : jok w) (H : RI sz G h) (m f : Int32) : jM l w yX5_callable cX5_callable 4 (some .int) 2 [.ref (jad w 70), .int m, .int f] h (fun r h' => r = some (.int (nI (cbV G m f))) ∧ h' = h) := by
  refine jM_of (by decide) hw (Nat.le_of_ble_eq_true rfl) ?_
  intro X C hl hR hnL hrt hE
  subst hl
  have C : jC X w cX5_callable RX5 := C
  obtain ⟨hr, hT, hM, hO⟩ := id H
  have h34 := hO.2.2.2.1
  show J X w h 0 [(0, .ref (jad w 70)), (1, .int m), (2, .int f)] []
  cases hlk : G.2.2.1.1 with
  | false =>
    rw [hlk] at h34
    have eC : cbV G m f = 1 := by unfold cbV; rw [if_pos hlk]
    refine k_aload_n C dX5_callable_0 rfl ?_
    refine j_geti C fX5_253 rfl (by first | decide | omega) (by first | assumption | rfl) dX5_callable_1 ?_
    refine j_if_ne C 9 dX5_callable_4 (by decide) (fun c4 => ?_) (fun c4 => ?_)
    · exact absurd h34 c4 -- stop
    · refine j_iconst (v := 1) C dX5_callable_7 (by decide) ?_
      exact j_iret C hrt hE dX5_callable_8 (⟨by rw [eC]; rfl, rfl⟩)
  | true =>
    rw [hlk] at h34
    have n34 : ¬ h.1 70 34 = 0 := by rw [h34]; decide
    have eC : cbV G m f = match dfO G.2.1.1 G.2.1.2 m f with
        | none => 2
        | some q => if ((G.2.1.1 q.1).1.getD q.2 (0, 0, 0, 0, 0)).2.2.2.1 = 0 then 2 else if 4 < wb (sgo G.2.1.1 q.1 q.2) 4 then 3 else 0 := by unfold cbV; rw [if_neg (by rw [hlk]; decide)]
    have start : J X w h 28 [(0, .ref (jad w 70)), (1, .int m), (2, .int f)] [.int (match dfO G.2.1.1 G.2.1.2 m f with | none => -1 | some q => nI (6 * q.1 + q.2))] → J X w h 0 [(0, .ref (jad w 70)), (1, .int m), (2, .int f)] [] := by
      intro kk
      cases e : prs G.2.1.2 m with
      | none =>
        have ed : dfO G.2.1.1 G.2.1.2 m f = none := by unfold dfO; rw [e]
        rw [ed] at kk
        refine k_aload_n C dX5_callable_0 rfl ?_
        refine j_geti C fX5_253 rfl (by first | decide | omega) (by first | assumption | rfl) dX5_callable_1 ?_
        refine j_if_ne C 9 dX5_callable_4 (by decide) (fun c4 => ?_) (fun c4 => ?_)
        · refine k_aload_n C dX5_callable_9 rfl ?_
          refine k_iload_n C dX5_callable_10 rfl ?_
          refine k_callV (k := 70) (ci := 5) (As := [.int m]) C mX5_256 (r_isModule hw hr hM m) jCl5.1 (by first | decide | omega) (by first | assumption | rfl) rfl rfl (Nat.le_of_ble_eq_true rfl) (jroom hR (by first | decide | omega) (by decide)) dX5_callable_11 ?_
          rintro v9 h9 ⟨rfl, e9⟩
          obtain rfl := e9.symm
          rw [e]
          refine j_if_eq C 27 dX5_callable_14 (by decide) (fun c14 => ?_) (fun c14 => ?_)
          · refine j_iconst (v := -1) C dX5_callable_27 (by decide) ?_
            exact kk
          · exact absurd rfl c14 -- stop
        · exact absurd (by first | exact c4 | exact Classical.not_not.mp c4) n34 -- stop
      | some k =>
        have hk := prs_some e
        obtain ⟨rU1, U⟩ := (hM k hk.2.1).2 hk.2.2
        have el := lix_dfn U.2.2.1 (fun i hi => (U.2.2.2.1 i hi).1.2.1) f
        have ed : dfO G.2.1.1 G.2.1.2 m f = (dfn (G.2.1.1 k).1 f).map (fun i => (k, i)) := by unfold dfO; rw [e]
        have ev : ixI k (lix (G.2.1.1 k).1 0 f (G.2.1.1 k).1.length) = (match dfO G.2.1.1 G.2.1.2 m f with | none => -1 | some q => nI (6 * q.1 + q.2)) := by
          rw [el, ed]; cases dfn (G.2.1.1 k).1 f <;> rfl
        rw [← ev] at kk
        obtain ⟨rfl, hk1, hk2⟩ := hk
        refine k_aload_n C dX5_callable_0 rfl ?_
        refine j_geti C fX5_253 rfl (by first | decide | omega) (by first | assumption | rfl) dX5_callable_1 ?_
        refine j_if_ne C 9 dX5_callable_4 (by decide) (fun c4 => ?_) (fun c4 => ?_)
        · refine k_aload_n C dX5_callable_9 rfl ?_
          refine k_iload_n C dX5_callable_10 rfl ?_
          refine k_callV (k := 70) (ci := 5) (As := [.int (nI k)]) C mX5_256 (r_isModule hw hr hM (nI k)) jCl5.1 (by first | decide | omega) (by first | assumption | rfl) rfl rfl (Nat.le_of_ble_eq_true rfl) (jroom hR (by first | decide | omega) (by decide)) dX5_callable_11 ?_
          rintro v9 h9 ⟨rfl, e9⟩
          obtain rfl := e9.symm
          rw [e]
          refine j_if_eq C 27 dX5_callable_14 (by decide) (fun c14 => ?_) (fun c14 => ?_)
          · exact absurd c14 (by simp [bI]) -- stop
          · refine k_aload_n C dX5_callable_17 rfl ?_
            refine k_iload_n C dX5_callable_18 rfl ?_
            refine k_iload_n C dX5_callable_19 rfl ?_
            refine j_iconst (v := -1) C dX5_callable_20 (by decide) ?_
            refine k_callV (k := 70) (ci := 5) (As := [.int (nI k), .int f, .int (oI 0)]) C mX5_183 (r_find hw hr (by omega) rU1.1.1 (o := 0) (by decide) f) jCl5.1 (by first | decide | omega) (by first | assumption | rfl) rfl rfl (Nat.le_of_ble_eq_true rfl) (jroom hR (by first | decide | omega) (by decide)) dX5_callable_21 ?_
            rintro v9 h9 ⟨rfl, e9⟩
            obtain rfl := e9.symm
            refine j_goto C 28 dX5_callable_24 (by decide) ?_
            exact kk
        · exact absurd (by first | exact c4 | exact Classical.not_not.mp c4) n34 -- stop
    refine start ?_
    cases e : dfO G.2.1.1 G.2.1.2 m f with
    | none =>
      rw [e] at eC
      refine k_istore_n C dX5_callable_28 (by rw [hnL]; decide) ?_
      refine k_iload_n C dX5_callable_29 rfl ?_
      refine j_iconst (v := -1) C dX5_callable_30 (by decide) ?_
      refine j_icmp_eq C 43 dX5_callable_31 (by decide) (fun c31 => ?_) (fun c31 => ?_)
      · refine j_iconst (v := 2) C dX5_callable_43 (by decide) ?_
        refine j_goto C 61 dX5_callable_44 (by decide) ?_
        exact j_iret C hrt hE dX5_callable_61 (⟨by rw [eC]; rfl, rfl⟩)
      · exact absurd rfl c31 -- stop
    | some q =>
      obtain ⟨k, i⟩ := q
      rw [e] at eC
      dsimp only at eC
      obtain ⟨-, hk, hp, hi, h0, -⟩ := dfO_some e
      obtain ⟨⟨⟨-, rI⟩, -, -⟩, U⟩ := (hM k hk).2 hp
      have h6 := U.1
      obtain ⟨x1, x2⟩ := rI i hi
      obtain ⟨⟨v1, v2, v3, v4, v5, v6, v7⟩, v8⟩ := U.2.2.2.1 i hi
      have esg : (((G.2.1.1 k).1)[i]).2.2.1 = sgo G.2.1.1 k i := by unfold sgo; rw [gtD hi]
      rw [esg] at x2 v4 v8
      have eex : (((G.2.1.1 k).1)[i]).2.2.2.1 = ((G.2.1.1 k).1.getD i (0, 0, 0, 0, 0)).2.2.2.1 := by rw [gtD hi]
      rw [eex] at x1 v6
      have hwb : wb (sgo G.2.1.1 k i) 4 ≤ 1000 := by
        have h3 : ∀ j, ta (sgo G.2.1.1 k i) j ≤ 3 := fun j => ta_le _ j
        have w1 : wb (sgo G.2.1.1 k i) 4 = wb (sgo G.2.1.1 k i) 3 + ta (sgo G.2.1.1 k i) 3 := wb_s (by omega)
        have w2 : wb (sgo G.2.1.1 k i) 3 = wb (sgo G.2.1.1 k i) 2 + ta (sgo G.2.1.1 k i) 2 := wb_s (by omega)
        have w3 : wb (sgo G.2.1.1 k i) 2 = wb (sgo G.2.1.1 k i) 1 + ta (sgo G.2.1.1 k i) 1 := wb_s (by omega)
        have w4 : wb (sgo G.2.1.1 k i) 1 = 0 := rfl
        have := h3 1
        have := h3 2
        have := h3 3
        omega
      have nm1 := nI_m1 (a := 6 * k + i) (by omega)
      by_cases hex : ((G.2.1.1 k).1.getD i (0, 0, 0, 0, 0)).2.2.2.1 = 0
      · rw [if_pos hex] at eC
        refine k_istore_n C dX5_callable_28 (by rw [hnL]; decide) ?_
        refine k_iload_n C dX5_callable_29 rfl ?_
        refine j_iconst (v := -1) C dX5_callable_30 (by decide) ?_
        refine j_icmp_eq C 43 dX5_callable_31 (by decide) (fun c31 => ?_) (fun c31 => ?_)
        · exact absurd c31 nm1 -- stop
        · refine k_aload_n C dX5_callable_34 rfl ?_
          refine j_getr C fX5_27 rfl (by first | decide | omega) (by first | assumption | rfl) (congrFun hr _) dX5_callable_35 ?_
          refine k_iload_n C dX5_callable_38 rfl ?_
          refine j_zald C (by first | decide | omega) (by first | assumption | rfl) (rfl) ((by omega)) (by decide) dX5_callable_39 ?_
          refine j_if_ne C 47 dX5_callable_40 (by decide) (fun c40 => ?_) (fun c40 => ?_)
          · exact absurd (by rw [x1, hex]; rfl) c40 -- stop
          · refine j_iconst (v := 2) C dX5_callable_43 (by decide) ?_
            refine j_goto C 61 dX5_callable_44 (by decide) ?_
            exact j_iret C hrt hE dX5_callable_61 (⟨by rw [eC]; rfl, rfl⟩)
      · rw [if_neg hex] at eC
        have nex : ¬ h.1 76 (6 * k + i) = 0 := fun z => hex ((nI_eq (b := 0) (by omega) (by omega)).mp (x1.symm.trans z))
        by_cases h4 : 4 < wb (sgo G.2.1.1 k i) 4
        · rw [if_pos h4] at eC
          refine k_istore_n C dX5_callable_28 (by rw [hnL]; decide) ?_
          refine k_iload_n C dX5_callable_29 rfl ?_
          refine j_iconst (v := -1) C dX5_callable_30 (by decide) ?_
          refine j_icmp_eq C 43 dX5_callable_31 (by decide) (fun c31 => ?_) (fun c31 => ?_)
          · exact absurd c31 nm1 -- stop
          · refine k_aload_n C dX5_callable_34 rfl ?_
            refine j_getr C fX5_27 rfl (by first | decide | omega) (by first | assumption | rfl) (congrFun hr _) dX5_callable_35 ?_
            refine k_iload_n C dX5_callable_38 rfl ?_
            refine j_zald C (by first | decide | omega) (by first | assumption | rfl) (rfl) ((by omega)) (by decide) dX5_callable_39 ?_
            refine j_if_ne C 47 dX5_callable_40 (by decide) (fun c40 => ?_) (fun c40 => ?_)
            · refine k_aload_n C dX5_callable_47 rfl ?_
              refine k_iload_n C dX5_callable_48 rfl ?_
              refine k_callV (k := 70) (ci := 5) (As := [.int (nI (6 * k + i))]) C mX5_263 (r_words hw hr (x := 6 * k + i) (s := sgo G.2.1.1 k i) (by omega) v4 v8 x2) jCl5.1 (by first | decide | omega) (by first | assumption | rfl) rfl rfl (Nat.le_of_ble_eq_true rfl) (jroom hR (by first | decide | omega) (by decide)) dX5_callable_49 ?_
              rintro v9 h9 ⟨rfl, e9⟩
              obtain rfl := e9.symm
              refine j_iconst (v := 4) C dX5_callable_52 (by decide) ?_
              refine j_icmp_le C 60 dX5_callable_53 (by decide) (fun c53 => ?_) (fun c53 => ?_)
              · exact absurd c53 (by rw [show (4 : Int32) = nI 4 from rfl, nI_leI (by omega) (by omega)]; omega) -- stop
              · refine j_iconst (v := 3) C dX5_callable_56 (by decide) ?_
                refine j_goto C 61 dX5_callable_57 (by decide) ?_
                exact j_iret C hrt hE dX5_callable_61 (⟨by rw [eC]; rfl, rfl⟩)
            · exact absurd (by first | exact c40 | exact Classical.not_not.mp c40) nex -- stop
        · rw [if_neg h4] at eC
          refine k_istore_n C dX5_callable_28 (by rw [hnL]; decide) ?_
          refine k_iload_n C dX5_callable_29 rfl ?_
          refine j_iconst (v := -1) C dX5_callable_30 (by decide) ?_
          refine j_icmp_eq C 43 dX5_callable_31 (by decide) (fun c31 => ?_) (fun c31 => ?_)
          · exact absurd c31 nm1 -- stop
          · refine k_aload_n C dX5_callable_34 rfl ?_
            refine j_getr C fX5_27 rfl (by first | decide | omega) (by first | assumption | rfl) (congrFun hr _) dX5_callable_35 ?_
            refine k_iload_n C dX5_callable_38 rfl ?_
            refine j_zald C (by first | decide | omega) (by first | assumption | rfl) (rfl) ((by omega)) (by decide) dX5_callable_39 ?_
            refine j_if_ne C 47 dX5_callable_40 (by decide) (fun c40 => ?_) (fun c40 => ?_)
            · refine k_aload_n C dX5_callable_47 rfl ?_
              refine k_iload_n C dX5_callable_48 rfl ?_
              refine k_callV (k := 70) (ci := 5) (As := [.int (nI (6 * k + i))]) C mX5_263 (r_words hw hr (x := 6 * k + i) (s := sgo G.2.1.1 k i) (by omega) v4 v8 x2) jCl5.1 (by first | decide | omega) (by first | assumption | rfl) rfl rfl (Nat.le_of_ble_eq_true rfl) (jroom hR (by first | decide | omega) (by decide)) dX5_callable_49 ?_
              rintro v9 h9 ⟨rfl, e9⟩
              obtain rfl := e9.symm
              refine j_iconst (v := 4) C dX5_callable_52 (by decide) ?_
              refine j_icmp_le C 60 dX5_callable_53 (by decide) (fun c53 => ?_) (fun c53 => ?_)
              · refine j_iconst (v := 0) C dX5_callable_60 (by decide) ?_
                exact j_iret C hrt hE dX5_callable_61 (⟨by rw [eC]; rfl, rfl⟩)
              · exact absurd (by rw [show (4 : Int32) = nI 4 from rfl, nI_leI (by omega) (by omega)]; omega) c53 -- stop
            · exact absurd (by first | exact c40 | exact Classical.not_not.mp c40) nex -- stop
theorem fuC_v (fu : Int32) : fuC fu ≤ 3000 ∧ (fu < 0 → nI (fuC fu) = 0) ∧ (¬ fu < 0 → fu ≤ 3000 → nI (fuC fu) = fu) ∧ (¬ fu < 0 → ¬ fu ≤ 3000 → nI (fuC fu) = 3000) := by
  have e0 : (0 : Int32).toInt = 0 := rfl
  have e3 : (3000 : Int32).toInt = 3000 := rfl
  unfold fuC
  refine ⟨by split <;> omega, fun z => by rw [if_pos z]; rfl, fun z1 z2 => ?_, fun z1 z2 => ?_⟩
  · rw [if_neg z1]
    rw [Int32.lt_iff_toInt_lt, e0] at z1
    rw [Int32.le_iff_toInt_le, e3] at z2
    rw [show min 3000 fu.toInt.toNat = fu.toInt.toNat by omega]
    apply Int32.toInt_inj.mp
    rw [nI_toInt (by omega)]
    omega
  · rw [if_neg z1]
    rw [Int32.lt_iff_toInt_lt, e0] at z1
    rw [Int32.le_iff_toInt_le, e3] at z2
    rw [show min 3000 fu.toInt.toNat = 3000 by omega]
    rfl
end XZ
