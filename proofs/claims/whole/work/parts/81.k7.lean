def gUnfit (G : GS) (v : Int32) : Int32 := if v = 0 then G.2.2.1.2.2.1 else if v = 1 then G.2.2.1.2.2.2 else -1
def gRes (G : GS) (v : Int32) : Int32 := if v = 0 then G.2.2.2.1 else if v = 1 then G.2.2.2.2.1 else 0
def gTook (G : GS) (v : Int32) : Int32 := if v = 0 then nI G.2.2.2.2.2.1 else if v = 1 then nI G.2.2.2.2.2.2 else -1
/-- module: what is thrown, the answer, the state -/
def gMod (G : GS) : Nat × Nat × GS := match cmpR G.1.2 G.1.1 with
  | none => (1, 0, ((0, G.1.2), G.2.1, (G.2.2.1.1, 1, G.2.2.1.2.2), G.2.2.2))
  | some none => (1, 0, ((0, G.1.2), G.2.1, (G.2.2.1.1, 2, G.2.2.1.2.2), G.2.2.2))
  | some (some q) => (0, hdsM G.1.2 G.1.1, ((0, G.1.2), (upF G.2.1.1 (hdsM G.1.2 G.1.1) (hdsL G.1.2 G.1.1, q.1, q.2), upF G.2.1.2 (hdsM G.1.2 G.1.1) true), (false, 0, G.2.2.1.2.2), G.2.2.2))
def fuC (f : Int32) : Nat := if f < 0 then 0 else min 3000 f.toInt.toNat
/-- call: what is thrown, the answer, the state -/
def gCall (sz : Nat) (G : GS) (m f a b c d fu : Int32) : Nat × Nat × GS := if G.2.2.1.1 = false then (1, 0, G) else match dfO G.2.1.1 G.2.1.2 m f with
  | none => (2, 0, G)
  | some q => if ((G.2.1.1 q.1).1.getD q.2 (0, 0, 0, 0, 0)).2.2.2.1 = 0 then (2, 0, G) else if 4 < wb (sgo G.2.1.1 q.1 q.2) 4 then (3, 0, G) else
    (0, (eCall G.2.1.1 sz ([a, b, c, d].take (wb (sgo G.2.1.1 q.1 q.2) 4)) q.1 q.2 (fuC fu)).1, (G.1, G.2.1, G.2.2.1, (if (eCall G.2.1.1 sz ([a, b, c, d].take (wb (sgo G.2.1.1 q.1 q.2) 4)) q.1 q.2 (fuC fu)).1 = 0 then (eCall G.2.1.1 sz ([a, b, c, d].take (wb (sgo G.2.1.1 q.1 q.2) 4)) q.1 q.2 (fuC fu)).2.2.2.2.2.getD 0 0 else 0), (if (eCall G.2.1.1 sz ([a, b, c, d].take (wb (sgo G.2.1.1 q.1 q.2) 4)) q.1 q.2 (fuC fu)).1 = 0 ∧ ta (sgo G.2.1.1 q.1 q.2) 0 = 2 then (eCall G.2.1.1 sz ([a, b, c, d].take (wb (sgo G.2.1.1 q.1 q.2) 4)) q.1 q.2 (fuC fu)).2.2.2.2.2.getD 1 0 else 0), (eCall G.2.1.1 sz ([a, b, c, d].take (wb (sgo G.2.1.1 q.1 q.2) 4)) q.1 q.2 (fuC fu)).2.2.2.1, (eCall G.2.1.1 sz ([a, b, c, d].take (wb (sgo G.2.1.1 q.1 q.2) 4)) q.1 q.2 (fuC fu)).2.2.1))
section K7
variable {l : Launch} {w : jW} {h : jH} {sz : Nat} {G : GS}
theorem c_Fault (hw : jok w) (H : KI sz G h) : jM l w yX4_fault cX4_fault 1 (some .int) 0 [.ref (jad w 0)] h (fun r h' => r = some (.int (nI G.2.2.1.2.1)) ∧ h' = h) := by
  obtain ⟨σ, hr, hT, hM, hO, hL⟩ := H
  refine jM_mono (m_fault hw) ?_
  rintro v h' ⟨rfl, rfl⟩
  exact ⟨by rw [hO.1], rfl⟩
theorem c_Unfit (hw : jok w) (H : KI sz G h) (v : Int32) : jM l w yX4_unfit cX4_unfit 2 (some .int) 0 [.ref (jad w 0), .int v] h (fun r h' => r = some (.int (gUnfit G v)) ∧ h' = h) := by
  obtain ⟨σ, hr, hT, hM, hO, hL⟩ := H
  refine jM_of (by decide) hw (Nat.le_of_ble_eq_true rfl) ?_
  intro X C hl hR hnL hrt hE
  have C : jC X w cX4_unfit RX4 := C
  show J X w h 0 [(0, .ref (jad w 0)), (1, .int v)] []
  refine k_iload_n C dX4_unfit_0 rfl ?_
  by_cases v0 : v = 0
  · subst v0
    refine j_lookup (off := 27) C 28 dX4_unfit_1 (by decide) (by decide) (by decide) ?_
    refine k_aload_n C dX4_unfit_28 rfl ?_
    refine j_geti C fX4_39 rfl (by first | decide | omega) (by first | assumption | rfl) dX4_unfit_29 ?_
    exact j_iret C hrt hE dX4_unfit_32 (⟨by rw [hO.2.2.2.1]; rfl, rfl⟩)
  · by_cases v1 : v = 1
    · subst v1
      refine j_lookup (off := 32) C 33 dX4_unfit_1 (by decide) (by decide) (by decide) ?_
      refine k_aload_n C dX4_unfit_33 rfl ?_
      refine j_geti C fX4_42 rfl (by first | decide | omega) (by first | assumption | rfl) dX4_unfit_34 ?_
      exact j_iret C hrt hE dX4_unfit_37 (⟨by rw [hO.2.2.2.2.1]; rfl, rfl⟩)
    · refine j_lookup (off := 37) C 38 dX4_unfit_1 (by decide) (lk01 v0 v1) (by decide) ?_
      refine j_iconst (v := -1) C dX4_unfit_38 (by decide) ?_
      exact j_iret C hrt hE dX4_unfit_39 (⟨by unfold gUnfit; rw [if_neg v0, if_neg v1], rfl⟩)
theorem c_Res (hw : jok w) (H : KI sz G h) (v : Int32) : jM l w yX4_result cX4_result 2 (some .int) 0 [.ref (jad w 0), .int v] h (fun r h' => r = some (.int (gRes G v)) ∧ h' = h) := by
  obtain ⟨σ, hr, hT, hM, hO, hL⟩ := H
  refine jM_of (by decide) hw (Nat.le_of_ble_eq_true rfl) ?_
  intro X C hl hR hnL hrt hE
  have C : jC X w cX4_result RX4 := C
  show J X w h 0 [(0, .ref (jad w 0)), (1, .int v)] []
  refine k_iload_n C dX4_result_0 rfl ?_
  by_cases v0 : v = 0
  · subst v0
    refine j_lookup (off := 27) C 28 dX4_result_1 (by decide) (by decide) (by decide) ?_
    refine k_aload_n C dX4_result_28 rfl ?_
    refine j_getr C fX4_59 rfl (by first | decide | omega) (by first | assumption | rfl) (hr.2.2.2.2.2.1) dX4_result_29 ?_
    refine j_geti C fX4_136 rfl (by first | decide | omega) (by first | assumption | rfl) dX4_result_32 ?_
    exact j_iret C hrt hE dX4_result_35 (⟨by rw [hO.2.2.2.2.2.2.2.2.1]; rfl, rfl⟩)
  · by_cases v1 : v = 1
    · subst v1
      refine j_lookup (off := 35) C 36 dX4_result_1 (by decide) (by decide) (by decide) ?_
      refine k_aload_n C dX4_result_36 rfl ?_
      refine j_getr C fX4_59 rfl (by first | decide | omega) (by first | assumption | rfl) (hr.2.2.2.2.2.1) dX4_result_37 ?_
      refine j_geti C fX4_139 rfl (by first | decide | omega) (by first | assumption | rfl) dX4_result_40 ?_
      exact j_iret C hrt hE dX4_result_43 (⟨by rw [hO.2.2.2.2.2.2.2.2.2.1]; rfl, rfl⟩)
    · refine j_lookup (off := 43) C 44 dX4_result_1 (by decide) (lk01 v0 v1) (by decide) ?_
      refine j_iconst (v := 0) C dX4_result_44 (by decide) ?_
      exact j_iret C hrt hE dX4_result_45 (⟨by unfold gRes; rw [if_neg v0, if_neg v1], rfl⟩)
theorem c_Took (hw : jok w) (H : KI sz G h) (v : Int32) : jM l w yX4_took cX4_took 2 (some .int) 0 [.ref (jad w 0), .int v] h (fun r h' => r = some (.int (gTook G v)) ∧ h' = h) := by
  obtain ⟨σ, hr, hT, hM, hO, hL⟩ := H
  refine jM_of (by decide) hw (Nat.le_of_ble_eq_true rfl) ?_
  intro X C hl hR hnL hrt hE
  have C : jC X w cX4_took RX4 := C
  show J X w h 0 [(0, .ref (jad w 0)), (1, .int v)] []
  refine k_iload_n C dX4_took_0 rfl ?_
  by_cases v0 : v = 0
  · subst v0
    refine j_lookup (off := 27) C 28 dX4_took_1 (by decide) (by decide) (by decide) ?_
    refine k_aload_n C dX4_took_28 rfl ?_
    refine j_getr C fX4_59 rfl (by first | decide | omega) (by first | assumption | rfl) (hr.2.2.2.2.2.1) dX4_took_29 ?_
    refine j_geti C fX4_142 rfl (by first | decide | omega) (by first | assumption | rfl) dX4_took_32 ?_
    exact j_iret C hrt hE dX4_took_35 (⟨by rw [hO.2.2.2.2.2.2.2.2.2.2.1]; rfl, rfl⟩)
  · by_cases v1 : v = 1
    · subst v1
      refine j_lookup (off := 35) C 36 dX4_took_1 (by decide) (by decide) (by decide) ?_
      refine k_aload_n C dX4_took_36 rfl ?_
      refine j_getr C fX4_59 rfl (by first | decide | omega) (by first | assumption | rfl) (hr.2.2.2.2.2.1) dX4_took_37 ?_
      refine j_geti C fX4_145 rfl (by first | decide | omega) (by first | assumption | rfl) dX4_took_40 ?_
      exact j_iret C hrt hE dX4_took_43 (⟨by rw [hO.2.2.2.2.2.2.2.2.2.2.2]; rfl, rfl⟩)
    · refine j_lookup (off := 43) C 44 dX4_took_1 (by decide) (lk01 v0 v1) (by decide) ?_
      refine j_iconst (v := -1) C dX4_took_44 (by decide) ?_
      exact j_iret C hrt hE dX4_took_45 (⟨by unfold gTook; rw [if_neg v0, if_neg v1], rfl⟩)
theorem fuC_le (f : Int32) : fuC f ≤ 3000 := by unfold fuC; split <;> omega
theorem fuC_eq (f : Int32) : (if 0 < (if f < 3000 then f else (3000 : Int32)) then (if f < 3000 then f else (3000 : Int32)) else 0) = nI (fuC f) := by
  unfold fuC
  rw [show (3000 : Int32) = nI 3000 from rfl]
  by_cases c : f < 0
  · have c2 : f < nI 3000 := Int32.lt_trans c (by decide)
    rw [if_pos c2, if_neg (fun z => Int32.lt_irrefl (Int32.lt_trans z c)), if_pos c]
    rfl
  · obtain ⟨j, hj, rfl⟩ := nI_of c
    rw [if_neg c, nI_toInt hj]
    by_cases c2 : j < 3000
    · rw [if_pos (nI_lt (a := j) (b := 3000) c2 (by omega)), show min 3000 ((j : Int).toNat) = j by simp; omega]
      by_cases c3 : j = 0
      · subst c3; rfl
      · exact if_pos (nI_lt (a := 0) (b := j) (by omega) (by omega))
    · rw [if_neg (nI_nlt (a := j) (b := 3000) (by omega) (by omega)), show min 3000 ((j : Int).toNat) = 3000 by simp; omega]
      rfl
theorem KI_call {σ : Nat → Nat} {h' : jH} {q : Nat × ES} {y : Nat} (hr : kR σ h) (hT : kT G.1.1 G.1.2 h) (hM : kM G.2.1.1 G.2.1.2 σ h) (hO : kO sz G h) (hL : G.2.2.1.1 = true → lnk G.2.1.1 G.2.1.2) (hF : mF2 h h') (hP : rnP h' q y) : KI sz (G.1, G.2.1, G.2.2.1, (if q.1 = 0 then q.2.2.2.2.2.getD 0 0 else 0), (if q.1 = 0 ∧ y = 2 then q.2.2.2.2.2.getD 1 0 else 0), q.2.2.2.1, q.2.2.1) h' ∧ kF h h' := by
  have hn : ∀ k j, k < 68 → h'.1 k j = h.1 k j := fun k j hk => hF.2.2 k j (by omega) (by omega)
  have hrf : ∀ k j, k ≠ 68 → h'.2.1 k j = h.2.1 k j := fun k j hk => hF.1 k j (by omega)
  refine ⟨⟨σ, ?_, ?_, kM_keep hr (fun k j z1 z2 z3 => hn k j z2) hM, ?_, hL⟩, fun k j hk => ⟨hF.2.2 k j (by omega) (by omega), hF.1 k j (by omega)⟩, hF.2.1⟩
  · obtain ⟨a1, a2, a3, a4, a5, a6, a7, a8, a9, aA⟩ := hr
    refine ⟨by rw [hrf _ _ (by omega)]; exact a1, by rw [hrf _ _ (by omega)]; exact a2, by rw [hrf _ _ (by omega)]; exact a3, by rw [hrf _ _ (by omega)]; exact a4, by rw [hrf _ _ (by omega)]; exact a5, by rw [hrf _ _ (by omega)]; exact a6, by rw [hF.1 _ _ (by omega)]; exact a7, fun u hu => by rw [hrf _ _ (by omega)]; exact a8 u hu, fun u hu => ?_, aA⟩
    obtain ⟨b, c, d, e⟩ := a9 u hu
    have := ub_in b
    exact ⟨b, by rw [hrf _ _ (by omega)]; exact c, by rw [hrf _ _ (by omega)]; exact d, fun i hi => by rw [hrf _ _ (by omega)]; exact e i hi⟩
  · obtain ⟨a, b, c⟩ := hT
    exact ⟨by rw [hn _ _ (by omega)]; exact a, b, fun i hi => by rw [hn _ _ (by omega)]; exact c i hi⟩
  · obtain ⟨a1, a2, a3, a4, a5, a6, a7, a8, a9, aA, aB, aC⟩ := hO
    exact ⟨by rw [hn _ _ (by omega)]; exact a1, a2, by rw [hn _ _ (by omega)]; exact a3, by rw [hn _ _ (by omega)]; exact a4, by rw [hn _ _ (by omega)]; exact a5, by rw [hF.2.2 _ _ (by omega) (by omega)]; exact a6, a7, a8, hP.2.2.1, hP.2.2.2, hP.1, hP.2.1⟩
theorem c_Call (hw : jok w) (hl9 : l.stackTraces = false) (H : KI sz G h) (m f a b c d fu : Int32) : jTh l w yX4_call cX4_call 9 (some .int) 7 [.ref (jad w 0), .int m, .int f, .int a, .int b, .int c, .int d, .int fu] h (fun r h' => r = some (.int (nI (gCall sz G m f a b c d fu).2.1)) ∧ (gCall sz G m f a b c d fu).1 = 0 ∧ KI sz (gCall sz G m f a b c d fu).2.2 h' ∧ kF h h') (fun E h' => (E = "java/lang/IllegalStateException" ∧ (gCall sz G m f a b c d fu).1 = 1 ∨ E = "java/util/NoSuchElementException" ∧ (gCall sz G m f a b c d fu).1 = 2 ∨ E = "java/lang/IllegalArgumentException" ∧ (gCall sz G m f a b c d fu).1 = 3) ∧ KI sz (gCall sz G m f a b c d fu).2.2 h' ∧ kF h h') := by
  refine jT_of (by decide) hw (Nat.le_of_ble_eq_true rfl) ?_
  intro X C hl hR hnL hrt hE hout hXk
  subst hl
  have C : jC X w cX4_call RX4 := C
  obtain ⟨σ, hr, hT, hM, hO, hL⟩ := id H
  have hlk := hO.2.2.1
  have kf0 : kF h h := ⟨fun _ _ _ => ⟨rfl, rfl⟩, rfl⟩
  show J X w h 0 [(0, .ref (jad w 0)), (1, .int m), (2, .int f), (3, .int a), (4, .int b), (5, .int c), (6, .int d), (7, .int fu)] []
  cases el : G.2.2.1.1 with
  | false =>
    rw [el] at hlk
    have eG : gCall sz G m f a b c d fu = (1, 0, G) := by unfold gCall; rw [if_pos el]
    refine k_aload_n C dX4_call_0 rfl ?_
    refine j_geti C fX4_79 rfl (by first | decide | omega) (by first | assumption | rfl) dX4_call_1 ?_
    refine j_if_ne C 15 dX4_call_4 (by decide) (fun c4 => ?_) (fun c4 => ?_)
    · exact absurd hlk c4 -- stop
    · exact jx_throw C jThr_ils hl9 hR (by decide) hE hout hXk dX4_call_7 dX4_call_10 dX4_call_11 dX4_call_14 ⟨Or.inl ⟨rfl, by rw [eG]⟩, by rw [eG]; exact H, kf0⟩
  | true =>
    rw [el] at hlk
    have eG0 : gCall sz G m f a b c d fu = match dfO G.2.1.1 G.2.1.2 m f with
        | none => (2, 0, G)
        | some q => if ((G.2.1.1 q.1).1.getD q.2 (0, 0, 0, 0, 0)).2.2.2.1 = 0 then (2, 0, G) else if 4 < wb (sgo G.2.1.1 q.1 q.2) 4 then (3, 0, G) else (0, (eCall G.2.1.1 sz ([a, b, c, d].take (wb (sgo G.2.1.1 q.1 q.2) 4)) q.1 q.2 (fuC fu)).1, (G.1, G.2.1, G.2.2.1, (if (eCall G.2.1.1 sz ([a, b, c, d].take (wb (sgo G.2.1.1 q.1 q.2) 4)) q.1 q.2 (fuC fu)).1 = 0 then (eCall G.2.1.1 sz ([a, b, c, d].take (wb (sgo G.2.1.1 q.1 q.2) 4)) q.1 q.2 (fuC fu)).2.2.2.2.2.getD 0 0 else 0), (if (eCall G.2.1.1 sz ([a, b, c, d].take (wb (sgo G.2.1.1 q.1 q.2) 4)) q.1 q.2 (fuC fu)).1 = 0 ∧ ta (sgo G.2.1.1 q.1 q.2) 0 = 2 then (eCall G.2.1.1 sz ([a, b, c, d].take (wb (sgo G.2.1.1 q.1 q.2) 4)) q.1 q.2 (fuC fu)).2.2.2.2.2.getD 1 0 else 0), (eCall G.2.1.1 sz ([a, b, c, d].take (wb (sgo G.2.1.1 q.1 q.2) 4)) q.1 q.2 (fuC fu)).2.2.2.1, (eCall G.2.1.1 sz ([a, b, c, d].take (wb (sgo G.2.1.1 q.1 q.2) 4)) q.1 q.2 (fuC fu)).2.2.1)) := by unfold gCall; rw [if_neg (by rw [el]; simp)]
    have start : (∀ v, v = vrf w ((dfO G.2.1.1 G.2.1.2 m f).map (fun q => ub (σ q.1) + 3 + q.2)) → J X w h 21 [(0, .ref (jad w 0)), (1, .int m), (2, .int f), (3, .int a), (4, .int b), (5, .int c), (6, .int d), (7, .int fu)] [v]) → J X w h 0 [(0, .ref (jad w 0)), (1, .int m), (2, .int f), (3, .int a), (4, .int b), (5, .int c), (6, .int d), (7, .int fu)] [] := by
      intro kk
      refine k_aload_n C dX4_call_0 rfl ?_
      refine j_geti C fX4_79 rfl (by first | decide | omega) (by first | assumption | rfl) dX4_call_1 ?_
      refine j_if_ne C 15 dX4_call_4 (by decide) (fun c4 => ?_) (fun c4 => ?_)
      · refine k_aload_n C dX4_call_15 rfl ?_
        refine k_iload_n C dX4_call_16 rfl ?_
        refine k_iload_n C dX4_call_17 rfl ?_
        refine k_callV (k := 0) (ci := 4) (As := [.int m, .int f]) C mX4_107 (m_definitionOf hw hr hM m f) jCl4.1 (by first | decide | omega) (by first | assumption | rfl) rfl rfl (Nat.le_of_ble_eq_true rfl) (jroomX hR (by first | decide | omega) (by decide)) dX4_call_18 ?_
        rintro v9 h9 ⟨rfl, e9⟩
        obtain rfl := e9.symm
        exact kk _ rfl
      · rw [hlk] at c4; exact absurd c4 (by decide) -- stop
    refine start (fun v hv => ?_)
    cases e : dfO G.2.1.1 G.2.1.2 m f with
    | none =>
      rw [e] at hv eG0
      have hv' : v = .null := hv
      subst hv'
      refine k_astoreN C dX4_call_21 (by rw [hnL]; decide) ?_
      refine k_aloadN C dX4_call_23 rfl ?_
      refine j_ifnullN C 36 dX4_call_25 (by decide) ?_
      exact jx_throw C jThr_nos hl9 hR (by decide) hE hout hXk dX4_call_36 dX4_call_39 dX4_call_40 dX4_call_43 ⟨Or.inr (Or.inl ⟨rfl, by rw [eG0]⟩), by rw [eG0]; exact H, kf0⟩
    | some q =>
      obtain ⟨k, i⟩ := q
      rw [e] at hv eG0
      obtain ⟨rfl, hk, hp, hi, h0, -⟩ := dfO_some e
      dsimp only at eG0
      obtain ⟨cu, U⟩ := (hM k hk).2 hp
      have hu := hr.2.2.2.2.2.2.2.2.1 k (by omega)
      obtain ⟨k3, k4, k5, k6, k7⟩ := jk_unit (σ k) hu.1
      have hub := ub_in hu.1
      have hi6 : i < 6 := by have := U.1; omega
      have k8 := k7 i hi6
      obtain ⟨p0, p1, p2, p3, p4⟩ := cu.2.2.2.2.2.2.1 i hi
      obtain ⟨⟨v1, v2, v3, v4, v5, v6, v7⟩, -⟩ := U.2.2.2.1 i hi
      have esg : (((G.2.1.1 k).1)[i]).2.2.1 = sgo G.2.1.1 k i := by unfold sgo; rw [gtD hi]
      rw [esg] at p2 p3 v3
      have eex : (((G.2.1.1 k).1)[i]).2.2.2.1 = ((G.2.1.1 k).1.getD i (0, 0, 0, 0, 0)).2.2.2.1 := by rw [gtD hi]
      rw [eex] at p4 v6
      have hwb : wb (sgo G.2.1.1 k i) 4 ≤ 9 := by
        have t1 := ta_le (sgo G.2.1.1 k i) 1
        have t2 := ta_le (sgo G.2.1.1 k i) 2
        have t3 := ta_le (sgo G.2.1.1 k i) 3
        simp [wb]
        omega
      have hv' : v = .ref (jad w (ub (σ k) + 3 + i)) := hv
      subst hv'
      by_cases z1 : ((G.2.1.1 k).1.getD i (0, 0, 0, 0, 0)).2.2.2.1 = 0
      · rw [if_pos z1] at eG0
        have p4' : h.1 (ub (σ k) + 3 + i) 4 = 0 := by rw [p4, z1]; rfl
        refine k_astore C dX4_call_21 (by rw [hnL]; decide) ?_
        refine k_aload C dX4_call_23 rfl ?_
        refine j_ifnull C dX4_call_25 ?_
        refine k_aload C dX4_call_28 rfl ?_
        refine j_geti C fX4_116 rfl (by first | decide | omega) (by first | assumption | rfl) dX4_call_30 ?_
        refine j_if_ne C 44 dX4_call_33 (by decide) (fun c33 => ?_) (fun c33 => ?_)
        · exact absurd p4' c33 -- stop
        · exact jx_throw C jThr_nos hl9 hR (by decide) hE hout hXk dX4_call_36 dX4_call_39 dX4_call_40 dX4_call_43 ⟨Or.inr (Or.inl ⟨rfl, by rw [eG0]⟩), by rw [eG0]; exact H, kf0⟩
      · rw [if_neg z1] at eG0
        have p4' : ¬ h.1 (ub (σ k) + 3 + i) 4 = 0 := fun z => z1 ((nI_eq (b := 0) (by omega) (by omega)).mp (p4.symm.trans z))
        by_cases z2 : 4 < wb (sgo G.2.1.1 k i) 4
        · rw [if_pos z2] at eG0
          refine k_astore C dX4_call_21 (by rw [hnL]; decide) ?_
          refine k_aload C dX4_call_23 rfl ?_
          refine j_ifnull C dX4_call_25 ?_
          refine k_aload C dX4_call_28 rfl ?_
          refine j_geti C fX4_116 rfl (by first | decide | omega) (by first | assumption | rfl) dX4_call_30 ?_
          refine j_if_ne C 44 dX4_call_33 (by decide) (fun c33 => ?_) (fun c33 => ?_)
          · refine k_aload C dX4_call_44 rfl ?_
            refine j_geti C fX4_119 rfl (by first | decide | omega) (by first | assumption | rfl) dX4_call_46 ?_
            refine j_iconst (v := 4) C dX4_call_49 (by decide) ?_
            refine j_icmp_le C 61 dX4_call_50 (by decide) (fun c50 => ?_) (fun c50 => ?_)
            · exact absurd c50 (by rw [p3]; exact nI_ge (a := 4) (b := wb (sgo G.2.1.1 k i) 4) z2 (by omega)) -- stop
            · exact jx_throw C jThr_ill hl9 hR (by decide) hE hout hXk dX4_call_53 dX4_call_56 dX4_call_57 dX4_call_60 ⟨Or.inr (Or.inr ⟨rfl, by rw [eG0]⟩), by rw [eG0]; exact H, kf0⟩
          · exact absurd c33 p4' -- stop
        · rw [if_neg z2] at eG0
          obtain ⟨h1, eh1⟩ : ∃ h1 : jH, h1 = (up2 (up2 (up2 (up2 h.1 69 0 a) 69 1 b) 69 2 c) 69 3 d, h.2) := ⟨_, rfl⟩
          have hF1 : mF h h1 := by rw [eh1]; exact ⟨fun _ _ _ => rfl, rfl, fun k' j z1 z2 => by dsimp only; rw [up2_n (by omega), up2_n (by omega), up2_n (by omega), up2_n (by omega)]⟩
          have hS1 : mS G.2.1.1 sz G.2.1.2 σ (h1.1, up2 h1.2.1 68 1 (some 2), h1.2.2) := by
            refine ⟨(by show up2 h1.2.1 68 1 (some 2) 68 1 = some 2; exact up2_s), (by show up2 h1.2.1 68 1 (some 2) 68 2 = some 69; rw [up2_n (by omega), hF1.1 68 2 (by omega)]; exact hr.2.2.2.2.2.2.1), (hF1.2.2 68 0 (by omega) (by omega)).trans hO.2.2.2.2.2.1, hO.2.2.2.2.2.2.2.1, fun m' hm' => ?_, fun m' hm' hp' => ?_⟩
            · have hu' := hr.2.2.2.2.2.2.2.2.1 m' (by omega)
              have := ub_in hu'.1
              exact ⟨(by show up2 h1.2.1 68 1 (some 2) 2 m' = _; rw [up2_n (by omega), hF1.1 2 m' (by omega)]; exact hr.2.2.2.2.2.2.2.1 m' hm'), hu'.1, (up2_n (by omega)).trans ((hF1.1 _ _ (by omega)).trans hu'.2.1), (up2_n (by omega)).trans ((hF1.1 _ _ (by omega)).trans hu'.2.2.1), fun i' hi' => (up2_n (by omega)).trans ((hF1.1 _ _ (by omega)).trans (hu'.2.2.2 i' hi'))⟩
            · have hu' := hr.2.2.2.2.2.2.2.2.1 m' (by omega)
              have := ub_in hu'.1
              exact cU_keep hu'.1 (fun k' j z1 z2 => hF1.2.2 k' j (by omega) (by omega)) ((hM m' hm').2 hp').1
          have ha4 : ([a, b, c, d].take (wb (sgo G.2.1.1 k i) 4)).length = wb (sgo G.2.1.1 k i) 4 := by simp; omega
          have hst : ∀ j, j < ([a, b, c, d].take (wb (sgo G.2.1.1 k i) 4)).length → h1.1 69 j = ([a, b, c, d].take (wb (sgo G.2.1.1 k i) 4)).getD j 0 := by
            intro j hj
            rw [ha4] at hj
            rw [gD_take hj, eh1]
            have : j = 0 ∨ j = 1 ∨ j = 2 ∨ j = 3 := by omega
            rcases this with rfl | rfl | rfl | rfl <;> simp [up2]
          refine k_astore C dX4_call_21 (by rw [hnL]; decide) ?_
          refine k_aload C dX4_call_23 rfl ?_
          refine j_ifnull C dX4_call_25 ?_
          refine k_aload C dX4_call_28 rfl ?_
          refine j_geti C fX4_116 rfl (by first | decide | omega) (by first | assumption | rfl) dX4_call_30 ?_
          refine j_if_ne C 44 dX4_call_33 (by decide) (fun c33 => ?_) (fun c33 => ?_)
          · refine k_aload C dX4_call_44 rfl ?_
            refine j_geti C fX4_119 rfl (by first | decide | omega) (by first | assumption | rfl) dX4_call_46 ?_
            refine j_iconst (v := 4) C dX4_call_49 (by decide) ?_
            refine j_icmp_le C 61 dX4_call_50 (by decide) (fun c50 => ?_) (fun c50 => ?_)
            · refine k_aload_n C dX4_call_61 rfl ?_
              refine j_getr C fX4_59 rfl (by first | decide | omega) (by first | assumption | rfl) (hr.2.2.2.2.2.1) dX4_call_62 ?_
              refine k_iload_n C dX4_call_65 rfl ?_
              refine k_iload C dX4_call_66 rfl ?_
              refine k_iload C dX4_call_68 rfl ?_
              refine k_iload C dX4_call_70 rfl ?_
              refine k_callV (k := 68) (ci := 2) (As := [.int a, .int b, .int c, .int d]) C mX4_128 (m_load hw hr.2.2.2.2.2.2.1 a b c d) jCl2.1 (by first | decide | omega) (by first | assumption | rfl) rfl rfl (Nat.le_of_ble_eq_true rfl) (jroomX hR (by first | decide | omega) (by decide)) dX4_call_72 ?_
              rintro v9 h9 ⟨rfl, e9⟩
              rw [← eh1] at e9
              obtain rfl := e9.symm
              refine k_aload_n C dX4_call_75 rfl ?_
              refine j_getr C fX4_59 rfl (by first | decide | omega) (by first | assumption | rfl) ((hF1.1 _ _ (by omega)).trans hr.2.2.2.2.2.1) dX4_call_76 ?_
              refine k_aload_n C dX4_call_79 rfl ?_
              refine j_getr C fX4_15 rfl (by first | decide | omega) (by first | assumption | rfl) ((hF1.1 _ _ (by omega)).trans hr.2.1) dX4_call_80 ?_
              refine k_iload_n C dX4_call_83 rfl ?_
              refine k_aload C dX4_call_84 rfl ?_
              refine j_iconst (v := 0) C dX4_call_86 (by decide) ?_
              refine j_sipush (v := 3000) C dX4_call_87 (by decide) ?_
              refine k_iload C dX4_call_90 rfl ?_
              refine j_mmin C jmmin_X4_47 (jroomMX hR (by first | decide | omega) (Nat.le_of_ble_eq_true rfl)) dX4_call_92 ?_
              refine j_mmax C jmmax_X4_53 (jroomMX hR (by first | decide | omega) (Nat.le_of_ble_eq_true rfl)) dX4_call_95 ?_
              rw [fuC_eq]
              refine k_callV (k := 68) (ci := 2) (r := []) (As := [.ref (jad w 2), .int (nI k), .ref (jad w (ub (σ k) + 3 + i)), .int (nI (fuC fu))]) C mX4_132 (c_run (fl0 := fuC fu) hw (hL el) hS1 ⟨hk, hp⟩ hi h0 (fuC_le fu) ha4 (by rw [ha4]; omega) hst) jCl2.1 (by first | decide | omega) (by first | assumption | rfl) rfl rfl (Nat.le_of_ble_eq_true rfl) (jroomX hR (by first | decide | omega) (by decide)) dX4_call_98 ?_
              rintro v9 h9 ⟨rfl, hF9, hP9⟩
              have hF2 : mF2 h h9 := ⟨fun k' j z => (hF9.1 k' j z).trans (hF1.1 k' j (by omega)), hF9.2.1.trans hF1.2.1, fun k' j z1 z2 => (hF9.2.2 k' j z1 z2).trans (hF1.2.2 k' j z1 z2)⟩
              exact jx_iret C hrt hE dX4_call_101 (⟨by rw [eG0], by rw [eG0], by rw [eG0]; exact KI_call hr hT hM hO hL hF2 hP9⟩)
            · exact absurd (by rw [p3]; exact nI_le (a := wb (sgo G.2.1.1 k i) 4) (b := 4) (by omega) (by omega)) c50 -- stop
          · exact absurd c33 p4' -- stop
end K7
