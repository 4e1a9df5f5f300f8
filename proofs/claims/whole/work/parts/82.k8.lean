section K8
variable {l : Launch} {w : jW} {h h1 : jH} {sz : Nat} {G : GS} {σ : Nat → Nat}
theorem ub_dis {u v k : Nat} (hu : u < 7) (hv : v < 7) (hne : u ≠ v) (h1 : ub u ≤ k) (h2 : k < ub u + 9) : ¬ (ub v ≤ k ∧ k < ub v + 9) := by
  unfold ub at *
  split at h1 <;> split at h2 <;> split <;> omega
theorem kR_cF (hr : kR σ h) (hF : cF (σ 6) h h1) : kR σ h1 := by
  have hf : ∀ k j, k ≠ 13 → h1.2.1 k j = h.2.1 k j := fun k j hk => hF.1 k j (by omega)
  obtain ⟨a1, a2, a3, a4, a5, a6, a7, a8, a9, aA⟩ := hr
  refine ⟨by rw [hf _ _ (by omega)]; exact a1, by rw [hf _ _ (by omega)]; exact a2, by rw [hf _ _ (by omega)]; exact a3, by rw [hf _ _ (by omega)]; exact a4, by rw [hf _ _ (by omega)]; exact a5, by rw [hf _ _ (by omega)]; exact a6, by rw [hf _ _ (by omega)]; exact a7, fun u hu => by rw [hf _ _ (by omega)]; exact a8 u hu, fun u hu => ?_, aA⟩
  obtain ⟨b, c, d, e⟩ := a9 u hu
  have := ub_in b
  exact ⟨b, by rw [hf _ _ (by omega)]; exact c, by rw [hf _ _ (by omega)]; exact d, fun i hi => by rw [hf _ _ (by omega)]; exact e i hi⟩
theorem cF_num (hr : kR σ h) (hF : cF (σ 6) h h1) {k j : Nat} (hk : k < 4 ∨ 68 ≤ k) : h1.1 k j = h.1 k j := by
  have := ub_in (hr.2.2.2.2.2.2.2.2.1 6 (by decide)).1
  exact hF.2.2 k j (by omega) (by omega)
theorem cF_cU (hr : kR σ h) (hF : cF (σ 6) h h1) {m me : Nat} {hs : List HD} {ev : List Ev} {br : List (Nat × Nat)} (hm : m < 6) (H : cU h (σ m) me hs ev br) : cU h1 (σ m) me hs ev br := by
  have hu := (hr.2.2.2.2.2.2.2.2.1 m (by omega)).1
  have hv := (hr.2.2.2.2.2.2.2.2.1 6 (by decide)).1
  have hb := ub_in hu
  refine cU_keep hu (fun k j z1 z2 => hF.2.2 k j (by omega) (ub_dis hu hv (fun e => ?_) z1 z2)) H
  have := hr.2.2.2.2.2.2.2.2.2 m 6 (by omega) (by omega) e
  omega
theorem kF_cF (hr : kR σ h) (hF : cF (σ 6) h h1) : kF h h1 := ⟨fun k j hk => ⟨cF_num hr hF (by omega), hF.1 k j (by omega)⟩, hF.2.1⟩
/-- a text that is refused -/
theorem KI_ref {flt : Nat} (hr : kR σ h) (hT : kT G.1.1 G.1.2 h) (hM : kM G.2.1.1 G.2.1.2 σ h) (hO : kO sz G h) (hL : G.2.2.1.1 = true → lnk G.2.1.1 G.2.1.2) (hF : cF (σ 6) h h1) (hf : flt ≤ 2) : KI sz ((0, G.1.2), G.2.1, (G.2.2.1.1, flt, G.2.2.1.2.2), G.2.2.2) (up2 (up2 h1.1 0 7 (nI flt)) 0 1 0, h1.2) ∧ kF h (up2 (up2 h1.1 0 7 (nI flt)) 0 1 0, h1.2) := by
  have hf1 := kF_cF hr hF
  refine ⟨⟨σ, kR_same (h := h1) rfl (kR_cF hr hF), ⟨by simp [up2]; rfl, Nat.zero_le _, fun i hi => absurd hi (Nat.not_lt_zero _)⟩, ?_, ?_, hL⟩, fun k j hk => ⟨by dsimp only; rw [up2_n (by omega), up2_n (by omega)]; exact (hf1.1 k j hk).1, (hf1.1 k j hk).2⟩, hf1.2⟩
  · intro m hm
    obtain ⟨a, b⟩ := hM m hm
    have hu := (hr.2.2.2.2.2.2.2.2.1 m (by omega)).1
    have := ub_in hu
    refine ⟨by dsimp only; rw [up2_n (by omega), up2_n (by omega), cF_num hr hF (by omega)]; exact a, fun z => ⟨?_, (b z).2⟩⟩
    exact cU_keep hu (fun k j z1 z2 => by dsimp only; rw [up2_n (by omega), up2_n (by omega)]) (cF_cU hr hF hm (b z).1)
  · obtain ⟨a1, a2, a3, a4, a5, a6, a7, a8, a9, aA, aB, aC⟩ := hO
    have e : ∀ k j, (k = 0 ∧ 8 ≤ j) ∨ k = 68 → (up2 (up2 h1.1 0 7 (nI flt)) 0 1 0) k j = h.1 k j := fun k j z => by rw [up2_n (by omega), up2_n (by omega), cF_num hr hF (by omega)]
    exact ⟨by simp [up2], hf, by dsimp only; rw [e _ _ (by omega)]; exact a3, by dsimp only; rw [e _ _ (by omega)]; exact a4, by dsimp only; rw [e _ _ (by omega)]; exact a5, by dsimp only; rw [e _ _ (by omega)]; exact a6, a7, a8, by dsimp only; rw [e _ _ (by omega)]; exact a9, by dsimp only; rw [e _ _ (by omega)]; exact aA, by dsimp only; rw [e _ _ (by omega)]; exact aB, by dsimp only; rw [e _ _ (by omega)]; exact aC⟩
/-- a text that is accepted -/
theorem KI_acc {m : Nat} {U : PU} (hr : kR σ h) (hM : kM G.2.1.1 G.2.1.2 σ h) (hO : kO sz G h) (hF : cF (σ 6) h h1) (hm : m < 6) (hU : cU h1 (σ 6) m U.1 U.2.1 U.2.2) (hpu : puOk U) : KI sz ((0, G.1.2), (upF G.2.1.1 m U, upF G.2.1.2 m true), (false, 0, G.2.2.1.2.2), G.2.2.2) (up2 (up2 (up2 (up2 h1.1 0 7 0) 0 1 0) 3 m 1) 0 8 0, up2 (up2 h1.2.1 2 m (some (ub (σ 6)))) 0 4 (some (ub (σ m))), h1.2.2) ∧ kF h (up2 (up2 (up2 (up2 h1.1 0 7 0) 0 1 0) 3 m 1) 0 8 0, up2 (up2 h1.2.1 2 m (some (ub (σ 6)))) 0 4 (some (ub (σ m))), h1.2.2) := by
  have hf1 := kF_cF hr hF
  have hr1 := kR_cF hr hF
  have hnum : ∀ k j, 4 ≤ k → (up2 (up2 (up2 (up2 h1.1 0 7 0) 0 1 0) 3 m 1) 0 8 0) k j = h1.1 k j := fun k j hk => by rw [up2_n (by omega), up2_n (by omega), up2_n (by omega), up2_n (by omega)]
  obtain ⟨a1, a2, a3, a4, a5, a6, a7, a8, a9, aA⟩ := hr1
  have sσ : ∀ x, upF (upF σ m (σ 6)) 6 (σ m) x = if x = 6 then σ m else if x = m then σ 6 else σ x := fun x => rfl
  refine ⟨⟨upF (upF σ m (σ 6)) 6 (σ m), ?_, ⟨by simp [up2]; rfl, Nat.zero_le _, fun i hi => absurd hi (Nat.not_lt_zero _)⟩, ?_, ?_, fun z => by cases z⟩, fun k j hk => ⟨by dsimp only; rw [hnum k j (by omega)]; exact (hf1.1 k j hk).1, by dsimp only; rw [up2_n (by omega), up2_n (by omega)]; exact (hf1.1 k j hk).2⟩, hf1.2⟩
  · have keep : ∀ k j, ¬ (k = 2 ∧ j = m) → ¬ (k = 0 ∧ j = 4) → (up2 (up2 h1.2.1 2 m (some (ub (σ 6)))) 0 4 (some (ub (σ m)))) k j = h1.2.1 k j := fun k j z1 z2 => by rw [up2_n z2, up2_n z1]
    refine ⟨by dsimp only; rw [keep _ _ (by omega) (by omega)]; exact a1, by dsimp only; rw [keep _ _ (by omega) (by omega)]; exact a2, by dsimp only; rw [keep _ _ (by omega) (by omega)]; exact a3, by dsimp only; rw [up2_s]; simp [upF], by dsimp only; rw [keep _ _ (by omega) (by omega)]; exact a5, by dsimp only; rw [keep _ _ (by omega) (by omega)]; exact a6, by dsimp only; rw [keep _ _ (by omega) (by omega)]; exact a7, fun u hu => ?_, fun u hu => ?_, fun x y hx hy e => ?_⟩
    · dsimp only
      rw [sσ, if_neg (by omega)]
      by_cases z : u = m
      · subst z; rw [if_pos rfl, up2_n (by omega), up2_s]
      · rw [if_neg z, keep _ _ (by omega) (by omega)]; exact a8 u hu
    · have hx : ∃ v, v < 7 ∧ upF (upF σ m (σ 6)) 6 (σ m) u = σ v := by
        rw [sσ]
        by_cases z : u = 6
        · exact ⟨m, by omega, by rw [if_pos z]⟩
        · by_cases z2 : u = m
          · exact ⟨6, by omega, by rw [if_neg z, if_pos z2]⟩
          · exact ⟨u, hu, by rw [if_neg z, if_neg z2]⟩
      obtain ⟨v, hv, ev⟩ := hx
      rw [ev]
      obtain ⟨b, c, d, e⟩ := a9 v hv
      have := ub_in b
      exact ⟨b, by dsimp only; rw [keep _ _ (by omega) (by omega)]; exact c, by dsimp only; rw [keep _ _ (by omega) (by omega)]; exact d, fun i hi => by dsimp only; rw [keep _ _ (by omega) (by omega)]; exact e i hi⟩
    · rw [sσ, sσ] at e
      by_cases x6 : x = 6 <;> by_cases y6 : y = 6
      · omega
      · rw [if_pos x6, if_neg y6] at e
        by_cases ym : y = m
        · rw [if_pos ym] at e; have := aA m 6 (by omega) (by omega) e; omega
        · rw [if_neg ym] at e; have := aA m y (by omega) hy e; omega
      · rw [if_neg x6, if_pos y6] at e
        by_cases xm : x = m
        · rw [if_pos xm] at e; have := aA 6 m (by omega) (by omega) e; omega
        · rw [if_neg xm] at e; have := aA x m hx (by omega) e; omega
      · rw [if_neg x6, if_neg y6] at e
        by_cases xm : x = m <;> by_cases ym : y = m
        · omega
        · rw [if_pos xm, if_neg ym] at e; have := aA 6 y (by omega) hy e; omega
        · rw [if_neg xm, if_pos ym] at e; have := aA x 6 hx (by omega) e; omega
        · rw [if_neg xm, if_neg ym] at e; exact aA x y hx hy e
  · intro k hk
    have esk : upF (upF σ m (σ 6)) 6 (σ m) k = if k = m then σ 6 else σ k := by rw [sσ]; exact if_neg (by omega)
    dsimp only
    rw [esk]
    by_cases z : k = m
    · subst z
      rw [if_pos (rfl : k = k)]
      have hu := (a9 6 (by decide)).1
      have := ub_in hu
      refine ⟨by rw [up2_n (by omega), up2_s]; simp [upF], fun _ => ?_⟩
      simp only [upF, if_true]
      exact ⟨cU_keep hu (fun k' j z1 z2 => hnum k' j (by omega)) hU, hpu⟩
    · rw [show (if k = m then σ 6 else σ k) = σ k from if_neg z]
      obtain ⟨a, b⟩ := hM k hk
      have hu := (a9 k (by omega)).1
      have := ub_in hu
      have e1 : upF G.2.1.2 m true k = G.2.1.2 k := by simp [upF, z]
      have e2 : upF G.2.1.1 m U k = G.2.1.1 k := by simp [upF, z]
      refine ⟨by simp only [e1]; rw [up2_n (by omega), up2_n (by omega), up2_n (by omega), up2_n (by omega), cF_num hr hF (by omega)]; exact a, fun zz => ?_⟩
      rw [e1] at zz
      rw [e2]
      refine ⟨?_, (b zz).2⟩
      exact cU_keep hu (fun k' j z1 z2 => hnum k' j (by omega)) (cF_cU hr hF hk (b zz).1)
  · obtain ⟨c1, c2, c3, c4, c5, c6, c7, c8, c9, cA, cB, cC⟩ := hO
    have e : ∀ k j, (k = 0 ∧ 9 ≤ j) ∨ k = 68 → (up2 (up2 (up2 (up2 h1.1 0 7 0) 0 1 0) 3 m 1) 0 8 0) k j = h.1 k j := fun k j z => by rw [up2_n (by omega), up2_n (by omega), up2_n (by omega), up2_n (by omega), cF_num hr hF (by omega)]
    exact ⟨by simp [up2]; rfl, Nat.zero_le _, by simp [up2], by dsimp only; rw [e _ _ (by omega)]; exact c4, by dsimp only; rw [e _ _ (by omega)]; exact c5, by dsimp only; rw [e _ _ (by omega)]; exact c6, c7, c8, by dsimp only; rw [e _ _ (by omega)]; exact c9, by dsimp only; rw [e _ _ (by omega)]; exact cA, by dsimp only; rw [e _ _ (by omega)]; exact cB, by dsimp only; rw [e _ _ (by omega)]; exact cC⟩
theorem c_Mod (hw : jok w) (hl9 : l.stackTraces = false) (H : KI sz G h) : jTh l w yX4_module cX4_module 3 (some .int) 58 [.ref (jad w 0)] h (fun r h' => r = some (.int (nI (gMod G).2.1)) ∧ (gMod G).1 = 0 ∧ KI sz (gMod G).2.2 h' ∧ kF h h') (fun E h' => E = "java/lang/IllegalArgumentException" ∧ (gMod G).1 = 1 ∧ KI sz (gMod G).2.2 h' ∧ kF h h') := by
  refine jT_of (by decide) hw (Nat.le_of_ble_eq_true rfl) ?_
  intro X C hl hR hnL hrt hE hout hXk
  subst hl
  have C : jC X w cX4_module RX4 := C
  obtain ⟨σ, hr, hT, hM, hO, hL⟩ := id H
  have hu6 := hr.2.2.2.2.2.2.2.2.1 6 (by decide)
  obtain ⟨k3, k4, k5, k6, k7⟩ := jk_unit (σ 6) hu6.1
  have hub := ub_in hu6.1
  have start : (∀ h2 : jH, cF (σ 6) h h2 → (∀ ev br, cmpR G.1.2 G.1.1 = some (some (ev, br)) → cU h2 (σ 6) (hdsM G.1.2 G.1.1) (hdsL G.1.2 G.1.1) ev br) → J X w (up2 (up2 h2.1 0 7 (nI (cmpF G.1.2 G.1.1))) 0 1 0, h2.2) 28 [(0, .ref (jad w 0))] []) → J X w h 0 [(0, .ref (jad w 0))] [] := by
    intro kk
    refine k_aload_n C dX4_module_0 rfl ?_
    refine k_aload_n C dX4_module_1 rfl ?_
    refine j_getr C fX4_31 rfl (by first | decide | omega) (by first | assumption | rfl) (hr.2.2.2.2.1) dX4_module_2 ?_
    refine k_aload_n C dX4_module_5 rfl ?_
    refine j_getr C fX4_9 rfl (by first | decide | omega) (by first | assumption | rfl) (hr.1) dX4_module_6 ?_
    refine k_aload_n C dX4_module_9 rfl ?_
    refine j_geti C fX4_63 rfl (by first | decide | omega) (by first | assumption | rfl) dX4_module_10 ?_
    rw [hT.1]
    refine k_aload_n C dX4_module_13 rfl ?_
    refine j_getr C fX4_24 rfl (by first | decide | omega) (by first | assumption | rfl) (hr.2.2.2.1) dX4_module_14 ?_
    refine k_callV (k := 13) (ci := 0) (As := [.ref (jad w 1), .int (nI G.1.1), .ref (jad w (ub (σ 6)))]) C mX4_69 (c_compile (t := G.1.2) hw hu6 (fun i hi => ⟨(hT.2.2 i hi).1, by have := (hT.2.2 i hi).2; omega⟩) hT.2.1) jCl0.1 (by first | decide | omega) (by first | assumption | rfl) rfl rfl (Nat.le_of_ble_eq_true rfl) (jroomX hR (by first | decide | omega) (by decide)) dX4_module_17 ?_
    rintro v9 h9 ⟨rfl, hF9, hU9⟩
    refine j_puti C fX4_35 rfl rfl (by first | decide | omega) (by first | assumption | rfl) dX4_module_20 ?_
    refine k_aload_n C dX4_module_23 rfl ?_
    refine j_iconst (v := 0) C dX4_module_24 (by decide) ?_
    refine j_puti C fX4_63 rfl rfl (by first | decide | omega) (by first | assumption | rfl) dX4_module_25 ?_
    exact kk h9 hF9 hU9
  show J X w h 0 [(0, .ref (jad w 0))] []
  refine start (fun h2 hF hU => ?_)
  cases ec : cmpR G.1.2 G.1.1 with
  | none =>
    have ef : cmpF G.1.2 G.1.1 = 1 := by unfold cmpF; rw [ec]
    have eG : gMod G = (1, 0, ((0, G.1.2), G.2.1, (G.2.2.1.1, 1, G.2.2.1.2.2), G.2.2.2)) := by unfold gMod; rw [ec]
    rw [ef]
    refine k_aload_n C dX4_module_28 rfl ?_
    refine j_geti C fX4_35 rfl (by first | decide | omega) (by first | assumption | rfl) dX4_module_29 ?_
    refine j_if_eq C 43 dX4_module_32 (by decide) (fun c32 => ?_) (fun c32 => ?_)
    · exact absurd (show up2 (up2 h2.1 0 7 (nI 1)) 0 1 0 0 7 = 0 from c32) (by simp [up2]; decide) -- stop
    · exact jx_throw C jThr_ill hl9 hR (by decide) hE hout hXk dX4_module_35 dX4_module_38 dX4_module_39 dX4_module_42 ⟨rfl, by rw [eG], by rw [eG]; exact KI_ref hr hT hM hO hL hF (by decide)⟩
  | some q =>
    cases q with
    | none =>
      have ef : cmpF G.1.2 G.1.1 = 2 := by unfold cmpF; rw [ec]
      have eG : gMod G = (1, 0, ((0, G.1.2), G.2.1, (G.2.2.1.1, 2, G.2.2.1.2.2), G.2.2.2)) := by unfold gMod; rw [ec]
      rw [ef]
      refine k_aload_n C dX4_module_28 rfl ?_
      refine j_geti C fX4_35 rfl (by first | decide | omega) (by first | assumption | rfl) dX4_module_29 ?_
      refine j_if_eq C 43 dX4_module_32 (by decide) (fun c32 => ?_) (fun c32 => ?_)
      · exact absurd (show up2 (up2 h2.1 0 7 (nI 2)) 0 1 0 0 7 = 0 from c32) (by simp [up2]; decide) -- stop
      · exact jx_throw C jThr_ill hl9 hR (by decide) hE hout hXk dX4_module_35 dX4_module_38 dX4_module_39 dX4_module_42 ⟨rfl, by rw [eG], by rw [eG]; exact KI_ref hr hT hM hO hL hF (by decide)⟩
    | some z =>
      obtain ⟨ev, br⟩ := z
      have ef : cmpF G.1.2 G.1.1 = 0 := by unfold cmpF; rw [ec]
      have eG : gMod G = (0, hdsM G.1.2 G.1.1, ((0, G.1.2), (upF G.2.1.1 (hdsM G.1.2 G.1.1) (hdsL G.1.2 G.1.1, ev, br), upF G.2.1.2 (hdsM G.1.2 G.1.1) true), (false, 0, G.2.2.1.2.2), G.2.2.2)) := by unfold gMod; rw [ec]
      rw [ef]
      have hU1 := hU ev br ec
      have hm : hdsM G.1.2 G.1.1 < 6 := hU1.1
      have hpu := pu_of hT.2.1 ec
      have hr2 := kR_cF hr hF
      have hn0 : h2.1 (ub (σ 6)) 0 = nI (hdsM G.1.2 G.1.1) := hU1.2.2.2.2.1
      have hum := hr2.2.2.2.2.2.2.2.1 _ hm
      generalize hdsM G.1.2 G.1.1 = m at *
      refine k_aload_n C dX4_module_28 rfl ?_
      refine j_geti C fX4_35 rfl (by first | decide | omega) (by first | assumption | rfl) dX4_module_29 ?_
      refine j_if_eq C 43 dX4_module_32 (by decide) (fun c32 => ?_) (fun c32 => ?_)
      · refine k_aload_n C dX4_module_43 rfl ?_
        refine j_getr C fX4_24 rfl (by first | decide | omega) (by first | assumption | rfl) (hr2.2.2.2.1) dX4_module_44 ?_
        refine j_geti C fX4_76 rfl (by first | decide | omega) (by first | assumption | rfl) dX4_module_47 ?_
        refine jeq (congrArg (fun z => [Value.int z]) (show up2 (up2 h2.1 0 7 (nI 0)) 0 1 0 (ub (σ 6)) 0 = nI m from by rw [up2_n (by omega), up2_n (by omega)]; exact hn0)) ?_
        refine k_istore_n C dX4_module_50 (by rw [hnL]; decide) ?_
        refine k_aload_n C dX4_module_51 rfl ?_
        refine j_getr C fX4_15 rfl (by first | decide | omega) (by first | assumption | rfl) (hr2.2.1) dX4_module_52 ?_
        refine k_iload_n C dX4_module_55 rfl ?_
        refine j_aald C (t := 3) (by decide) rfl (by first | decide | omega) (by first | assumption | rfl) (rfl) (hm) (by decide) (hum) dX4_module_56 ?_
        refine k_astore_n C dX4_module_57 (by rw [hnL]; decide) ?_
        refine k_aload_n C dX4_module_58 rfl ?_
        refine j_getr C fX4_15 rfl (by first | decide | omega) (by first | assumption | rfl) (hr2.2.1) dX4_module_59 ?_
        refine k_iload_n C dX4_module_62 rfl ?_
        refine k_aload_n C dX4_module_63 rfl ?_
        refine j_getr C fX4_24 rfl (by first | decide | omega) (by first | assumption | rfl) (hr2.2.2.2.1) dX4_module_64 ?_
        refine j_aast C (t := 3) (ci := 3) (by decide) jCl3.1 rfl (by decide) rfl (by omega) k3 rfl hm (by decide) dX4_module_67 ?_
        refine k_aload_n C dX4_module_68 rfl ?_
        refine k_aload_n C dX4_module_69 rfl ?_
        refine j_putr C fX4_24 rfl rfl (by first | decide | omega) (by first | assumption | rfl) (fun _ => ⟨rfl, rfl⟩) dX4_module_70 ?_
        refine k_aload_n C dX4_module_73 rfl ?_
        refine j_getr C fX4_19 rfl (by first | decide | omega) (by first | assumption | rfl) (by show up2 (up2 h2.2.1 2 m (some (ub (σ 6)))) 0 4 (some (ub (σ m))) 0 3 = some 3; rw [up2_n (by omega), up2_n (by omega)]; exact hr2.2.2.1) dX4_module_74 ?_
        refine k_iload_n C dX4_module_77 rfl ?_
        refine j_iconst (v := 1) C dX4_module_78 (by decide) ?_
        refine j_zast C (by first | decide | omega) (by first | assumption | rfl) (rfl) (hm) (by decide) (by first | decide | assumption) dX4_module_79 ?_
        refine k_aload_n C dX4_module_80 rfl ?_
        refine j_iconst (v := 0) C dX4_module_81 (by decide) ?_
        refine j_putz C fX4_79 rfl rfl (by first | decide | assumption) (by first | decide | omega) (by first | assumption | rfl) dX4_module_82 ?_
        refine k_iload_n C dX4_module_85 rfl ?_
        exact jx_iret C hrt hE dX4_module_86 (⟨by rw [eG], by rw [eG], by rw [eG]; exact KI_acc (U := (hdsL G.1.2 G.1.1, ev, br)) hr hM hO hF hm hU1 hpu⟩)
      · exact absurd (show up2 (up2 h2.1 0 7 (nI 0)) 0 1 0 0 7 = 0 by simp [up2]; rfl) c32 -- stop
end K8
