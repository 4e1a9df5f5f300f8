/-! THE STATE OF BOTH, without machine: the buffer; the modules and which are there; linked, fault, unfit; the results -/
abbrev GS : Type := (Nat × (Nat → Nat)) × ((Nat → PU) × (Nat → Bool)) × (Bool × Nat × Int32 × Int32) × (Int32 × Int32 × Nat × Nat)
def kO (sz : Nat) (G : GS) (h : jH) : Prop := h.1 0 7 = nI G.2.2.1.2.1 ∧ G.2.2.1.2.1 ≤ 2 ∧ h.1 0 8 = (if G.2.2.1.1 then 1 else 0) ∧ h.1 0 9 = G.2.2.1.2.2.1 ∧ h.1 0 10 = G.2.2.1.2.2.2 ∧ h.1 68 0 = nI sz ∧ 8 ≤ sz ∧ sz ≤ 500 ∧ h.1 68 13 = G.2.2.2.1 ∧ h.1 68 14 = G.2.2.2.2.1 ∧ h.1 68 11 = nI G.2.2.2.2.2.1 ∧ h.1 68 12 = nI G.2.2.2.2.2.2
def KI (sz : Nat) (G : GS) (h : jH) : Prop := ∃ σ, kR σ h ∧ kT G.1.1 G.1.2 h ∧ kM G.2.1.1 G.2.1.2 σ h ∧ kO sz G h ∧ (G.2.2.1.1 = true → lnk G.2.1.1 G.2.1.2)
def kF (h h' : jH) : Prop := (∀ k j, 70 ≤ k → h'.1 k j = h.1 k j ∧ h'.2.1 k j = h.2.1 k j) ∧ h'.2.2 = h.2.2
def upF {α : Type} (f : Nat → α) (k : Nat) (v : α) : Nat → α := fun x => if x = k then v else f x
/-- put -/
def gPut (G : GS) (x y : Int32) : Bool × GS := match putN G.1.1 x y with
  | none => (false, G)
  | some k => (true, ((G.1.1 + k, putT G.1.1 G.1.2 x k), G.2))
/-- drop: what is thrown, the state -/
def gDrop (G : GS) (m : Int32) : Nat × GS := match prs G.2.1.2 m with
  | none => (1, G)
  | some k => (0, (G.1, (G.2.1.1, upF G.2.1.2 k false), (false, G.2.2.1.2), G.2.2.2))
/-- link: what is thrown, the answer, the state -/
def gLink (G : GS) : Nat × Nat × GS := if cntM G.2.1.2 6 = 0 then (1, 0, G) else match unfM G.2.1.1 G.2.1.2 6 0 with
  | none => (0, cntD G.2.1.1 G.2.1.2 6, (G.1, G.2.1, (true, G.2.2.1.2.1, uO none), G.2.2.2))
  | some q => (2, 0, (G.1, G.2.1, (false, G.2.2.1.2.1, uO (some q)), G.2.2.2))
/-- about: what is thrown, the answer -/
def abV (PG : Nat → PU) (k i j : Nat) : Nat := match j with
  | 0 => rmo PG k i
  | 1 => ((PG k).1.getD i (0, 0, 0, 0, 0)).2.2.2.1
  | 2 => wb (sgo PG k i) 4
  | _ => ta (sgo PG k i) 0
def gAbout (G : GS) (m f v : Int32) : Nat × Nat := match dfO G.2.1.1 G.2.1.2 m f, iK 4 v with
  | some q, some j => (0, abV G.2.1.1 q.1 q.2 j)
  | _, _ => (1, 0)
section K5
variable {l : Launch} {w : jW} {h : jH} {sz : Nat} {G : GS}
theorem kO_keep {h' : jH} (hk : ∀ k j, (k = 0 ∧ 7 ≤ j ∧ j ≤ 10) ∨ k = 68 → h'.1 k j = h.1 k j) (H : kO sz G h) : kO sz G h' := by
  obtain ⟨a1, a2, a3, a4, a5, a6, a7, a8, a9, aA, aB, aC⟩ := H
  refine ⟨?_, a2, ?_, ?_, ?_, ?_, a7, a8, ?_, ?_, ?_, ?_⟩ <;> rw [hk _ _ (by omega)] <;> assumption
theorem c_Put (hw : jok w) (H : KI sz G h) (x y : Int32) : jM l w yX4_put cX4_put 5 (some .boolean) 1 [.ref (jad w 0), .int x, .int y] h (fun r h' => r = some (.int (if (gPut G x y).1 then 1 else 0)) ∧ KI sz (gPut G x y).2 h' ∧ kF h h') := by
  obtain ⟨σ, hr, hT, hM, hO, hL⟩ := H
  refine jM_mono (c_put hw hr hT x y) ?_
  rintro v h' ⟨rfl, e2, hF, hm⟩
  have kf : kF h h' := ⟨fun k j hk => ⟨hF k j (by omega) (by omega), by rw [e2]⟩, by rw [e2]⟩
  unfold gPut
  cases e : putN G.1.1 x y with
  | none =>
    rw [e] at hm
    subst hm
    exact ⟨rfl, ⟨σ, hr, hT, hM, hO, hL⟩, kf⟩
  | some k =>
    rw [e] at hm
    exact ⟨rfl, ⟨σ, kR_same (by rw [e2]) hr, hm, kM_keep hr (fun k' j z1 z2 z3 => hF k' j (by omega) (by omega)) hM, kO_keep (G := G) (fun k' j z => hF k' j (by omega) (by omega)) hO, hL⟩, kf⟩
theorem KI_drop {σ : Nat → Nat} {k : Nat} (hr : kR σ h) (hT : kT G.1.1 G.1.2 h) (hM : kM G.2.1.1 G.2.1.2 σ h) (hO : kO sz G h) (hk : k < 6) : KI sz (G.1, (G.2.1.1, upF G.2.1.2 k false), (false, G.2.2.1.2), G.2.2.2) (up2 (up2 h.1 3 k 0) 0 8 0, h.2) ∧ kF h (up2 (up2 h.1 3 k 0) 0 8 0, h.2) := by
  refine ⟨⟨σ, kR_same rfl hr, ?_, ?_, ?_, fun z => by cases z⟩, fun k' j hk' => ⟨by dsimp only; rw [up2_n (by omega), up2_n (by omega)], rfl⟩, rfl⟩
  · obtain ⟨a, b, c⟩ := hT
    exact ⟨by dsimp only; rw [up2_n (by omega), up2_n (by omega)]; exact a, b, fun i hi => by dsimp only; rw [up2_n (by omega), up2_n (by omega)]; exact c i hi⟩
  · intro m hm
    obtain ⟨a, b⟩ := hM m hm
    have hu := hr.2.2.2.2.2.2.2.2.1 m (by omega)
    have := ub_in hu.1
    dsimp only
    by_cases e : m = k
    · subst e
      refine ⟨by rw [up2_n (by omega), up2_s]; simp [upF], fun z => by simp [upF] at z⟩
    · refine ⟨by rw [up2_n (by omega), up2_n (by omega), a]; simp [upF, e], fun z => ?_⟩
      have z' : G.2.1.2 m = true := by simpa [upF, e] using z
      exact ⟨cU_keep hu.1 (fun k' j z1 z2 => by dsimp only; rw [up2_n (by omega), up2_n (by omega)]) (b z').1, (b z').2⟩
  · obtain ⟨a1, a2, a3, a4, a5, a6, a7, a8, a9, aA, aB, aC⟩ := hO
    exact ⟨by simpa [up2] using a1, a2, by simp [up2], by simpa [up2] using a4, by simpa [up2] using a5, by simpa [up2] using a6, a7, a8, by simpa [up2] using a9, by simpa [up2] using aA, by simpa [up2] using aB, by simpa [up2] using aC⟩
theorem c_Drop (hw : jok w) (hl9 : l.stackTraces = false) (H : KI sz G h) (m : Int32) : jTh l w yX4_drop cX4_drop 2 none 7 [.ref (jad w 0), .int m] h (fun r h' => r = none ∧ (gDrop G m).1 = 0 ∧ KI sz (gDrop G m).2 h' ∧ kF h h') (fun E h' => E = "java/util/NoSuchElementException" ∧ (gDrop G m).1 = 1 ∧ KI sz (gDrop G m).2 h' ∧ kF h h') := by
  refine jT_of (by decide) hw (Nat.le_of_ble_eq_true rfl) ?_
  intro X C hl hR hnL hrt hE hout hXk
  subst hl
  have C : jC X w cX4_drop RX4 := C
  obtain ⟨σ, hr, hT, hM, hO, hL⟩ := id H
  show J X w h 0 [(0, .ref (jad w 0)), (1, .int m)] []
  cases e : prs G.2.1.2 m with
  | none =>
    have eG : gDrop G m = (1, G) := by unfold gDrop; rw [e]
    refine k_aload_n C dX4_drop_0 rfl ?_
    refine k_iload_n C dX4_drop_1 rfl ?_
    refine k_callV (k := 0) (ci := 4) (As := [.int m]) C mX4_83 (m_isPresent hw hr hM m) jCl4.1 (by first | decide | omega) (by first | assumption | rfl) rfl rfl (Nat.le_of_ble_eq_true rfl) (jroomX hR (by first | decide | omega) (by decide)) dX4_drop_2 ?_
    rintro v9 h9 ⟨rfl, e9⟩
    obtain rfl := e9.symm
    rw [e]
    refine j_if_ne C 16 dX4_drop_5 (by decide) (fun c5 => ?_) (fun c5 => ?_)
    · exact absurd rfl c5 -- stop
    · exact jx_throw C jThr_nos hl9 hR (by decide) hE hout hXk dX4_drop_8 dX4_drop_11 dX4_drop_12 dX4_drop_15 ⟨rfl, by rw [eG], by rw [eG]; exact H, fun _ _ _ => ⟨rfl, rfl⟩, rfl⟩
  | some k =>
    have eG : gDrop G m = (0, (G.1, (G.2.1.1, upF G.2.1.2 k false), (false, G.2.2.1.2), G.2.2.2)) := by unfold gDrop; rw [e]
    obtain ⟨rfl, hk, hp⟩ := prs_some e
    refine k_aload_n C dX4_drop_0 rfl ?_
    refine k_iload_n C dX4_drop_1 rfl ?_
    refine k_callV (k := 0) (ci := 4) (As := [.int (nI k)]) C mX4_83 (m_isPresent hw hr hM (nI k)) jCl4.1 (by first | decide | omega) (by first | assumption | rfl) rfl rfl (Nat.le_of_ble_eq_true rfl) (jroomX hR (by first | decide | omega) (by decide)) dX4_drop_2 ?_
    rintro v9 h9 ⟨rfl, e9⟩
    obtain rfl := e9.symm
    rw [e]
    refine j_if_ne C 16 dX4_drop_5 (by decide) (fun c5 => ?_) (fun c5 => ?_)
    · refine k_aload_n C dX4_drop_16 rfl ?_
      refine j_getr C fX4_19 rfl (by first | decide | omega) (by first | assumption | rfl) (hr.2.2.1) dX4_drop_17 ?_
      refine k_iload_n C dX4_drop_20 rfl ?_
      refine j_iconst (v := 0) C dX4_drop_21 (by decide) ?_
      refine j_zast C (by first | decide | omega) (by first | assumption | rfl) (rfl) (hk) (by decide) (by first | decide | assumption) dX4_drop_22 ?_
      refine k_aload_n C dX4_drop_23 rfl ?_
      refine j_iconst (v := 0) C dX4_drop_24 (by decide) ?_
      refine j_putz C fX4_79 rfl rfl (by first | decide | assumption) (by first | decide | omega) (by first | assumption | rfl) dX4_drop_25 ?_
      exact jx_vret C hrt hE dX4_drop_28 (⟨rfl, by rw [eG], by rw [eG]; exact KI_drop hr hT hM hO hk⟩)
    · exact absurd c5 (by simp) -- stop
theorem KI_un {σ : Nat → Nat} {a b : Int32} {c : Bool} (hr : kR σ h) (hT : kT G.1.1 G.1.2 h) (hM : kM G.2.1.1 G.2.1.2 σ h) (hO : kO sz G h) (hL : c = true → lnk G.2.1.1 G.2.1.2) : KI sz (G.1, G.2.1, (c, G.2.2.1.2.1, a, b), G.2.2.2) (up2 (up2 (up2 h.1 0 9 a) 0 10 b) 0 8 (if c then 1 else 0), h.2) ∧ kF h (up2 (up2 (up2 h.1 0 9 a) 0 10 b) 0 8 (if c then 1 else 0), h.2) := by
  refine ⟨⟨σ, kR_same rfl hr, ?_, kM_keep hr (fun k j z1 z2 z3 => by dsimp only; rw [up2_n (by omega), up2_n (by omega), up2_n (by omega)]) hM, ?_, hL⟩, fun k' j hk' => ⟨by dsimp only; rw [up2_n (by omega), up2_n (by omega), up2_n (by omega)], rfl⟩, rfl⟩
  · obtain ⟨a, b, c⟩ := hT
    exact ⟨by dsimp only; rw [up2_n (by omega), up2_n (by omega), up2_n (by omega)]; exact a, b, fun i hi => by dsimp only; rw [up2_n (by omega), up2_n (by omega), up2_n (by omega)]; exact c i hi⟩
  · obtain ⟨a1, a2, a3, a4, a5, a6, a7, a8, a9, aA, aB, aC⟩ := hO
    exact ⟨by simpa [up2] using a1, a2, by simp [up2], by simp [up2], by simp [up2], by simpa [up2] using a6, a7, a8, by simpa [up2] using a9, by simpa [up2] using aA, by simpa [up2] using aB, by simpa [up2] using aC⟩
theorem unfI_none {PG : Nat → PU} {pr : Nat → Bool} : ∀ (l : List HD) (a : Nat), unfI PG pr l a = none → ∀ d ∈ l, d.1 ≠ 0 → fitP PG pr d = true
  | [], a, _, d, hd, _ => by simp at hd
  | x :: l, a, h, d, hd, h0 => by
    unfold unfI at h
    split at h
    · cases h
    · next c =>
      rcases List.mem_cons.mp hd with rfl | hd
      · cases e : fitP PG pr d with
        | true => rfl
        | false => exact absurd ⟨h0, e⟩ c
      · exact unfI_none l (a + 1) h d hd h0
theorem unfM_none {PG : Nat → PU} {pr : Nat → Bool} : ∀ (f m : Nat), unfM PG pr f m = none → ∀ k, m ≤ k → k < m + f → pr k = true → unfI PG pr (PG k).1 0 = none
  | 0, m, _, k, h1, h2, _ => by omega
  | f + 1, m, h, k, h1, h2, hp => by
    unfold unfM at h
    by_cases e : m = k
    · subst e
      rw [hp] at h
      simp only [if_true] at h
      cases eu : unfI PG pr (PG m).1 0 with
      | none => rfl
      | some i => rw [eu] at h; cases h
    · refine unfM_none f (m + 1) ?_ k (by omega) (by omega) hp
      split at h
      · split at h
        · cases h
        · exact h
      · exact h
/-- what fits is linked -/
theorem lnk_of {PG : Nat → PU} {pr : Nat → Bool} (hU : ∀ m, m < 6 → pr m = true → puOk (PG m)) (h : unfM PG pr 6 0 = none) : lnk PG pr := by
  intro m hm hp
  refine ⟨hU m hm hp, fun o nm s hl => ?_⟩
  have U := hU m hm hp
  have hn := unfM_none 6 0 h m (Nat.zero_le _) (by omega) hp
  obtain ⟨q, hq, rfl, rfl, rfl⟩ := lkp_in _ _ _ _ hl
  obtain ⟨d, hd, rfl⟩ := List.mem_map.mp hq
  obtain ⟨i, hi, rfl⟩ := List.mem_iff_getElem.mp hd
  obtain ⟨⟨u1, u2, -⟩, -⟩ := U.2.2.2.1 i hi
  show ∃ i', calM m (((PG m).1[i]).1 * 26 + ((PG m).1[i]).2.1) < 6 ∧ _
  by_cases h0 : ((PG m).1[i]).1 = 0
  · have ec : calM m (((PG m).1[i]).1 * 26 + ((PG m).1[i]).2.1) = m := by rw [h0]; unfold calM; rw [if_pos (by omega)]
    rw [show (h3 ((PG m).1[i])).1 = ((PG m).1[i]).1 from rfl, show (h3 ((PG m).1[i])).2.1 = ((PG m).1[i]).2.1 from rfl, ec]
    exact ⟨i, hm, hp, hi, h0, rfl, rfl⟩
  · have hf := unfI_none _ _ hn _ (List.getElem_mem hi) h0
    have ec : calM m (((PG m).1[i]).1 * 26 + ((PG m).1[i]).2.1) = ((PG m).1[i]).1 - 1 := by unfold calM; rw [if_neg (by omega)]; omega
    rw [show (h3 ((PG m).1[i])).1 = ((PG m).1[i]).1 from rfl, show (h3 ((PG m).1[i])).2.1 = ((PG m).1[i]).2.1 from rfl, ec]
    unfold fitP at hf
    simp only [Bool.and_eq_true] at hf
    obtain ⟨f1, f2⟩ := hf
    cases ed : dfx (PG (((PG m).1[i]).1 - 1)).1 ((PG m).1[i]).2.1 with
    | none => rw [ed] at f2; cases f2
    | some j =>
      rw [ed] at f2
      obtain ⟨hj, g1, g2⟩ := dfx_some _ _ _ ed
      simp only [Bool.and_eq_true, beq_iff_eq, gtD hj] at f2
      exact ⟨j, by omega, f1, hj, g1, g2, f2.2⟩
theorem c_Link (hw : jok w) (hl9 : l.stackTraces = false) (H : KI sz G h) : jTh l w yX4_link cX4_link 1 (some .int) 7 [.ref (jad w 0)] h (fun r h' => r = some (.int (nI (gLink G).2.1)) ∧ (gLink G).1 = 0 ∧ KI sz (gLink G).2.2 h' ∧ kF h h') (fun E h' => (E = "java/lang/IllegalStateException" ∧ (gLink G).1 = 1 ∨ E = "java/lang/UnsupportedOperationException" ∧ (gLink G).1 = 2) ∧ KI sz (gLink G).2.2 h' ∧ kF h h') := by
  refine jT_of (by decide) hw (Nat.le_of_ble_eq_true rfl) ?_
  intro X C hl hR hnL hrt hE hout hXk
  subst hl
  have C : jC X w cX4_link RX4 := C
  obtain ⟨σ, hr, hT, hM, hO, hL⟩ := id H
  show J X w h 0 [(0, .ref (jad w 0))] []
  by_cases e : cntM G.2.1.2 6 = 0
  · have eG : gLink G = (1, 0, G) := by unfold gLink; rw [if_pos e]
    refine k_aload_n C dX4_link_0 rfl ?_
    refine k_callV (k := 0) (ci := 4) (As := []) C mX4_90 (m_hasModules hw hr hM) jCl4.1 (by first | decide | omega) (by first | assumption | rfl) rfl rfl (Nat.le_of_ble_eq_true rfl) (jroomX hR (by first | decide | omega) (by decide)) dX4_link_1 ?_
    rintro v9 h9 ⟨rfl, e9⟩
    obtain rfl := e9.symm
    rw [if_pos e]
    refine j_if_ne C 15 dX4_link_4 (by decide) (fun c4 => ?_) (fun c4 => ?_)
    · exact absurd rfl c4 -- stop
    · exact jx_throw C jThr_ils hl9 hR (by decide) hE hout hXk dX4_link_7 dX4_link_10 dX4_link_11 dX4_link_14 ⟨Or.inl ⟨rfl, by rw [eG]⟩, by rw [eG]; exact H, fun _ _ _ => ⟨rfl, rfl⟩, rfl⟩
  · have eG : gLink G = match unfM G.2.1.1 G.2.1.2 6 0 with
      | none => (0, cntD G.2.1.1 G.2.1.2 6, (G.1, G.2.1, (true, G.2.2.1.2.1, uO none), G.2.2.2))
      | some q => (2, 0, (G.1, G.2.1, (false, G.2.2.1.2.1, uO (some q)), G.2.2.2)) := by unfold gLink; rw [if_neg e]
    have hr1 : kR σ (up2 (up2 h.1 0 9 (uO (unfM G.2.1.1 G.2.1.2 6 0)).1) 0 10 (uO (unfM G.2.1.1 G.2.1.2 6 0)).2, h.2) := kR_same rfl hr
    cases eu : unfM G.2.1.1 G.2.1.2 6 0 with
    | none =>
      rw [eu] at eG
      have hLn := lnk_of (fun m hm hp => ((hM m hm).2 hp).2) eu
      have K := KI_un (a := -1) (b := -1) (c := true) hr hT hM hO (fun _ => hLn)
      obtain ⟨σ2, hr2, -, -, -, -⟩ := id K.1
      refine k_aload_n C dX4_link_0 rfl ?_
      refine k_callV (k := 0) (ci := 4) (As := []) C mX4_90 (m_hasModules hw hr hM) jCl4.1 (by first | decide | omega) (by first | assumption | rfl) rfl rfl (Nat.le_of_ble_eq_true rfl) (jroomX hR (by first | decide | omega) (by decide)) dX4_link_1 ?_
      rintro v9 h9 ⟨rfl, e9⟩
      obtain rfl := e9.symm
      rw [if_neg e]
      refine j_if_ne C 15 dX4_link_4 (by decide) (fun c4 => ?_) (fun c4 => ?_)
      · refine k_aload_n C dX4_link_15 rfl ?_
        refine k_callV (k := 0) (ci := 4) (As := []) C mX4_97 (m_findUnfit hw hr hM) jCl4.1 (by first | decide | omega) (by first | assumption | rfl) rfl rfl (Nat.le_of_ble_eq_true rfl) (jroomX hR (by first | decide | omega) (by decide)) dX4_link_16 ?_
        rintro v9 h9 ⟨rfl, e9⟩
        rw [eu] at e9
        subst e9
        refine k_aload_n C dX4_link_19 rfl ?_
        refine k_aload_n C dX4_link_20 rfl ?_
        refine j_geti C fX4_39 rfl (by first | decide | omega) (by first | assumption | rfl) dX4_link_21 ?_
        refine j_iconst (v := -1) C dX4_link_24 (by decide) ?_
        refine j_icmp_ne C 32 dX4_link_25 (by decide) (fun c25 => ?_) (fun c25 => ?_)
        · exact absurd (show up2 (up2 h.1 0 9 (-1)) 0 10 (-1) 0 9 = -1 by simp [up2]) c25 -- stop
        · refine j_iconst (v := 1) C dX4_link_28 (by decide) ?_
          refine j_goto C 33 dX4_link_29 (by decide) ?_
          refine j_putz C fX4_79 rfl rfl (by first | decide | assumption) (by first | decide | omega) (by first | assumption | rfl) dX4_link_33 ?_
          refine k_aload_n C dX4_link_36 rfl ?_
          refine j_geti C fX4_79 rfl (by first | decide | omega) (by first | assumption | rfl) dX4_link_37 ?_
          refine j_if_ne C 51 dX4_link_40 (by decide) (fun c40 => ?_) (fun c40 => ?_)
          · refine k_aload_n C dX4_link_51 rfl ?_
            refine k_callV (k := 0) (ci := 4) (As := []) C mX4_103 (m_countDefinitions hw (kR_same rfl hr) (kM_keep hr (fun k j z1 z2 z3 => by dsimp only [uO]; rw [up2_n (by omega), up2_n (by omega), up2_n (by omega)]) hM)) jCl4.1 (by first | decide | omega) (by first | assumption | rfl) rfl rfl (Nat.le_of_ble_eq_true rfl) (jroomX hR (by first | decide | omega) (by decide)) dX4_link_52 ?_
            rintro v9 h9 ⟨rfl, e9⟩
            subst e9
            exact jx_iret C hrt hE dX4_link_55 (⟨by rw [eG], by rw [eG], by rw [eG]; exact K⟩)
          · exact absurd (show up2 (up2 (up2 h.1 0 9 (-1)) 0 10 (-1)) 0 8 1 0 8 = 0 from c40) (by simp [up2]) -- stop
      · exact absurd c4 (by decide) -- stop
    | some q =>
      rw [eu] at eG
      have K := KI_un (a := (uO (some q)).1) (b := (uO (some q)).2) (c := false) hr hT hM hO (fun z => by cases z)
      have hq : ¬ nI q.1 = -1 := by
        have key : ∀ (f m : Nat) (q : Nat × Nat), unfM G.2.1.1 G.2.1.2 f m = some q → q.1 < m + f := by
          intro f
          induction f with
          | zero => intro m q h; cases h
          | succ f ih =>
            intro m q h
            unfold unfM at h
            split at h
            · split at h
              · simp at h; subst h; dsimp only; omega
              · have := ih (m + 1) q h; omega
            · have := ih (m + 1) q h; omega
        have := key 6 0 q eu
        exact nI_m1 (by omega)
      refine k_aload_n C dX4_link_0 rfl ?_
      refine k_callV (k := 0) (ci := 4) (As := []) C mX4_90 (m_hasModules hw hr hM) jCl4.1 (by first | decide | omega) (by first | assumption | rfl) rfl rfl (Nat.le_of_ble_eq_true rfl) (jroomX hR (by first | decide | omega) (by decide)) dX4_link_1 ?_
      rintro v9 h9 ⟨rfl, e9⟩
      obtain rfl := e9.symm
      rw [if_neg e]
      refine j_if_ne C 15 dX4_link_4 (by decide) (fun c4 => ?_) (fun c4 => ?_)
      · refine k_aload_n C dX4_link_15 rfl ?_
        refine k_callV (k := 0) (ci := 4) (As := []) C mX4_97 (m_findUnfit hw hr hM) jCl4.1 (by first | decide | omega) (by first | assumption | rfl) rfl rfl (Nat.le_of_ble_eq_true rfl) (jroomX hR (by first | decide | omega) (by decide)) dX4_link_16 ?_
        rintro v9 h9 ⟨rfl, e9⟩
        rw [eu] at e9
        subst e9
        refine k_aload_n C dX4_link_19 rfl ?_
        refine k_aload_n C dX4_link_20 rfl ?_
        refine j_geti C fX4_39 rfl (by first | decide | omega) (by first | assumption | rfl) dX4_link_21 ?_
        refine j_iconst (v := -1) C dX4_link_24 (by decide) ?_
        refine j_icmp_ne C 32 dX4_link_25 (by decide) (fun c25 => ?_) (fun c25 => ?_)
        · refine j_iconst (v := 0) C dX4_link_32 (by decide) ?_
          refine j_putz C fX4_79 rfl rfl (by first | decide | assumption) (by first | decide | omega) (by first | assumption | rfl) dX4_link_33 ?_
          refine k_aload_n C dX4_link_36 rfl ?_
          refine j_geti C fX4_79 rfl (by first | decide | omega) (by first | assumption | rfl) dX4_link_37 ?_
          refine j_if_ne C 51 dX4_link_40 (by decide) (fun c40 => ?_) (fun c40 => ?_)
          · exact absurd (show up2 (up2 (up2 h.1 0 9 (nI q.1)) 0 10 (nI q.2)) 0 8 0 0 8 = 0 by simp [up2]) c40 -- stop
          · exact jx_throw C jThr_uns hl9 hR (by decide) hE hout hXk dX4_link_43 dX4_link_46 dX4_link_47 dX4_link_50 ⟨Or.inr ⟨rfl, by rw [eG]⟩, by rw [eG]; exact K⟩
        · exact absurd ((show up2 (up2 h.1 0 9 (nI q.1)) 0 10 (nI q.2) 0 9 = nI q.1 by simp [up2]).symm.trans c25) hq -- stop
      · exact absurd c4 (by decide) -- stop
theorem dfO_some {PG : Nat → PU} {pr : Nat → Bool} {m f : Int32} {k i : Nat} (e : dfO PG pr m f = some (k, i)) : m = nI k ∧ k < 6 ∧ pr k = true ∧ ∃ hi : i < (PG k).1.length, ((PG k).1[i]).1 = 0 ∧ nI ((PG k).1[i]).2.1 = f := by
  unfold dfO at e
  cases ep : prs pr m with
  | none => rw [ep] at e; cases e
  | some k2 =>
    obtain ⟨a0, a1, a2⟩ := prs_some ep
    rw [ep] at e
    simp only at e
    cases ed : dfn (PG k2).1 f with
    | none => rw [ed] at e; cases e
    | some i2 =>
      rw [ed] at e
      simp only [Option.map_some, Option.some.injEq, Prod.mk.injEq] at e
      obtain ⟨rfl, rfl⟩ := e
      unfold dfn at ed
      cases en : iK 26 f with
      | none => rw [en] at ed; cases ed
      | some nm =>
        rw [en] at ed
        obtain ⟨hi, g1, g2⟩ := dfx_some _ _ _ ed
        exact ⟨a0, a1, a2, hi, g1, by rw [g2]; exact (iK_some (by decide) en).1.symm⟩
theorem c_About (hw : jok w) (hl9 : l.stackTraces = false) (H : KI sz G h) (m f v : Int32) : jTh l w yX4_about cX4_about 5 (some .int) 7 [.ref (jad w 0), .int m, .int f, .int v] h (fun r h' => r = some (.int (nI (gAbout G m f v).2)) ∧ (gAbout G m f v).1 = 0 ∧ h' = h) (fun E h' => E = "java/util/NoSuchElementException" ∧ (gAbout G m f v).1 = 1 ∧ h' = h) := by
  refine jT_of (by decide) hw (Nat.le_of_ble_eq_true rfl) ?_
  intro X C hl hR hnL hrt hE hout hXk
  subst hl
  have C : jC X w cX4_about RX4 := C
  obtain ⟨σ, hr, hT, hM, hO, hL⟩ := id H
  show J X w h 0 [(0, .ref (jad w 0)), (1, .int m), (2, .int f), (3, .int v)] []
  cases e : dfO G.2.1.1 G.2.1.2 m f with
  | none =>
    have eG : gAbout G m f v = (1, 0) := by unfold gAbout; rw [e]
    refine k_aload_n C dX4_about_0 rfl ?_
    refine k_iload_n C dX4_about_1 rfl ?_
    refine k_iload_n C dX4_about_2 rfl ?_
    refine k_callV (k := 0) (ci := 4) (As := [.int m, .int f]) C mX4_107 (m_definitionOf hw hr hM m f) jCl4.1 (by first | decide | omega) (by first | assumption | rfl) rfl rfl (Nat.le_of_ble_eq_true rfl) (jroomX hR (by first | decide | omega) (by decide)) dX4_about_3 ?_
    rintro v9 h9 ⟨rfl, e9⟩
    obtain rfl := e9.symm
    rw [e]
    refine k_astoreN C dX4_about_6 (by rw [hnL]; decide) ?_
    refine k_aloadN C dX4_about_8 rfl ?_
    refine j_ifnullN C 22 dX4_about_10 (by decide) ?_
    exact jx_throw C jThr_nos hl9 hR (by decide) hE hout hXk dX4_about_22 dX4_about_25 dX4_about_26 dX4_about_29 ⟨rfl, by rw [eG], rfl⟩
  | some q =>
    obtain ⟨k, i⟩ := q
    obtain ⟨-, hk, hp, hi, h0, -⟩ := dfO_some e
    obtain ⟨cu, U⟩ := (hM k hk).2 hp
    have hu := hr.2.2.2.2.2.2.2.2.1 k (by omega)
    obtain ⟨k3, k4, k5, k6, k7⟩ := jk_unit (σ k) hu.1
    have hub := ub_in hu.1
    have hi6 : i < 6 := by have := U.1; omega
    have k8 := k7 i hi6
    obtain ⟨p0, p1, p2, p3, p4⟩ := cu.2.2.2.2.2.2.1 i hi
    obtain ⟨-, p6⟩ := (cu.2.2.2.2.2.2.2 (Pc (G.2.1.1 k).2.1) rfl (cmp_P0 _)).2 i hi h0
    obtain ⟨⟨v1, v2, v3, v4, v5, v6, v7⟩, -⟩ := U.2.2.2.1 i hi
    have esg : (((G.2.1.1 k).1)[i]).2.2.1 = sgo G.2.1.1 k i := by unfold sgo; rw [gtD hi]
    rw [esg] at p2 p3 v3
    have eex : (((G.2.1.1 k).1)[i]).2.2.2.1 = ((G.2.1.1 k).1.getD i (0, 0, 0, 0, 0)).2.2.2.1 := by rw [gtD hi]
    rw [eex] at p4 v6
    cases ev : iK 4 v with
    | none =>
      have eG : gAbout G m f v = (1, 0) := by unfold gAbout; rw [e, ev]
      have hn := iK_none ev
      refine k_aload_n C dX4_about_0 rfl ?_
      refine k_iload_n C dX4_about_1 rfl ?_
      refine k_iload_n C dX4_about_2 rfl ?_
      refine k_callV (k := 0) (ci := 4) (As := [.int m, .int f]) C mX4_107 (m_definitionOf hw hr hM m f) jCl4.1 (by first | decide | omega) (by first | assumption | rfl) rfl rfl (Nat.le_of_ble_eq_true rfl) (jroomX hR (by first | decide | omega) (by decide)) dX4_about_3 ?_
      rintro v9 h9 ⟨rfl, e9⟩
      obtain rfl := e9.symm
      rw [e]
      refine k_astore C dX4_about_6 (by rw [hnL]; decide) ?_
      refine k_aload C dX4_about_8 rfl ?_
      refine j_ifnull C dX4_about_10 ?_
      refine k_iload_n C dX4_about_13 rfl ?_
      refine j_if_lt C 22 dX4_about_14 (by decide) (fun c14 => ?_) (fun c14 => ?_)
      · exact jx_throw C jThr_nos hl9 hR (by decide) hE hout hXk dX4_about_22 dX4_about_25 dX4_about_26 dX4_about_29 ⟨rfl, by rw [eG], rfl⟩
      · refine k_iload_n C dX4_about_17 rfl ?_
        refine j_iconst (v := 3) C dX4_about_18 (by decide) ?_
        refine j_icmp_le C 30 dX4_about_19 (by decide) (fun c19 => ?_) (fun c19 => ?_)
        · exact absurd (by have b1 : ¬ v.toInt < 0 := (fun z => c14 (Int32.lt_iff_toInt_lt.mpr z)); have b2 : v.toInt ≤ 3 := Int32.le_iff_toInt_le.mp c19; have e0 : (0 : Int32).toInt = 0 := rfl; have e5 : (nI 4).toInt = 4 := rfl; exact ⟨Int32.le_iff_toInt_le.mpr (by rw [e0]; omega), Int32.lt_iff_toInt_lt.mpr (by rw [e5]; omega)⟩) hn -- stop
        · exact jx_throw C jThr_nos hl9 hR (by decide) hE hout hXk dX4_about_22 dX4_about_25 dX4_about_26 dX4_about_29 ⟨rfl, by rw [eG], rfl⟩
    | some j =>
      have eG : gAbout G m f v = (0, abV G.2.1.1 k i j) := by unfold gAbout; rw [e, ev]
      obtain ⟨rfl, hj⟩ := iK_some (by decide) ev
      have start : J X w h 31 [(0, .ref (jad w 0)), (1, .int m), (2, .int f), (3, .int (nI j)), (4, .ref (jad w (ub (σ k) + 3 + i)))] [.int (nI j)] → J X w h 0 [(0, .ref (jad w 0)), (1, .int m), (2, .int f), (3, .int (nI j))] [] := by
        intro kk
        refine k_aload_n C dX4_about_0 rfl ?_
        refine k_iload_n C dX4_about_1 rfl ?_
        refine k_iload_n C dX4_about_2 rfl ?_
        refine k_callV (k := 0) (ci := 4) (As := [.int m, .int f]) C mX4_107 (m_definitionOf hw hr hM m f) jCl4.1 (by first | decide | omega) (by first | assumption | rfl) rfl rfl (Nat.le_of_ble_eq_true rfl) (jroomX hR (by first | decide | omega) (by decide)) dX4_about_3 ?_
        rintro v9 h9 ⟨rfl, e9⟩
        obtain rfl := e9.symm
        rw [e]
        refine k_astore C dX4_about_6 (by rw [hnL]; decide) ?_
        refine k_aload C dX4_about_8 rfl ?_
        refine j_ifnull C dX4_about_10 ?_
        refine k_iload_n C dX4_about_13 rfl ?_
        refine j_if_lt C 22 dX4_about_14 (by decide) (fun c14 => ?_) (fun c14 => ?_)
        · exact absurd c14 (nI_pos (by omega)) -- stop
        · refine k_iload_n C dX4_about_17 rfl ?_
          refine j_iconst (v := 3) C dX4_about_18 (by decide) ?_
          refine j_icmp_le C 30 dX4_about_19 (by decide) (fun c19 => ?_) (fun c19 => ?_)
          · refine k_iload_n C dX4_about_30 rfl ?_
            exact kk
          · exact absurd (nI_le (a := j) (b := 3) (by omega) (by omega)) c19 -- stop
      refine start ?_
      have hj4 : j = 0 ∨ j = 1 ∨ j = 2 ∨ j = 3 := by omega
      rcases hj4 with rfl | rfl | rfl | rfl
      · refine j_tableIn (off := 25) C 56 dX4_about_31 (by decide) (by decide) (by decide) (by decide) ?_
        refine k_aload C dX4_about_56 rfl ?_
        refine j_geti C fX4_111 rfl (by first | decide | omega) (by first | assumption | rfl) dX4_about_58 ?_
        rw [p6]
        exact jx_iret C hrt hE dX4_about_61 (⟨by rw [eG]; rfl, by rw [eG], rfl⟩)
      · refine j_tableIn (off := 31) C 62 dX4_about_31 (by decide) (by decide) (by decide) (by decide) ?_
        refine k_aload C dX4_about_62 rfl ?_
        refine j_geti C fX4_116 rfl (by first | decide | omega) (by first | assumption | rfl) dX4_about_64 ?_
        refine j_if_eq C 74 dX4_about_67 (by decide) (fun c67 => ?_) (fun c67 => ?_)
        · have c67' : ((G.2.1.1 k).1.getD i (0, 0, 0, 0, 0)).2.2.2.1 = 0 := (nI_eq (b := 0) (by omega) (by omega)).mp (p4.symm.trans c67)
          refine j_iconst (v := 0) C dX4_about_74 (by decide) ?_
          exact jx_iret C hrt hE dX4_about_75 (⟨by rw [eG]; show _ = some (Value.int (nI ((G.2.1.1 k).1.getD i (0, 0, 0, 0, 0)).2.2.2.1)); rw [c67']; rfl, by rw [eG], rfl⟩)
        · have c67' : ((G.2.1.1 k).1.getD i (0, 0, 0, 0, 0)).2.2.2.1 = 1 := by have : ¬ ((G.2.1.1 k).1.getD i (0, 0, 0, 0, 0)).2.2.2.1 = 0 := (fun z => c67 (by rw [p4, z]; rfl)); omega
          refine j_iconst (v := 1) C dX4_about_70 (by decide) ?_
          refine j_goto C 75 dX4_about_71 (by decide) ?_
          exact jx_iret C hrt hE dX4_about_75 (⟨by rw [eG]; show _ = some (Value.int (nI ((G.2.1.1 k).1.getD i (0, 0, 0, 0, 0)).2.2.2.1)); rw [c67']; rfl, by rw [eG], rfl⟩)
      · refine j_tableIn (off := 45) C 76 dX4_about_31 (by decide) (by decide) (by decide) (by decide) ?_
        refine k_aload C dX4_about_76 rfl ?_
        refine j_geti C fX4_119 rfl (by first | decide | omega) (by first | assumption | rfl) dX4_about_78 ?_
        rw [p3]
        exact jx_iret C hrt hE dX4_about_81 (⟨by rw [eG]; rfl, by rw [eG], rfl⟩)
      · refine j_tableOut C 82 dX4_about_31 (by decide) (by decide) ?_
        refine k_aload C dX4_about_82 rfl ?_
        refine j_geti C fX4_122 rfl (by first | decide | omega) (by first | assumption | rfl) dX4_about_84 ?_
        rw [p2]
        refine j_iconst (v := nI 0) C dX4_about_87 (by decide) ?_
        refine k_callS (As := [.int (nI (sgo G.2.1.1 k i)), .int (nI 0)]) C mX4_125 (m_typeAt hw v3 (k := 0) (by decide)) rfl rfl (Nat.le_of_ble_eq_true rfl) (jroomX hR (by first | decide | omega) (by decide)) dX4_about_88 ?_
        rintro v9 h9 ⟨rfl, e9⟩
        obtain rfl := e9.symm
        exact jx_iret C hrt hE dX4_about_91 (⟨by rw [eG]; rfl, by rw [eG], rfl⟩)
end K5
