section XU
variable {l : Launch} {w : jW} {h h' g g' : jH} {sz m s : Nat} {G : GS} {U : PU}
theorem rU_keep (hU : puOk U) (hk : ∀ k j, (k = 73 ∧ j = m) ∨ (74 ≤ k ∧ k ≤ 81 ∧ k ≠ 78 ∧ 6 * m ≤ j ∧ j < 6 * m + 6) ∨ (k = 78 ∧ 18 * m ≤ j ∧ j < 18 * m + 18) ∨ (82 ≤ k ∧ k ≤ 84 ∧ 130 * m ≤ j ∧ j < 130 * m + 130) → h'.1 k j = h.1 k j) (H : rU h m U) : rU h' m U := by
  obtain ⟨⟨⟨b1, b2, b3⟩, b4⟩, b5, b6⟩ := H
  refine ⟨⟨⟨by rw [hk _ _ (by omega)]; exact b1, b2, fun i hi => ?_⟩, fun i hi => ?_⟩, fun i hi e0 => ?_, fun p e he hk1 => ?_⟩
  · obtain ⟨c1, c2, c3⟩ := b3 i hi
    exact ⟨by rw [hk _ _ (by omega)]; exact c1, by rw [hk _ _ (by omega)]; exact c2, c3⟩
  · obtain ⟨c1, c2, c3, c4⟩ := b4 i hi
    exact ⟨by rw [hk _ _ (by omega)]; exact c1, by rw [hk _ _ (by omega)]; exact c2, fun q hq => by rw [hk _ _ (by have := nTk_le (U.1[i]).2.2.1; omega)]; exact c3 q hq, by rw [hk _ _ (by omega)]; exact c4⟩
  · obtain ⟨c1, c2⟩ := b5 i hi e0
    exact ⟨by rw [hk _ _ (by omega)]; exact c1, by rw [hk _ _ (by omega)]; exact c2⟩
  · obtain ⟨c1, c2, c3⟩ := b6 p e he hk1
    have hR := Rc_le (ev := U.2.1) (p := p)
    have hU := hU.2.2.2.2.2.1
    exact ⟨by rw [hk _ _ (by omega)]; exact c1, by rw [hk _ _ (by omega)]; exact c2, fun z => by rw [hk _ _ (by omega)]; exact c3 z⟩
theorem nar_nI {e : Nat} (h : e ≤ 1) : vp_nar .boolean (nI e) = nI e := by
  have : e = 0 ∨ e = 1 := by omega
  rcases this with rfl | rfl <;> rfl
/-- a module is accepted -/
theorem rU_ac {L : List HD} {z : List Ev × List (Nat × Nat)} {t : Nat → Nat} {n : Nat} (A : acP m s h h') (N : rIt h 6 L) (hK : ∀ i (hi : i < L.length), hdK n (L[i])) (hs : s = rpos z.1) (R : rR h (fun _ => False) z.1) (rm : ∀ j (hj : j < L.length), (L[j]).1 = 0 → h.1 80 (36 + j) = nI (z.2.getD j (0, 0)).2 ∧ h.1 81 (36 + j) = nI (Rc z.1 (z.2.getD j (0, 0)).1) ∧ (z.2.getD j (0, 0)).1 ≤ z.1.length) : rU h' m (L, z.1, z.2) := by
  obtain ⟨A1, A2, A3, A4, A5, A6, A7, A8⟩ := A
  obtain ⟨⟨b1, b2, b3⟩, b4⟩ := N
  refine ⟨⟨⟨by rw [A3]; exact b1, b2, fun i hi => ?_⟩, fun i hi => ?_⟩, fun i hi e0 => ?_, fun p e he hk1 => ?_⟩
  · have hi6 : i < 6 := by have : i < L.length := hi; omega
    obtain ⟨c1, c2, c3⟩ := b3 i hi
    rw [show 6 * 6 + i = 36 + i by omega] at c1 c2
    exact ⟨by rw [A4 i hi6 74 (by omega)]; exact c1, by rw [A4 i hi6 75 (by omega)]; exact c2, c3⟩
  · have hi6 : i < 6 := by have : i < L.length := hi; omega
    obtain ⟨c1, c2, c3, c4⟩ := b4 i hi
    rw [show 6 * 6 + i = 36 + i by omega] at c1 c2 c3 c4
    refine ⟨by rw [A5 i hi6 76 (by omega), c1]; exact nar_nI (hK i hi).2.2.2.2.2.1, by rw [A4 i hi6 77 (by omega)]; exact c2, fun q hq => ?_, by rw [A5 i hi6 79 (by omega), c4]; exact nar_b _⟩
    have := nTk_le (L[i]).2.2.1
    have hq' : q < nTk (L[i]).2.2.1 := hq
    rw [A6 i hi6 q (by omega), c3 q hq]
    exact nar_b _
  · have hi6 : i < 6 := by have : i < L.length := hi; omega
    obtain ⟨c1, c2, -⟩ := rm i hi e0
    exact ⟨by rw [A4 i hi6 80 (by omega)]; exact c1, by rw [A4 i hi6 81 (by omega)]; exact c2⟩
  · obtain ⟨c1, c2, c3⟩ := R p e he hk1
    have hlt : Rc z.1 p < rpos z.1 := Rc_lt he hk1
    dsimp only
    exact ⟨by rw [A7 (Rc z.1 p) (by omega) 82 (by omega) (by omega)]; exact c1, by rw [A7 (Rc z.1 p) (by omega) 83 (by omega) (by omega)]; exact (c2 (fun z => z)).1, fun y9 => by rw [A7 (Rc z.1 p) (by omega) 84 (by omega) (by omega)]; exact c3 y9⟩
theorem wF_tr {a b c : jH} (h1 : wF a b) (h2 : wF b c) : wF a c := ⟨h2.1.trans h1.1, fun k j z => (h2.2 k j z).trans (h1.2 k j z)⟩
theorem r_Mod (hw : jok w) (H : RI sz G h) : jM l w yX5_module cX5_module 2 (some .int) 8 [.ref (jad w 70)] h (fun r h' => r = some (.int (nI (gMod G).2.1)) ∧ h'.1 70 0 = nI (gMod G).1 ∧ RI sz (gMod G).2.2 h' ∧ rF h h') := by
  refine jM_of (by decide) hw (Nat.le_of_ble_eq_true rfl) ?_
  intro X C hl hR hnL hrt hE
  subst hl
  have C : jC X w cX5_module RX5 := C
  obtain ⟨hr, hT, hM, hO⟩ := id H
  obtain ⟨⟨n, t⟩, ⟨PG, pr⟩, ⟨lk, fl, ui⟩, G4⟩ := G
  dsimp only at hT hM
  have hn := hT.2.1
  obtain ⟨a1, a2, a3, a4, a5, a6, a7, a8, a9, aA, aB, b6, aC⟩ := id hO
  obtain ⟨g0, eg0⟩ : ∃ g0 : jH, g0 = (up2 h.1 73 6 0, h.2) := ⟨_, rfl⟩
  have r0 : g0.2.1 70 = rMap := by rw [eg0]; exact hr
  have t0 : rtx g0 t n := by rw [eg0]; exact rtx_e (by omega) hT
  have o0 : ∀ k j, ¬ (k = 73 ∧ j = 6) → g0.1 k j = h.1 k j := fun k j z => by rw [eg0]; exact up2_n z
  have hm6 := hdsM_lt (t := t) (n := n)
  have hmV : (if true = true ∧ 65 ≤ pek t n 0 ∧ pek t n 0 ≤ 70 then pek t n 0 - 65 else 0) = hdsM t n := by
    unfold hdsM amV pkO
    simp only [Option.getD_some, true_and]
  -- what stays of the modules
  have keep : ∀ g : jH, wF g0 g → ∀ k j, ((k = 72 ∨ k = 73) ∧ j < 6) ∨ (74 ≤ k ∧ k ≤ 81 ∧ k ≠ 78 ∧ j < 36) ∨ (k = 78 ∧ j < 108) ∨ (82 ≤ k ∧ k ≤ 84 ∧ j < 780) → g.1 k j = h.1 k j := fun g F k j z => by rw [F.2 k j (by omega)]; exact o0 k j (by omega)
  have keepO : ∀ g : jH, wF g0 g → ∀ j, (j = 1 ∨ (34 ≤ j ∧ j ≤ 37) ∨ (47 ≤ j ∧ j ≤ 50)) → g.1 70 j = h.1 70 j := fun g F j z => by rw [F.2 70 j (by omega)]; exact o0 70 j (by omega)
  have keepF : ∀ g : jH, wF g0 g → g.2 = h.2 ∧ ∀ k j, k < 70 → g.1 k j = h.1 k j := fun g F => ⟨by rw [F.1, eg0], fun k j z => by rw [F.2 k j (by omega)]; exact o0 k j (by omega)⟩
  have fin : ∀ (g : jH) (a : Nat) (gd ty : Bool) (s : Nat), wF g0 g → g.1 70 21 = nI s → ((gd = false ∧ cmpR t n = none) ∨ (gd = true ∧ cmpR t n ≠ none ∧ rIt g 6 (hdsL t n) ∧ s ≤ 120 ∧ mdI g (hdsL t n) s ty (cmpR t n))) → J X w (pv g a gd ty) 56 [(0, .ref (jad w 70)), (1, .int (nI (hdsM t n)))] [] := by
    intro g a gd ty s F h21 ho
    obtain ⟨g1, eg1⟩ : ∃ g1 : jH, g1 = (up2 g.1 70 3 0, g.2) := ⟨_, rfl⟩
    have r1 : g1.2.1 70 = rMap := by rw [eg1]; show g.2.1 70 = _; rw [F.1]; exact r0
    have o1 : ∀ k j, ¬ (k = 70 ∧ j = 3) → g1.1 k j = g.1 k j := fun k j z => by rw [eg1]; exact up2_n z
    -- the text or its types are wrong
    have bad : ∀ v : Nat, v = 1 ∨ v = 2 → gMod ((n, t), (PG, pr), (lk, fl, ui), G4) = (1, 0, ((0, t), (PG, pr), (lk, v, ui), G4)) → J X w (pv g1 a gd ty) 85 [(0, .ref (jad w 70)), (1, .int (nI (hdsM t n)))] [.int (nI v), .ref (jad w 70)] := by
      intro v hv eG
      obtain ⟨g2, eg2⟩ : ∃ g2 : jH, g2 = (up2 g1.1 70 35 (nI v), g1.2) := ⟨_, rfl⟩
      have i35 : (pv g2 a gd ty).1 70 35 = nI v := by rw [pv_o (by omega), eg2]; dsimp only; rw [up2_s]
      have c2 : ∀ k j, ¬ (k = 70 ∧ (j = 0 ∨ j = 3 ∨ j = 4 ∨ j = 5 ∨ j = 6 ∨ j = 35)) → (up2 (pv g2 a gd ty).1 70 0 1) k j = g.1 k j := fun k j z => by rw [up2_n (by omega), pv_o (by omega), eg2]; dsimp only; rw [up2_n (by omega)]; exact o1 k j (by omega)
      have key : RI sz ((0, t), (PG, pr), (lk, v, ui), G4) (up2 (pv g2 a gd ty).1 70 0 1, (pv g2 a gd ty).2) := by
        refine ⟨by show g2.2.1 70 = _; rw [eg2]; exact r1, ⟨?_, by dsimp only; omega, fun i hi => absurd hi (Nat.not_lt_zero _)⟩, rM_keep (h := h) (fun k j z => by dsimp only; rw [c2 k j (by omega)]; exact keep g F k j z) hM, ?_⟩
        · dsimp only; rw [up2_n (by omega), pv_o (by omega), eg2]; dsimp only; rw [up2_n (by omega), eg1]; dsimp only; rw [up2_s]; rfl
        · refine ⟨?_, a2, a3, ?_, ?_, ?_, ?_, ?_, ?_, ?_, ?_, ty, ?_⟩
          · dsimp only; rw [c2 70 1 (by omega), keepO g F _ (by omega)]; exact a1
          · dsimp only; rw [c2 70 34 (by omega), keepO g F _ (by omega)]; exact a4
          · dsimp only; rw [up2_n (by omega)]; exact i35
          · dsimp only; rw [c2 70 36 (by omega), keepO g F _ (by omega)]; exact a6
          · dsimp only; rw [c2 70 37 (by omega), keepO g F _ (by omega)]; exact a7
          · dsimp only; rw [c2 70 49 (by omega), keepO g F _ (by omega)]; exact a8
          · dsimp only; rw [c2 70 50 (by omega), keepO g F _ (by omega)]; exact a9
          · dsimp only; rw [c2 70 48 (by omega), keepO g F _ (by omega)]; exact aA
          · dsimp only; rw [c2 70 47 (by omega), keepO g F _ (by omega)]; exact aB
          · dsimp only; rw [up2_n (by omega)]; exact pv_6
      have keyF : rF h (up2 (pv g2 a gd ty).1 70 0 1, (pv g2 a gd ty).2) := ⟨by show g2.2 = _; rw [eg2, eg1]; exact (keepF g F).1, fun k j z => by dsimp only; rw [c2 k j (by omega)]; exact (keepF g F).2 k j z⟩
      refine j_puti C fX5_243 rfl rfl (by first | decide | omega) (by first | assumption | rfl) dX5_module_85 ?_
      refine jeqh (show _ = pv g2 a gd ty from by rw [pv_put (by omega), eg2]) ?_
      refine k_aload_n C dX5_module_88 rfl ?_
      refine j_geti C fX5_243 rfl (by first | decide | omega) (by first | assumption | rfl) dX5_module_89 ?_
      refine j_if_le C 101 dX5_module_92 (by decide) (fun c92 => ?_) (fun c92 => ?_)
      · exact absurd c92 (by rw [i35, show (0 : Int32) = nI 0 from rfl, nI_leI (by omega) (by omega)]; omega) -- stop
      · refine k_aload_n C dX5_module_95 rfl ?_
        refine j_iconst (v := 1) C dX5_module_96 (by decide) ?_
        refine k_callV (k := 70) (ci := 5) (As := [.int 1]) C mX5_246 (r_refuse hw 1) jCl5.1 (by first | decide | omega) (by first | assumption | rfl) rfl rfl (Nat.le_of_ble_eq_true rfl) (jroom hR (by first | decide | omega) (by decide)) dX5_module_97 ?_
        rintro v9 h9 ⟨rfl, rfl⟩
        exact j_iret C hrt hE dX5_module_100 (⟨by rw [eG]; rfl, by rw [eG]; dsimp only; rw [up2_s]; rfl, by rw [eG]; exact ⟨key, keyF⟩⟩)
    rcases ho with ⟨rfl, hc⟩ | ⟨rfl, hc, NL, hs, hmd⟩
    · have eG : gMod ((n, t), (PG, pr), (lk, fl, ui), G4) = (1, 0, ((0, t), (PG, pr), (lk, 1, ui), G4)) := by unfold gMod; dsimp only; rw [hc]
      refine k_aload_n C dX5_module_56 rfl ?_
      refine j_iconst (v := 0) C dX5_module_57 (by decide) ?_
      refine j_puti C fX5_110 rfl rfl (by first | decide | omega) (by first | assumption | rfl) dX5_module_58 ?_
      refine jeqh (show _ = pv g1 a false ty from by rw [pv_put (by omega), eg1]) ?_
      refine k_aload_n C dX5_module_61 rfl ?_
      refine k_aload_n C dX5_module_62 rfl ?_
      refine j_geti C fX5_116 rfl (by first | decide | omega) (by first | assumption | rfl) dX5_module_63 ?_
      refine j_if_ne C 73 dX5_module_66 (by decide) (fun c66 => ?_) (fun c66 => ?_)
      · exact absurd pv_5 c66 -- stop
      · refine j_iconst (v := 1) C dX5_module_69 (by decide) ?_
        refine j_goto C 85 dX5_module_70 (by decide) ?_
        exact bad 1 (Or.inl rfl) eG
    · have n5 : ∀ {ty : Bool}, ¬ (pv g1 a true ty).1 70 5 = 0 := fun {ty} => by rw [pv_5]; decide
      cases hcm : cmpR t n with
      | none => exact absurd hcm hc
      | some q =>
        rw [hcm] at hmd
        cases q with
        | none =>
          have ht : ty = false := hmd
          subst ht
          have eG : gMod ((n, t), (PG, pr), (lk, fl, ui), G4) = (1, 0, ((0, t), (PG, pr), (lk, 2, ui), G4)) := by unfold gMod; dsimp only; rw [hcm]
          refine k_aload_n C dX5_module_56 rfl ?_
          refine j_iconst (v := 0) C dX5_module_57 (by decide) ?_
          refine j_puti C fX5_110 rfl rfl (by first | decide | omega) (by first | assumption | rfl) dX5_module_58 ?_
          refine jeqh (show _ = pv g1 a true false from by rw [pv_put (by omega), eg1]) ?_
          refine k_aload_n C dX5_module_61 rfl ?_
          refine k_aload_n C dX5_module_62 rfl ?_
          refine j_geti C fX5_116 rfl (by first | decide | omega) (by first | assumption | rfl) dX5_module_63 ?_
          refine j_if_ne C 73 dX5_module_66 (by decide) (fun c66 => ?_) (fun c66 => ?_)
          · refine k_aload_n C dX5_module_73 rfl ?_
            refine j_geti C fX5_120 rfl (by first | decide | omega) (by first | assumption | rfl) dX5_module_74 ?_
            refine j_if_eq C 84 dX5_module_77 (by decide) (fun c77 => ?_) (fun c77 => ?_)
            · refine j_iconst (v := 2) C dX5_module_84 (by decide) ?_
              exact bad 2 (Or.inr rfl) eG
            · exact absurd pv_6 c77 -- stop
          · exact absurd (by first | exact c66 | exact Classical.not_not.mp c66) n5 -- stop
        | some z =>
          obtain ⟨ht, m2, m3, m4, m5⟩ := hmd
          subst ht
          have n6 : ¬ (pv g1 a true true).1 70 6 = 0 := by rw [pv_6]; decide
          have eG : gMod ((n, t), (PG, pr), (lk, fl, ui), G4) = (0, hdsM t n, ((0, t), (upF PG (hdsM t n) (hdsL t n, z.1, z.2), upF pr (hdsM t n) true), (false, 0, ui), G4)) := by unfold gMod; dsimp only; rw [hcm]
          obtain ⟨g2, eg2⟩ : ∃ g2 : jH, g2 = (up2 g1.1 70 35 0, g1.2) := ⟨_, rfl⟩
          obtain ⟨h9, eh9⟩ : ∃ h9 : jH, h9 = (up2 (pv g2 a true true).1 70 0 0, (pv g2 a true true).2) := ⟨_, rfl⟩
          have i35 : (pv g2 a true true).1 70 35 = 0 := by rw [pv_o (by omega), eg2]; dsimp only; rw [up2_s]
          have c2 : ∀ k j, ¬ (k = 70 ∧ (j = 0 ∨ j = 3 ∨ j = 4 ∨ j = 5 ∨ j = 6 ∨ j = 35)) → h9.1 k j = g.1 k j := fun k j z => by rw [eh9]; dsimp only; rw [up2_n (by omega), pv_o (by omega), eg2]; dsimp only; rw [up2_n (by omega)]; exact o1 k j (by omega)
          have r9 : h9.2.1 70 = rMap := by rw [eh9]; show g2.2.1 70 = _; rw [eg2]; exact r1
          have e92 : h9.2 = h.2 := by rw [eh9]; show g2.2 = _; rw [eg2, eg1]; exact (keepF g F).1
          have post : ∀ hA : jH, acP (hdsM t n) s h9 hA → ((some (Value.int (nI (hdsM t n))) : Option Value) = some (.int (nI (gMod ((n, t), (PG, pr), (lk, fl, ui), G4)).2.1)) ∧ (up2 hA.1 70 34 0, hA.2).1 70 0 = nI (gMod ((n, t), (PG, pr), (lk, fl, ui), G4)).1 ∧ RI sz (gMod ((n, t), (PG, pr), (lk, fl, ui), G4)).2.2 (up2 hA.1 70 34 0, hA.2) ∧ rF h (up2 hA.1 70 34 0, hA.2)) := by
            intro hA A
            have A' := A
            obtain ⟨A1, A2, A3, A4, A5, A6, A7, A8⟩ := A'
            have cA : ∀ j, j ≠ 34 → (up2 hA.1 70 34 0) 70 j = h9.1 70 j := fun j z => by rw [up2_n (by omega)]; exact A8 70 j (by omega) (by omega) (by omega) (by omega)
            rw [eG]
            refine ⟨rfl, ?_, ⟨?_, ?_, ?_, ?_⟩, ?_, ?_⟩
            · dsimp only; rw [cA 0 (by omega), eh9]; dsimp only; rw [up2_s]; rfl
            · dsimp only; rw [A1]; exact r9
            · refine ⟨?_, by dsimp only; omega, fun i hi => absurd hi (Nat.not_lt_zero _)⟩
              dsimp only; rw [cA 3 (by omega), eh9]; dsimp only; rw [up2_n (by omega), pv_o (by omega), eg2]; dsimp only; rw [up2_n (by omega), eg1]; dsimp only; rw [up2_s]; rfl
            · intro m' hm'
              by_cases cm : m' = hdsM t n
              · subst cm
                refine ⟨by dsimp only; rw [up2_n (by omega), A2]; simp [upF, bI], fun _ => ?_⟩
                have e8 : upF PG (hdsM t n) (hdsL t n, z.1, z.2) (hdsM t n) = (hdsL t n, z.1, z.2) := by simp [upF]
                dsimp only
                rw [e8]
                have hpu : puOk (hdsL t n, z.1, z.2) := pu_of hn (by rw [hcm])
                refine ⟨rU_keep hpu (h := hA) (fun k j u => by dsimp only; rw [up2_n (by omega)]) (rU_ac (t := t) (n := n) A (rIt_o NL (fun k j u1 u2 => c2 k j (by omega))) (hdK_hds 6 [] _ (fun j hj => absurd hj (Nat.not_lt_zero _))) m2 (rR_eq (fun k j u1 u2 => c2 k j (by omega)) m3) (fun j hj h0 => ?_)), hpu⟩
                obtain ⟨q1, q2, q3⟩ := m5 j hj h0
                exact ⟨by rw [c2 _ _ (by omega)]; exact q1, by rw [c2 _ _ (by omega)]; exact q2, q3⟩
              · have e8 : upF PG (hdsM t n) (hdsL t n, z.1, z.2) m' = PG m' := by simp [upF, cm]
                have e7 : upF pr (hdsM t n) true m' = pr m' := by simp [upF, cm]
                dsimp only
                rw [e8, e7]
                obtain ⟨x1, x2⟩ := hM m' hm'
                have cell : ∀ k j, (k = 72 ∧ j = m') ∨ (k = 73 ∧ j = m') ∨ (74 ≤ k ∧ k ≤ 81 ∧ k ≠ 78 ∧ 6 * m' ≤ j ∧ j < 6 * m' + 6) ∨ (k = 78 ∧ 18 * m' ≤ j ∧ j < 18 * m' + 18) ∨ (82 ≤ k ∧ k ≤ 84 ∧ 130 * m' ≤ j ∧ j < 130 * m' + 130) → (up2 hA.1 70 34 0) k j = h.1 k j := fun k j u => by
                  rw [up2_n (by omega), A8 k j (by omega) (by omega) (by omega) (by omega), c2 k j (by omega)]
                  exact keep g F k j (by omega)
                refine ⟨by rw [cell _ _ (by omega)]; exact x1, fun y => ?_⟩
                obtain ⟨x3, x4⟩ := x2 y
                exact ⟨rU_keep x4 (fun k j u => cell k j (by omega)) x3, x4⟩
            · have kO : ∀ j, (j = 1 ∨ (36 ≤ j ∧ j ≤ 37) ∨ (47 ≤ j ∧ j ≤ 50)) → (up2 hA.1 70 34 0) 70 j = h.1 70 j := fun j u => by rw [cA j (by omega), c2 70 j (by omega)]; exact keepO g F j (by omega)
              refine ⟨?_, a2, a3, ?_, ?_, ?_, ?_, ?_, ?_, ?_, ?_, true, ?_⟩
              · dsimp only; rw [kO 1 (by omega)]; exact a1
              · dsimp only; rw [up2_s]; rfl
              · dsimp only; rw [cA 35 (by omega), eh9]; dsimp only; rw [up2_n (by omega), i35]; rfl
              · dsimp only; rw [kO 36 (by omega)]; exact a6
              · dsimp only; rw [kO 37 (by omega)]; exact a7
              · dsimp only; rw [kO 49 (by omega)]; exact a8
              · dsimp only; rw [kO 50 (by omega)]; exact a9
              · dsimp only; rw [kO 48 (by omega)]; exact aA
              · dsimp only; rw [kO 47 (by omega)]; exact aB
              · dsimp only; rw [cA 6 (by omega), eh9]; dsimp only; rw [up2_n (by omega)]; exact pv_6
            · dsimp only; rw [A1]; exact e92
            · intro k j u
              dsimp only
              rw [up2_n (by omega), A8 k j (by omega) (by omega) (by omega) (by omega), c2 k j (by omega)]
              exact (keepF g F).2 k j u
          refine k_aload_n C dX5_module_56 rfl ?_
          refine j_iconst (v := 0) C dX5_module_57 (by decide) ?_
          refine j_puti C fX5_110 rfl rfl (by first | decide | omega) (by first | assumption | rfl) dX5_module_58 ?_
          refine jeqh (show _ = pv g1 a true true from by rw [pv_put (by omega), eg1]) ?_
          refine k_aload_n C dX5_module_61 rfl ?_
          refine k_aload_n C dX5_module_62 rfl ?_
          refine j_geti C fX5_116 rfl (by first | decide | omega) (by first | assumption | rfl) dX5_module_63 ?_
          refine j_if_ne C 73 dX5_module_66 (by decide) (fun c66 => ?_) (fun c66 => ?_)
          · refine k_aload_n C dX5_module_73 rfl ?_
            refine j_geti C fX5_120 rfl (by first | decide | omega) (by first | assumption | rfl) dX5_module_74 ?_
            refine j_if_eq C 84 dX5_module_77 (by decide) (fun c77 => ?_) (fun c77 => ?_)
            · exact absurd c77 n6 -- stop
            · refine j_iconst (v := 0) C dX5_module_80 (by decide) ?_
              refine j_goto C 85 dX5_module_81 (by decide) ?_
              refine j_puti C fX5_243 rfl rfl (by first | decide | omega) (by first | assumption | rfl) dX5_module_85 ?_
              refine jeqh (show _ = pv g2 a true true from by rw [pv_put (by omega), eg2]) ?_
              refine k_aload_n C dX5_module_88 rfl ?_
              refine j_geti C fX5_243 rfl (by first | decide | omega) (by first | assumption | rfl) dX5_module_89 ?_
              refine j_if_le C 101 dX5_module_92 (by decide) (fun c92 => ?_) (fun c92 => ?_)
              · refine k_aload_n C dX5_module_101 rfl ?_
                refine j_iconst (v := 0) C dX5_module_102 (by decide) ?_
                refine j_puti C fX5_103 rfl rfl (by first | decide | omega) (by first | assumption | rfl) dX5_module_103 ?_
                refine jeqh (show _ = h9 from eh9.symm) ?_
                refine k_aload_n C dX5_module_106 rfl ?_
                refine k_iload_n C dX5_module_107 rfl ?_
                refine k_callV (k := 70) (ci := 5) (As := [.int (nI (hdsM t n))]) C mX5_250 (r_accept hw r9 hm6 (by rw [c2 70 21 (by omega)]; exact h21) (by omega)) jCl5.1 (by first | decide | omega) (by first | assumption | rfl) rfl rfl (Nat.le_of_ble_eq_true rfl) (jroom hR (by first | decide | omega) (by decide)) dX5_module_108 ?_
                rintro v9 hA ⟨rfl, p9⟩
                refine k_aload_n C dX5_module_111 rfl ?_
                refine j_iconst (v := 0) C dX5_module_112 (by decide) ?_
                refine j_putz C fX5_253 rfl rfl (by first | decide | assumption) (by first | decide | omega) (by first | assumption | rfl) dX5_module_113 ?_
                refine k_iload_n C dX5_module_116 rfl ?_
                exact j_iret C hrt hE dX5_module_117 (post _ p9)
              · exact absurd (by rw [i35]; decide) c92 -- stop
          · exact absurd (by first | exact c66 | exact Classical.not_not.mp c66) n5 -- stop
  have h5 : ((up2 (up2 h.1 70 5 1) 70 4 0, h.2) : jH) = pv h 0 true b6 := by
    refine Prod.ext ?_ rfl
    funext x y
    simp only [pv, up2]
    by_cases q4 : x = 70 ∧ y = 4
    · simp [q4]; rfl
    · by_cases q5 : x = 70 ∧ y = 5
      · simp [q5]; rfl
      · by_cases q6 : x = 70 ∧ y = 6
        · simp [q6, aC]
        · simp [q4, q5, q6]
  show J X w h 0 [(0, .ref (jad w 70))] []
  by_cases hrg : 65 ≤ pek t n 0 ∧ pek t n 0 ≤ 70
  · have n5 : ∀ {g : jH} {a : Nat} {ty : Bool}, ¬ (pv g a true ty).1 70 5 = 0 := fun {g a ty} => by rw [pv_5]; decide
    have mid2 : ∀ (g1 : jH) (a1 : Nat) (ty1 : Bool), wF g0 g1 → cmpR t n ≠ none → rIt g1 6 (hdsL t n) → J X w (pv g1 a1 true ty1) 39 [(0, .ref (jad w 70)), (1, .int (nI (hdsM t n)))] [] := by
      intro g1 a1 ty1 F1 hc NL
      have r1 : g1.2.1 70 = rMap := by rw [F1.1]; exact r0
      have t1 : rtx g1 t n := rtx_keep (F1.2 70 3 (by omega)) (fun j => F1.2 71 j (by omega)) t0
      have hP : hdsP t n ≠ none := fun z => hc (cmp_hds z)
      have hdst : dst (hdsL t n) := hdL_dst 6 [] _ (fun i j hj => absurd hj (Nat.not_lt_zero _)) (fun z => hP (by unfold hdsP; rw [z]; split <;> rfl))
      have after : ∀ h9, (∃ (g' : jH) (a' : Nat) (gd' ty' : Bool) (s' : Nat), h9 = pv g' a' gd' ty' ∧ wF g1 g' ∧ g'.1 70 21 = nI s' ∧ ((gd' = false ∧ cmpR t n = none) ∨ (gd' = true ∧ cmpR t n ≠ none ∧ rIt g' 6 (hdsL t n) ∧ s' ≤ 120 ∧ (false = false → mdI g' (hdsL t n) s' ty' (cmpR t n))))) → J X w h9 56 [(0, .ref (jad w 70)), (1, .int (nI (hdsM t n)))] [] := by
        rintro h9 ⟨g', a', gd', ty', s', rfl, F2, i21, p9⟩
        refine fin g' a' gd' ty' s' (wF_tr F1 F2) i21 ?_
        rcases p9 with p9 | ⟨p1, p2, p3, p4, p5⟩
        · exact Or.inl p9
        · exact Or.inr ⟨p1, p2, p3, p4, p5 rfl⟩
      refine k_aload_n C dX5_module_39 rfl ?_
      refine j_iconst (v := 1) C dX5_module_40 (by decide) ?_
      refine j_putz C fX5_120 rfl rfl (by first | decide | assumption) (by first | decide | omega) (by first | assumption | rfl) dX5_module_41 ?_
      refine jeqh (show _ = pv g1 a1 true true from pv_ty (b := true)) ?_
      refine k_aload_n C dX5_module_44 rfl ?_
      refine j_geti C fX5_116 rfl (by first | decide | omega) (by first | assumption | rfl) dX5_module_45 ?_
      refine j_if_eq C 56 dX5_module_48 (by decide) (fun c48 => ?_) (fun c48 => ?_)
      · exact absurd c48 n5 -- stop
      · refine k_aload_n C dX5_module_51 rfl ?_
        refine j_iconst (v := 0) C dX5_module_52 (by decide) ?_
        refine k_callV (k := 70) (ci := 5) (As := [.int (bI false)]) C mX5_240 (r_items (dc := false) hw r1 t1 hrg NL (fun _ => ⟨rfl, hdst⟩)) jCl5.1 (by first | decide | omega) (by first | assumption | rfl) rfl rfl (Nat.le_of_ble_eq_true rfl) (jroom hR (by first | decide | omega) (by decide)) dX5_module_53 ?_
        rintro v9 h9 ⟨rfl, p9⟩
        exact after _ p9
    have mid1 : ∀ h9, (∃ (g' : jH) (a' : Nat) (gd' ty' : Bool) (s' : Nat), h9 = pv g' a' gd' ty' ∧ wF g0 g' ∧ g'.1 70 21 = nI s' ∧ ((gd' = false ∧ cmpR t n = none) ∨ (gd' = true ∧ cmpR t n ≠ none ∧ rIt g' 6 (hdsL t n) ∧ s' ≤ 120 ∧ (true = false → mdI g' (hdsL t n) s' ty' (cmpR t n))))) → J X w h9 39 [(0, .ref (jad w 70)), (1, .int (nI (hdsM t n)))] [] := by
      rintro h9 ⟨g', a', gd', ty', s', rfl, F2, i21, p9⟩
      rcases p9 with ⟨rfl, hc⟩ | ⟨rfl, p2, p3, p4, -⟩
      · skip
        refine k_aload_n C dX5_module_39 rfl ?_
        refine j_iconst (v := 1) C dX5_module_40 (by decide) ?_
        refine j_putz C fX5_120 rfl rfl (by first | decide | assumption) (by first | decide | omega) (by first | assumption | rfl) dX5_module_41 ?_
        refine jeqh (show _ = pv g' a' false true from pv_ty (b := true)) ?_
        refine k_aload_n C dX5_module_44 rfl ?_
        refine j_geti C fX5_116 rfl (by first | decide | omega) (by first | assumption | rfl) dX5_module_45 ?_
        refine j_if_eq C 56 dX5_module_48 (by decide) (fun c48 => ?_) (fun c48 => ?_)
        · exact fin g' a' false true s' F2 i21 (Or.inl ⟨rfl, hc⟩)
        · exact absurd pv_5 c48 -- stop
      · exact mid2 g' a' ty' F2 p2 p3
    refine k_aload_n C dX5_module_0 rfl ?_
    refine j_iconst (v := 1) C dX5_module_1 (by decide) ?_
    refine j_putz C fX5_116 rfl rfl (by first | decide | assumption) (by first | decide | omega) (by first | assumption | rfl) dX5_module_2 ?_
    refine k_aload_n C dX5_module_5 rfl ?_
    refine j_iconst (v := 0) C dX5_module_6 (by decide) ?_
    refine j_puti C fX5_113 rfl rfl (by first | decide | omega) (by first | assumption | rfl) dX5_module_7 ?_
    refine jeqh h5 ?_
    refine k_aload_n C dX5_module_10 rfl ?_
    refine j_getr C fX5_17 rfl (by first | decide | omega) (by first | assumption | rfl) (congrFun hr _) dX5_module_11 ?_
    refine j_bipush (v := 6) C dX5_module_14 (by decide) ?_
    refine j_iconst (v := 0) C dX5_module_16 (by decide) ?_
    refine j_iast C (by first | decide | omega) (by first | assumption | rfl) ((show (6 : Int32) = nI 6 from rfl)) ((by omega)) (by decide) dX5_module_17 ?_
    refine jeqh (show _ = pv g0 0 true b6 from by rw [pv_put (by omega), eg0]) ?_
    refine k_aload_n C dX5_module_18 rfl ?_
    refine j_bipush (v := 65) C dX5_module_19 (by decide) ?_
    refine j_bipush (v := 70) C dX5_module_21 (by decide) ?_
    refine k_callV (k := 70) (ci := 5) (As := [.int (nI 65), .int (nI 70)]) C mX5_165 (r_letter hw r0 t0 (by omega) (lo := 65) (hi := 70) (by decide) (by decide) (by decide)) jCl5.1 (by first | decide | omega) (by first | assumption | rfl) rfl rfl (Nat.le_of_ble_eq_true rfl) (jroom hR (by first | decide | omega) (by decide)) dX5_module_23 ?_
    rintro v9 h9 ⟨rfl, rfl⟩
    rw [hmV, decide_eq_true hrg]
    refine k_istore_n C dX5_module_26 (by rw [hnL]; decide) ?_
    refine k_aload_n C dX5_module_27 rfl ?_
    refine j_geti C fX5_116 rfl (by first | decide | omega) (by first | assumption | rfl) dX5_module_28 ?_
    refine j_if_eq C 39 dX5_module_31 (by decide) (fun c31 => ?_) (fun c31 => ?_)
    · exact absurd c31 n5 -- stop
    · refine k_aload_n C dX5_module_34 rfl ?_
      refine j_iconst (v := 1) C dX5_module_35 (by decide) ?_
      refine k_callV (k := 70) (ci := 5) (As := [.int (bI true)]) C mX5_240 (r_items (dc := true) hw r0 t0 hrg (rIt_nil (by rw [eg0]; dsimp only; rw [up2_s])) (fun z => by cases z)) jCl5.1 (by first | decide | omega) (by first | assumption | rfl) rfl rfl (Nat.le_of_ble_eq_true rfl) (jroom hR (by first | decide | omega) (by decide)) dX5_module_36 ?_
      rintro v9 h9 ⟨rfl, p9⟩
      exact mid1 _ p9
  · have hc : cmpR t n = none := by
      refine cmp_hds ?_
      unfold hdsP
      have : am t n 65 70 (some 0) = none := by unfold am pkO; simp only [Option.getD_some]; rw [if_neg hrg]
      rw [this, hdL_none]
      split <;> rfl
    have e21 : ∃ s, g0.1 70 21 = nI s := ⟨(g0.1 70 21).toBitVec.toNat, by show _ = nI _; exact (Int32.toBitVec_inj.mp (by simp [nI]))⟩
    obtain ⟨s0, hs0⟩ := e21
    refine k_aload_n C dX5_module_0 rfl ?_
    refine j_iconst (v := 1) C dX5_module_1 (by decide) ?_
    refine j_putz C fX5_116 rfl rfl (by first | decide | assumption) (by first | decide | omega) (by first | assumption | rfl) dX5_module_2 ?_
    refine k_aload_n C dX5_module_5 rfl ?_
    refine j_iconst (v := 0) C dX5_module_6 (by decide) ?_
    refine j_puti C fX5_113 rfl rfl (by first | decide | omega) (by first | assumption | rfl) dX5_module_7 ?_
    refine jeqh h5 ?_
    refine k_aload_n C dX5_module_10 rfl ?_
    refine j_getr C fX5_17 rfl (by first | decide | omega) (by first | assumption | rfl) (congrFun hr _) dX5_module_11 ?_
    refine j_bipush (v := 6) C dX5_module_14 (by decide) ?_
    refine j_iconst (v := 0) C dX5_module_16 (by decide) ?_
    refine j_iast C (by first | decide | omega) (by first | assumption | rfl) ((show (6 : Int32) = nI 6 from rfl)) ((by omega)) (by decide) dX5_module_17 ?_
    refine jeqh (show _ = pv g0 0 true b6 from by rw [pv_put (by omega), eg0]) ?_
    refine k_aload_n C dX5_module_18 rfl ?_
    refine j_bipush (v := 65) C dX5_module_19 (by decide) ?_
    refine j_bipush (v := 70) C dX5_module_21 (by decide) ?_
    refine k_callV (k := 70) (ci := 5) (As := [.int (nI 65), .int (nI 70)]) C mX5_165 (r_letter hw r0 t0 (by omega) (lo := 65) (hi := 70) (by decide) (by decide) (by decide)) jCl5.1 (by first | decide | omega) (by first | assumption | rfl) rfl rfl (Nat.le_of_ble_eq_true rfl) (jroom hR (by first | decide | omega) (by decide)) dX5_module_23 ?_
    rintro v9 h9 ⟨rfl, rfl⟩
    rw [hmV, decide_eq_false hrg, Bool.and_false]
    refine k_istore_n C dX5_module_26 (by rw [hnL]; decide) ?_
    refine k_aload_n C dX5_module_27 rfl ?_
    refine j_geti C fX5_116 rfl (by first | decide | omega) (by first | assumption | rfl) dX5_module_28 ?_
    refine j_if_eq C 39 dX5_module_31 (by decide) (fun c31 => ?_) (fun c31 => ?_)
    · refine k_aload_n C dX5_module_39 rfl ?_
      refine j_iconst (v := 1) C dX5_module_40 (by decide) ?_
      refine j_putz C fX5_120 rfl rfl (by first | decide | assumption) (by first | decide | omega) (by first | assumption | rfl) dX5_module_41 ?_
      refine jeqh (show _ = pv g0 1 false true from pv_ty (b := true)) ?_
      refine k_aload_n C dX5_module_44 rfl ?_
      refine j_geti C fX5_116 rfl (by first | decide | omega) (by first | assumption | rfl) dX5_module_45 ?_
      refine j_if_eq C 56 dX5_module_48 (by decide) (fun c48 => ?_) (fun c48 => ?_)
      · exact fin g0 1 false true s0 wF_rf hs0 (Or.inl ⟨rfl, hc⟩)
      · exact absurd pv_5 c48 -- stop
    · exact absurd pv_5 c31 -- stop
end XU
