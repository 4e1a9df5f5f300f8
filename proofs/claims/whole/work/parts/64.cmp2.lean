section CMP2
variable {l : Launch} {w : jW} {h h' g : jH} {u : Nat} {t : Nat → Nat} {n : Nat} {hs : List HD} {me i : Nat} {md : CR}
theorem hq_self (h2 : h.1 13 2 = nI 0) (h4 : h.1 13 4 = 0) : hq h n (some 0) = h := by
  refine Prod.ext ?_ rfl
  funext k j
  show up2 (up2 h.1 13 4 0) 13 2 (nI 0) k j = h.1 k j
  unfold up2
  split
  · next e => rw [e.1, e.2]; exact h2.symm
  · split
    · next e => rw [e.1, e.2]; exact h4.symm
    · rfl
theorem cF_b (hi : i < 6) (hu : u < 7) (H : cF u h g) (hB : bFr u i g h') : cF u h h' := by
  have := ub_in hu
  refine ⟨fun k j z => by rw [hB.1]; exact H.1 k j z, by rw [hB.1]; exact H.2.1, fun k j z1 z2 => ?_⟩
  rw [hB.2 k j (by omega) (by omega) (by omega) (by omega)]
  exact H.2.2 k j z1 z2
theorem bd_none : ∀ (l : List HD) (hs : List (Nat × Nat × Nat)), l.foldl (bdStep t n hs) none = none
  | [], _ => rfl
  | d :: l, hs => bd_none l hs
theorem hdK_hds : ∀ (f : Nat) (hs : List HD) (p : Option Nat), (∀ j (hj : j < hs.length), hdK n hs[j]) → ∀ j (hj : j < (hdL t n f hs p).1.length), hdK n (hdL t n f hs p).1[j]
  | 0, hs, p, h => h
  | f + 1, hs, p, h => by
    unfold hdL
    split
    · refine hdK_hds f _ _ (fun j hj => ?_)
      by_cases c : j < hs.length
      · rw [List.getElem_append_left c]; exact h j c
      · have c' : j = hs.length := by simp at hj; omega
        subst c'
        rw [List.getElem_concat_length rfl]
        exact hdK_D
    · exact h
theorem hdsM_lt : hdsM t n < 6 := by have := amV_le (t := t) (n := n) (lo := 65) (hi := 70) (p := some 0); unfold hdsM; omega
theorem c_compile (hw : jok w) (hu : ur h u) (hbuf : ∀ i, i < n → h.1 1 i = nI (t i) ∧ t i < 128) (hn : n ≤ 120) : jM l w yX0_compile cX0_compile 5 (some .int) 57 [.ref (jad w 13), .ref (jad w 1), .int (nI n), .ref (jad w (ub u))] h (fun r h' => r = some (.int (nI (cmpF t n))) ∧ cF u h h' ∧ ∀ ev br, cmpR t n = some (some (ev, br)) → cU h' u (hdsM t n) (hdsL t n) ev br) := by
  refine jM_of (by decide) hw (Nat.le_of_ble_eq_true rfl) ?_
  intro X C hl hR hnL hrt hE
  subst hl
  have C : jC X w cX0_compile RX0 := C
  obtain ⟨k3, k4, k5, k6, k7⟩ := jk_unit u hu.1
  have hub := ub_in hu.1
  have hok := hdK_hds (t := t) (n := n) 6 [] (am t n 65 70 (some 0)) (fun j hj => absurd hj (Nat.not_lt_zero _))
  change ∀ j (hj : j < (hdsL t n).length), hdK n (hdsL t n)[j] at hok
  show J X w h 0 [(0, .ref (jad w 13)), (1, .ref (jad w 1)), (2, .int (nI n)), (3, .ref (jad w (ub u)))] []
  have fin : ∀ (h2 : jH) (i : Nat) (md : CR), cInv h2 u t n (hdsL t n) (hdsM t n) i md → cmpR t n = md → (md = none ∨ i = (hdsL t n).length) → cF u h h2 → J X w h2 109 [(0, .ref (jad w 13)), (1, .ref (jad w 1)), (2, .int (nI n)), (3, .ref (jad w (ub u))), (4, .int (nI i))] [] := by
    intro h2 i md H e ho hF
    obtain ⟨h1, a2, a3, a4, a5, a6⟩ := H
    rcases md with _ | _ | z
    · have t4 := a2 rfl
      refine k_aload_n C dX0_compile_109 rfl ?_
      refine j_geti C fX0_34 rfl (by first | decide | omega) (by first | assumption | rfl) dX0_compile_110 ?_
      refine j_if_eq C 118 dX0_compile_113 (by decide) (fun c113 => ?_) (fun c113 => ?_)
      · rw [t4] at c113; exact absurd c113 (by decide) -- stop
      · refine j_iconst (v := 1) C dX0_compile_116 (by decide) ?_
        exact j_iret C hrt hE dX0_compile_117 (⟨by unfold cmpF; rw [e]; rfl, hF, fun ev br z => by rw [e] at z; cases z⟩)
    · have t4 := a3 (by simp)
      have t5 := (a5 rfl).1
      refine k_aload_n C dX0_compile_109 rfl ?_
      refine j_geti C fX0_34 rfl (by first | decide | omega) (by first | assumption | rfl) dX0_compile_110 ?_
      refine j_if_eq C 118 dX0_compile_113 (by decide) (fun c113 => ?_) (fun c113 => ?_)
      · refine k_aload_n C dX0_compile_118 rfl ?_
        refine j_geti C fX0_38 rfl (by first | decide | omega) (by first | assumption | rfl) dX0_compile_119 ?_
        refine j_if_eq C 129 dX0_compile_122 (by decide) (fun c122 => ?_) (fun c122 => ?_)
        · rw [t5] at c122; exact absurd c122 (by decide) -- stop
        · refine j_iconst (v := 2) C dX0_compile_125 (by decide) ?_
          refine j_goto C 130 dX0_compile_126 (by decide) ?_
          exact j_iret C hrt hE dX0_compile_130 (⟨by unfold cmpF; rw [e]; rfl, hF, fun ev br z => by rw [e] at z; cases z⟩)
      · exact absurd t4 c113 -- stop
    · have t4 := a3 (by simp)
      have t5 := (a6 z.1 z.2 rfl).1
      have hi : i = (hdsL t n).length := ho.resolve_left (by simp)
      have h6 : (hdsL t n).length ≤ 6 := by have := h1.2.2.2.2.2.2.1; simpa using this
      have key : ∀ ev br, cmpR t n = some (some (ev, br)) → cU h2 u (hdsM t n) (hdsL t n) ev br := by
        intro ev br ez
        rw [e] at ez
        simp only [Option.some.injEq] at ez
        subst ez
        obtain ⟨g1, g2, g3, g4, g5, g6⟩ := a6 ev br rfl
        refine ⟨hdsM_lt, h6, by rw [g4, hi], g3, h1.2.2.2.1, by have := h1.2.2.2.2.2.1; simpa using this, fun j hj => ?_, fun P hP hc => ⟨(g6 P hP hc).1, fun j hj e0 => (g6 P hP hc).2 j hj (by omega) e0⟩⟩
        have := h1.2.2.2.2.2.2.2 j (by simpa using hj)
        simp only [List.getElem_map, h3] at this
        exact ⟨this.1, this.2.1, this.2.2.1, (a4 j hj).1, (a4 j hj).2.1⟩
      refine k_aload_n C dX0_compile_109 rfl ?_
      refine j_geti C fX0_34 rfl (by first | decide | omega) (by first | assumption | rfl) dX0_compile_110 ?_
      refine j_if_eq C 118 dX0_compile_113 (by decide) (fun c113 => ?_) (fun c113 => ?_)
      · refine k_aload_n C dX0_compile_118 rfl ?_
        refine j_geti C fX0_38 rfl (by first | decide | omega) (by first | assumption | rfl) dX0_compile_119 ?_
        refine j_if_eq C 129 dX0_compile_122 (by decide) (fun c122 => ?_) (fun c122 => ?_)
        · refine j_iconst (v := 0) C dX0_compile_129 (by decide) ?_
          exact j_iret C hrt hE dX0_compile_130 (⟨by unfold cmpF; rw [e]; rfl, hF, fun ev br ez => key ev br ez⟩)
        · exact absurd t5 c122 -- stop
      · exact absurd t4 c113 -- stop
  have loop : ∀ (m : Nat) (h2 : jH) (i : Nat) (md : CR), i + m = (hdsL t n).length → cInv h2 u t n (hdsL t n) (hdsM t n) i md → cmpR t n = ((hdsL t n).drop i).foldl (bdStep t n ((hdsL t n).map h3)) md → cF u h h2 → J X w h2 53 [(0, .ref (jad w 13)), (1, .ref (jad w 1)), (2, .int (nI n)), (3, .ref (jad w (ub u))), (4, .int (nI i))] [] := by
    intro m
    induction m with
    | zero =>
      intro h2 i md hi H e hF
      have h6 : (hdsL t n).length ≤ 6 := by have := H.1.2.2.2.2.2.2.1; simpa using this
      have hcnt : h2.1 (ub u) 1 = nI (hdsL t n).length := by have := H.1.2.2.2.2.2.1; simpa using this
      refine k_iload C dX0_compile_53 rfl ?_
      refine k_aload_n C dX0_compile_55 rfl ?_
      refine j_getr C fX0_22 rfl (by first | decide | omega) (by first | assumption | rfl) (H.1.2.1) dX0_compile_56 ?_
      refine j_geti C fX0_26 rfl (by first | decide | omega) (by first | assumption | rfl) dX0_compile_59 ?_
      refine j_icmp_ge C 109 dX0_compile_62 (by decide) (fun c62 => ?_) (fun c62 => ?_)
      · exact fin h2 i md H (by rw [e, List.drop_eq_nil_of_le (by omega)]; rfl) (Or.inr (by omega)) hF
      · exact absurd (by rw [hcnt]; exact nI_le (a := (hdsL t n).length) (b := i) (by omega) (by omega)) c62 -- stop
    | succ m ih =>
      intro h2 i md hi H e hF
      have h6 : (hdsL t n).length ≤ 6 := by have := H.1.2.2.2.2.2.2.1; simpa using this
      have hcnt : h2.1 (ub u) 1 = nI (hdsL t n).length := by have := H.1.2.2.2.2.2.1; simpa using this
      have hil : i < (hdsL t n).length := by omega
      have k8 := k7 i (by omega)
      have hv8 := H.1.1.2.2.2 i (by omega)
      have hown : h2.1 (ub u + 3 + i) 0 = oI ((hdsL t n)[i]).1 := by have := (H.1.2.2.2.2.2.2.2 i (by simpa using hil)).1; simpa [h3] using this
      have hsig : h2.1 (ub u + 3 + i) 2 = nI ((hdsL t n)[i]).2.2.1 := by have := (H.1.2.2.2.2.2.2.2 i (by simpa using hil)).2.2.1; simpa [h3] using this
      have e2 : cmpR t n = ((hdsL t n).drop (i + 1)).foldl (bdStep t n ((hdsL t n).map h3)) (bdStep t n ((hdsL t n).map h3) md (hdsL t n)[i]) := by
        rw [e, List.drop_eq_getElem_cons hil]; rfl
      have hK := hok i hil
      refine k_iload C dX0_compile_53 rfl ?_
      refine k_aload_n C dX0_compile_55 rfl ?_
      refine j_getr C fX0_22 rfl (by first | decide | omega) (by first | assumption | rfl) (H.1.2.1) dX0_compile_56 ?_
      refine j_geti C fX0_26 rfl (by first | decide | omega) (by first | assumption | rfl) dX0_compile_59 ?_
      refine j_icmp_ge C 109 dX0_compile_62 (by decide) (fun c62 => ?_) (fun c62 => ?_)
      · exact absurd c62 (by rw [hcnt]; exact nI_ge (a := i) (b := (hdsL t n).length) (by omega) (by omega)) -- stop
      · refine k_aload_n C dX0_compile_65 rfl ?_
        refine j_geti C fX0_34 rfl (by first | decide | omega) (by first | assumption | rfl) dX0_compile_66 ?_
        refine j_if_ne C 109 dX0_compile_69 (by decide) (fun c69 => ?_) (fun c69 => ?_)
        · have hmd : md = none := Classical.byContradiction fun z => c69 (H.2.2.1 z)
          exact fin h2 i md H (by rw [e, hmd, bd_none]) (Or.inl hmd) hF
        · have hmd : md ≠ none := fun z => absurd ((H.2.1 z).symm.trans c69) (by decide)
          refine k_aload_n C dX0_compile_72 rfl ?_
          refine j_getr C fX0_22 rfl (by first | decide | omega) (by first | assumption | rfl) (H.1.2.1) dX0_compile_73 ?_
          refine j_getr C fX0_44 rfl (by first | decide | omega) (by first | assumption | rfl) (H.1.1.2.1) dX0_compile_76 ?_
          refine k_iload C dX0_compile_79 rfl ?_
          refine j_aald C (t := 4) (by decide) rfl (by first | decide | omega) (by first | assumption | rfl) (rfl) ((by omega)) (by decide) (hv8) dX0_compile_81 ?_
          refine j_geti C fX0_48 rfl (by first | decide | omega) (by first | assumption | rfl) dX0_compile_82 ?_
          refine j_iconst (v := -1) C dX0_compile_85 (by decide) ?_
          refine j_icmp_ne C 103 dX0_compile_86 (by decide) (fun c86 => ?_) (fun c86 => ?_)
          · replace c86 : ¬ ((hdsL t n)[i]).1 = 0 := fun z => c86 (by rw [hown, z]; exact oI_0)
            refine k_iinc C dX0_compile_103 rfl rfl (by rw [hnL]; decide) ?_
            refine j_goto C 53 dX0_compile_106 (by decide) ?_
            rw [show nI i + Int32.ofInt 1 = nI (i + 1) from nI_1 i]
            exact ih h2 (i + 1) _ (by omega) (cInv_imp hil c86 H) e2 hF
          · replace c86 : ((hdsL t n)[i]).1 = 0 := (oI_eq (by have := hK.1; omega) (by omega)).mp (by rw [← hown, oI_0]; exact c86)
            refine k_aload_n C dX0_compile_89 rfl ?_
            refine k_aload_n C dX0_compile_90 rfl ?_
            refine j_getr C fX0_22 rfl (by first | decide | omega) (by first | assumption | rfl) (H.1.2.1) dX0_compile_91 ?_
            refine j_getr C fX0_44 rfl (by first | decide | omega) (by first | assumption | rfl) (H.1.1.2.1) dX0_compile_94 ?_
            refine k_iload C dX0_compile_97 rfl ?_
            refine j_aald C (t := 4) (by decide) rfl (by first | decide | omega) (by first | assumption | rfl) (rfl) ((by omega)) (by decide) (hv8) dX0_compile_99 ?_
            have hst := (H.2.2.2.1 i hil).2.2 (Nat.le_refl _) c86
            have hh : hsok ((hdsL t n).map h3) := by
              intro q hq
              obtain ⟨d, hd1, rfl⟩ := List.mem_map.mp hq
              obtain ⟨j, hj, rfl⟩ := List.mem_iff_getElem.mp hd1
              exact (hok j hj).2.2.2.2.1
            have hex : ∃ (c : Nat) (bs : Nat), h2.1 (ub u) 3 = nI c ∧ c ≤ 240 ∧ (h2.1 13 5 = 0 ∨ h2.1 13 5 = 1) ∧ (∀ z, md = some (some z) → c = cpos z.1 ∧ bs = z.1.length) ∧ (md = some none → bs = 0) ∧ (h2.1 13 5 = 0 → c ≤ 2 * ((hdsL t n)[i]).2.2.2.2) := by
              rcases md with _ | _ | z
              · exact absurd rfl hmd
              · obtain ⟨y1, c, y2, y3⟩ := H.2.2.2.2.1 rfl
                exact ⟨c, 0, y3, y2, Or.inr y1, (fun z e => by cases e), fun _ => rfl, fun e => by rw [y1] at e; cases e⟩
              · obtain ⟨g1, g2, g3, g4, ⟨lim, g5, g6, g7⟩, g8⟩ := H.2.2.2.2.2 z.1 z.2 rfl
                refine ⟨cpos z.1, z.1.length, g2, g3, Or.inl g1, (fun z' e => by cases e; exact ⟨rfl, rfl⟩), (fun e => by cases e), fun _ => ?_⟩
                have := g7 i hil (Nat.le_refl _) c86
                omega
            obtain ⟨c, bs, x1, x2, x3, x4, x5, x6⟩ := hex
            refine k_callV (k := 13) (ci := 0) (As := [.ref (jad w (ub u + 3 + i))]) C mX0_53 (c_readBody (bs := bs) (sg := ((hdsL t n)[i]).2.2.1) (c := c) (F := h2.1 (ub u + 2)) hw H.1 hK.2.2.2.1 hh (by omega) hsig hK.2.2.1 hst hK.2.2.2.2.2.2 (H.2.2.1 hmd) rfl x3 x1 x2 x6 rfl) jCl0.1 (by decide) rfl rfl rfl (Nat.le_of_ble_eq_true rfl) (jroom hR (by decide) (by decide)) dX0_compile_100 ?_
            rintro v9 h9 ⟨rfl, hB, md', hrel, hH⟩
            have H' := cInv_def (md' := md') hil h6 hok (fun j hj hij e0 => hds_sko.1 i j hj hij c86 e0) c86 hmd H rfl x1 x2 (fun z e => (x4 z e).1) rfl hB (fun z e => by rw [← (x4 z e).2]; exact hrel) (fun e => by rw [x5 e] at hrel; exact hrel) hH
            refine k_iinc C dX0_compile_103 rfl rfl (by rw [hnL]; decide) ?_
            refine j_goto C 53 dX0_compile_106 (by decide) ?_
            rw [show nI i + Int32.ofInt 1 = nI (i + 1) from nI_1 i]
            exact ih h9 (i + 1) _ (by omega) H' e2 (cF_b (by omega) hu.1 hF hB)
  refine k_aload_n C dX0_compile_0 rfl ?_
  refine k_aload_n C dX0_compile_1 rfl ?_
  refine j_putr C fX0_9 rfl rfl (by first | decide | omega) (by first | assumption | rfl) (fun _ => ⟨rfl, rfl⟩) dX0_compile_2 ?_
  refine k_aload_n C dX0_compile_5 rfl ?_
  refine k_iload_n C dX0_compile_6 rfl ?_
  refine j_puti C fX0_15 rfl rfl (by first | decide | omega) (by first | assumption | rfl) dX0_compile_7 ?_
  refine k_aload_n C dX0_compile_10 rfl ?_
  refine j_iconst (v := 0) C dX0_compile_11 (by decide) ?_
  refine j_puti C fX0_19 rfl rfl (by first | decide | omega) (by first | assumption | rfl) dX0_compile_12 ?_
  refine k_aload_n C dX0_compile_15 rfl ?_
  refine k_aload_n C dX0_compile_16 rfl ?_
  refine j_putr C fX0_22 rfl rfl (by first | decide | omega) (by first | assumption | rfl) (fun _ => ⟨rfl, rfl⟩) dX0_compile_17 ?_
  refine k_aload_n C dX0_compile_20 rfl ?_
  refine j_getr C fX0_22 rfl (by first | decide | omega) (by first | assumption | rfl) (show up2 (up2 h.2.1 13 0 (some 1)) 13 3 (some (ub u)) 13 3 = some (ub u) from up2_s) dX0_compile_21 ?_
  refine j_iconst (v := 0) C dX0_compile_24 (by decide) ?_
  refine j_puti C fX0_26 rfl rfl (by first | decide | omega) (by first | assumption | rfl) dX0_compile_25 ?_
  refine k_aload_n C dX0_compile_28 rfl ?_
  refine j_getr C fX0_22 rfl (by first | decide | omega) (by first | assumption | rfl) (show up2 (up2 h.2.1 13 0 (some 1)) 13 3 (some (ub u)) 13 3 = some (ub u) from up2_s) dX0_compile_29 ?_
  refine j_iconst (v := 0) C dX0_compile_32 (by decide) ?_
  refine j_puti C fX0_31 rfl rfl (by first | decide | omega) (by first | assumption | rfl) dX0_compile_33 ?_
  refine k_aload_n C dX0_compile_36 rfl ?_
  refine j_iconst (v := 0) C dX0_compile_37 (by decide) ?_
  refine j_putz C fX0_34 rfl rfl (by first | decide | assumption) (by first | decide | omega) (by first | assumption | rfl) dX0_compile_38 ?_
  refine k_aload_n C dX0_compile_41 rfl ?_
  refine j_iconst (v := 0) C dX0_compile_42 (by decide) ?_
  refine j_putz C fX0_38 rfl rfl (by first | decide | assumption) (by first | decide | omega) (by first | assumption | rfl) dX0_compile_43 ?_
  obtain ⟨h1, eh1⟩ : ∃ h1 : jH, h1 = (up2 (up2 (up2 (up2 (up2 (up2 h.1 13 1 (nI n)) 13 2 0) (ub u) 1 0) (ub u) 3 0) 13 4 0) 13 5 0, up2 (up2 h.2.1 13 0 (some 1)) 13 3 (some (ub u)), h.2.2) := ⟨_, rfl⟩
  refine jeqh eh1.symm ?_
  have z13 : ¬ (ub u = 13) := by omega
  have z13' : ¬ (13 = ub u) := by omega
  have b1 : h1.1 13 1 = nI n := by rw [eh1]; simp [up2, z13']
  have b2 : h1.1 13 2 = nI 0 := by rw [eh1]; simp [up2, z13']; rfl
  have b4 : h1.1 13 4 = 0 := by rw [eh1]; simp [up2]
  have b5 : h1.1 13 5 = 0 := by rw [eh1]; simp [up2]
  have b6 : h1.1 (ub u) 1 = nI 0 := by rw [eh1]; simp [up2, z13]; rfl
  have b7 : h1.1 (ub u) 3 = nI 0 := by rw [eh1]; simp [up2, z13]; rfl
  have b8 : ∀ k j, k ≠ 13 → k ≠ ub u → h1.1 k j = h.1 k j := fun k j q1 q2 => by rw [eh1]; simp [up2, q1, q2]
  have b9 : h1.2.1 13 0 = some 1 := by rw [eh1]; simp [up2]
  have bA : h1.2.1 13 3 = some (ub u) := by rw [eh1]; simp [up2]
  have bB : ∀ k j, ¬ (k = 13 ∧ (j = 0 ∨ j = 3)) → h1.2.1 k j = h.2.1 k j := fun k j q => by rw [eh1]; show up2 (up2 h.2.1 13 0 _) 13 3 _ k j = _; rw [up2_n (by omega), up2_n (by omega)]
  have bC : h1.2.2 = h.2.2 := by rw [eh1]
  clear eh1
  have ht : tx h1 t n := ⟨b9, b1, hn, fun i hi => by rw [b8 1 i (by omega) (by omega)]; exact hbuf i hi⟩
  have hu1 : ur h1 u := ⟨hu.1, by rw [bB _ _ (by omega)]; exact hu.2.1, by rw [bB _ _ (by omega)]; exact hu.2.2.1, fun i hi => by rw [bB _ _ (by omega)]; exact hu.2.2.2 i hi⟩
  refine jeqh (hq_self (n := n) b2 b4).symm ?_
  refine k_aload_n C dX0_compile_46 rfl ?_
  refine k_callV (k := 13) (ci := 0) (As := []) C mX0_41 (u_readHeads hw hu1 bA ht b6) jCl0.1 (by decide) rfl rfl rfl (Nat.le_of_ble_eq_true rfl) (jroom hR (by decide) (by decide)) dX0_compile_47 ?_
  rintro v9 h9 ⟨rfl, g2, rfl, hF2, q0, q1, q6, hI⟩
  refine j_iconst (v := nI 0) C dX0_compile_50 (by decide) ?_
  refine k_istore C dX0_compile_51 (by rw [hnL]; decide) ?_
  have hu2 : ur (hq g2 n (hdsP t n)) u := by have := hu1; unfold ur at this ⊢; rw [hq_2, hF2.1]; exact this
  refine loop (hdsL t n).length _ 0 (if hdsP t n = none then none else some (some ([], []))) (by omega) ⟨⟨hu2, by rw [hq_2, hF2.1]; exact bA, hq_tx (hsF_tx hu.1 hF2 ht), by rw [hq_o (by omega)]; exact q0, hdsM_lt, by rw [hq_o (by omega)]; simpa using q1, by simpa using q6, fun j hj => ?_⟩, ?_, ?_, fun j hj => ?_, ?_, ?_⟩ ?_ ⟨fun k j z => by rw [hq_2, hF2.1]; exact bB k j z, by rw [hq_2, hF2.1]; exact bC, fun k j z1 z2 => by rw [hq_o (by omega), hF2.2 k j (by omega) (by omega)]; exact b8 k j z1 (by omega)⟩
  · have hj' : j < (hdsL t n).length := by simpa using hj
    have := hI j hj'
    simp only [List.getElem_map, h3]
    rw [hq_o (by omega), hq_o (by omega), hq_o (by omega)]
    exact ⟨this.1.1, this.1.2.1, this.1.2.2.1, this.2.1, this.2.2.1, this.2.2.2.1⟩
  · intro z
    have : hdsP t n = none := Classical.byContradiction fun y => by rw [if_neg y] at z; cases z
    rw [this]; simp [hq, hv, up2]
  · intro z
    cases e : hdsP t n with
    | none => rw [if_pos e] at z; exact absurd rfl z
    | some a => simp [hq, hv, up2]
  · rw [hq_o (by omega), hq_o (by omega), hq_o (by omega)]
    exact ⟨(hI j hj).1.2.2.2.1, (hI j hj).1.2.2.2.2.1, fun _ e => (hI j hj).1.2.2.2.2.2 e⟩
  · intro z; split at z <;> cases z
  · intro ev br z
    split at z
    · cases z
    · simp only [Option.some.injEq, Prod.mk.injEq] at z
      obtain ⟨rfl, rfl⟩ := z
      refine ⟨by rw [hq_o (by omega), hF2.2 13 5 (by omega) (by omega)]; exact b5, by rw [hq_o (by omega), hF2.2 (ub u) 3 (by omega) (by omega)]; exact b7, by simp [cpos], rfl, ⟨0, Nat.zero_le _, by simp [cpos], fun _ _ _ _ => Nat.zero_le _⟩, fun P hP hc => ⟨trivial, fun j hj hj0 => absurd hj0 (Nat.not_lt_zero _)⟩⟩
  · unfold cmpR
    split
    · rw [bd_none]
    · rfl
end CMP2
