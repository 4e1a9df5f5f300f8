/-- what stays while the bodies of a unit are read, whatever the definition's signature -/
def bS (h : jH) (u : Nat) (t : Nat → Nat) (n : Nat) (hs : List (Nat × Nat × Nat)) (me : Nat) : Prop := ur h u ∧ h.2.1 13 3 = some (ub u) ∧ tx h t n ∧ h.1 (ub u) 0 = nI me ∧ me < 6 ∧ h.1 (ub u) 1 = nI hs.length ∧ hs.length ≤ 6 ∧ (∀ i (hi : i < hs.length), h.1 (ub u + 3 + i) 0 = oI (hs[i]).1 ∧ h.1 (ub u + 3 + i) 1 = nI (hs[i]).2.1 ∧ h.1 (ub u + 3 + i) 2 = nI (hs[i]).2.2 ∧ (hs[i]).1 ≤ 6 ∧ (hs[i]).2.1 < 26 ∧ (hs[i]).2.2 < 256)
/-- what a body may change: the compiler's numbers, the code, the item's start and room -/
def bFr (u i : Nat) (h h' : jH) : Prop := h'.2 = h.2 ∧ ∀ k j, ¬ (k = 13 ∧ (j = 2 ∨ j = 4 ∨ j = 5 ∨ j = 6 ∨ j = 7 ∨ j = 8)) → ¬ (k = ub u ∧ j = 3) → k ≠ ub u + 2 → ¬ (k = ub u + 3 + i ∧ (j = 5 ∨ j = 6)) → h'.1 k j = h.1 k j
/-- the end of a body: a semicolon or the text's end -/
def eob (t : Nat → Nat) (n a : Nat) : Prop := pek t n a = 0 ∨ pek t n a = 59
section BOD
variable {l : Launch} {w : jW} {h0 h : jH} {u : Nat} {t : Nat → Nat} {n : Nat} {hs : List (Nat × Nat × Nat)} {me sg bs : Nat} {a a' : Nat} {md md' : cMd}
theorem bS_keep {i : Nat} {h' : jH} (hi : i < 6) (hF : bFr u i h h') (hB : bS h u t n hs me) : bS h' u t n hs me := by
  obtain ⟨s1, s2, s3, s4, s5, s6, s7, s8⟩ := hB
  have hb := ub_in s1.1
  obtain ⟨e, k⟩ := hF
  refine ⟨?_, by rw [e]; exact s2, ?_, by rw [k (ub u) 0 (by omega) (by omega) (by omega) (by omega)]; exact s4, s5, by rw [k (ub u) 1 (by omega) (by omega) (by omega) (by omega)]; exact s6, s7, fun j hj => ?_⟩
  · unfold ur at s1 ⊢; rw [e]; exact s1
  · obtain ⟨h1, h2, h3, h4⟩ := s3
    refine ⟨by rw [e]; exact h1, by rw [k 13 1 (by omega) (by omega) (by omega) (by omega)]; exact h2, h3, fun p hp => ?_⟩
    rw [k 1 p (by omega) (by omega) (by omega) (by omega)]; exact h4 p hp
  · rw [k (ub u + 3 + j) 0 (by omega) (by omega) (by omega) (by omega), k (ub u + 3 + j) 1 (by omega) (by omega) (by omega) (by omega), k (ub u + 3 + j) 2 (by omega) (by omega) (by omega) (by omega)]
    exact s8 j hj
theorem cS_of (hB : bS h u t n hs me) (h6 : h.1 13 6 = nI sg) (hsg : sg < 256) : cS h u t n hs me sg := by
  obtain ⟨s1, s2, s3, s4, s5, s6, s7, s8⟩ := hB
  exact ⟨s1, s2, s3, s4, s5, s6, s7, s8, h6, hsg⟩
/-- a body, read: the mode behind it -/
def bRel (t : Nat → Nat) (n me bs s0 : Nat) (md : cMd) (pr : PR) (md' : cMd) : Prop := match pr with
  | none => md' = none
  | some p => (¬ eob t n p.1 → md' = none) ∧ (eob t n p.1 → match md with
    | none => md' = none
    | some none => md' = some none
    | some (some q) => match p.2 bs q.2.1 with
      | none => md' = some none
      | some z => if z.1 = s0 then ∃ F' : Nat → Int32, md' = some (some (q.1 + cpos (z.2.1 ++ [(14, 0, q.2.1, z.1)]), q.2.1, max q.2.2.1 z.2.2, F')) ∧ (∀ p, p < q.1 → F' p = q.2.2.2 p) ∧ ∀ P : Nat → Nat, P bs = q.1 → cmp P bs (z.2.1 ++ [(14, 0, q.2.1, z.1)]) → Rep F' me P bs (z.2.1 ++ [(14, 0, q.2.1, z.1)]) else md' = some none)
theorem bodRel {pr : PR} {a1 s0 : Nat} {md1 : cMd} {x : Int32} (hn : n ≤ 120) (hs0 : s0 ≤ 3) (hy : ∀ f, pr = some (a1, f) → ∀ hd y e m, f bs hd = some (y, e, m) → y = 1 ∨ y = 2) (hb1 : cBe a1 md1) (ha1 : a1 ≤ n) (hm : md ≠ none) (h : cRel me bs md pr a1 md1 (some (.int x))) :
    (eob t n a1 → bRel t n me bs s0 md pr (oEm (nI 13) (nI 0) (oNd (nI s0) x md1))) ∧ (¬ eob t n a1 → bRel t n me bs s0 md pr none) := by
  rcases cRel_cases hm h with ⟨rfl, rfl⟩ | ⟨f, rfl, rfl, e2⟩ | ⟨f, q, y, e, m, F', rfl, rfl, e3, e4, rfl, e6, e7⟩
  · exact ⟨fun _ => rfl, fun _ => rfl⟩
  · refine ⟨fun he => ⟨fun z => absurd he z, fun _ => ?_⟩, fun he => ⟨fun _ => rfl, fun z => absurd z he⟩⟩
    rcases md with _ | _ | q
    · exact absurd rfl hm
    · show oEm _ _ (oNd _ _ (some none)) = some none
      rw [oNd_bad]; rfl
    · show (match f bs q.2.1 with
        | none => oEm (nI 13) (nI 0) (oNd (nI s0) x (some none)) = some none
        | some z => _)
      rw [e2 q rfl, oNd_bad]; rfl
  · refine ⟨fun he => ⟨fun z => absurd he z, fun _ => ?_⟩, fun he => ⟨fun _ => rfl, fun z => absurd z he⟩⟩
    have hx : x = nI y := by simpa using e4
    subst hx
    have hy' := hy f rfl _ _ _ _ e3
    have b := hb1 _ rfl
    dsimp only at b
    show (match f bs q.2.1 with
      | none => _
      | some z => if z.1 = s0 then ∃ G : Nat → Int32, oEm (nI 13) (nI 0) (oNd (nI s0) (nI y) (some (some (q.1 + cpos e, q.2.1, max q.2.2.1 m, F')))) = some (some (q.1 + cpos (z.2.1 ++ [(14, 0, q.2.1, z.1)]), q.2.1, max q.2.2.1 z.2.2, G)) ∧ (∀ p, p < q.1 → G p = q.2.2.2 p) ∧ ∀ P : Nat → Nat, P bs = q.1 → cmp P bs (z.2.1 ++ [(14, 0, q.2.1, z.1)]) → Rep G me P bs (z.2.1 ++ [(14, 0, q.2.1, z.1)]) else oEm (nI 13) (nI 0) (oNd (nI s0) (nI y) (some (some (q.1 + cpos e, q.2.1, max q.2.2.1 m, F')))) = some none)
    rw [e3]
    show (if y = s0 then _ else _)
    by_cases hz : y = s0
    · rw [if_pos hz]
      subst hz
      rw [oNd_t rfl]
      refine ⟨emF (q.1 + cpos e) F' (nI 13) (nI 0), ?_, fun p hp => by rw [emF_low (by omega), e6 p hp], fun P hP hc => ?_⟩
      · simp only [oEm, Option.some.injEq, Prod.mk.injEq]
        refine ⟨?_, trivial⟩
        rw [emC_lt (by omega)]
        simp only [cpos_app, cpos, kcl]
        simp
        omega
      · dsimp only at hc ⊢
        rw [cmp_app] at hc
        have p1 := cmp_end e bs hc.1
        rw [Rep_app]
        refine ⟨Rep_low (c := q.1 + cpos e) (by omega) hc.1 (fun p hp => emF_low hp) (e7 P hP hc.1), ?_⟩
        exact rep_emit (by omega) (by omega) (by omega) (by omega) rfl
    · rw [if_neg hz, oNd_b2 (fun z => hz ((nI_eq (by omega) (by omega)).mp z).symm)]
      rfl
/-- the mode in which a body begins -/
def bMd (yw : Int32) (c : Nat) (F : Nat → Int32) : cMd := if yw = 0 then some (some (c, 0, 0, F)) else some none
theorem bMd_at {st c : Nat} {yw : Int32} {F : Nat → Int32} (hc : cst h0 h u st 0 yw 0 0 c F) (hyw : yw = 0 ∨ yw = 1) (hsn : st ≤ n) (hc2 : c ≤ 240) : cAt h0 h u n st (bMd yw c F) := by
  unfold bMd
  rcases hyw with rfl | rfl
  · rw [if_pos rfl]; exact ⟨hsn, hc2, hc⟩
  · rw [if_neg (by decide)]; exact ⟨hsn, 0, 0, c, F, hc2, hc⟩
theorem bMd_bd {st c : Nat} {yw : Int32} {F : Nat → Int32} (hc : yw = 0 → c ≤ 2 * st) : cBd st (bMd yw c F) := by
  intro q hq
  unfold bMd at hq
  split at hq
  · next z => cases hq; exact ⟨hc z, Nat.zero_le _, Nat.zero_le _⟩
  · cases hq
/-- what stands behind a body in the heap -/
def bodH (u i c : Nat) (h' : jH) (md' : cMd) : Prop := (md' = none → h'.1 13 4 = 1) ∧ (md' ≠ none → h'.1 13 4 = 0) ∧ (md' = some none → h'.1 13 5 = 1 ∧ ∃ c', c' ≤ 240 ∧ h'.1 (ub u) 3 = nI c') ∧ (∀ q, md' = some (some q) → h'.1 13 5 = 0 ∧ h'.1 (ub u) 3 = nI q.1 ∧ q.1 ≤ 240 ∧ h'.1 (ub u + 2) = q.2.2.2 ∧ h'.1 (ub u + 3 + i) 5 = nI c ∧ h'.1 (ub u + 3 + i) 6 = nI q.2.2.1)
theorem bod_end {h1 : jH} {i c : Nat} (hu : u < 7) (hi : i < 6) (hF1 : bFr u i h h1) (g5 : h1.1 (ub u + 3 + i) 5 = nI c) (hc : cAt h1 h0 u n a md) : bFr u i h (up2 h0.1 (ub u + 3 + i) 6 (h0.1 13 8), h0.2) ∧ bodH u i c (up2 h0.1 (ub u + 3 + i) 6 (h0.1 13 8), h0.2) md := by
  have hub := ub_in hu
  have hFr : Fr u h1 h0 := by
    obtain ⟨_, _, _, _, _, _, _, h2⟩ := cAt_any hc
    exact h2.1
  refine ⟨⟨hFr.1.trans hF1.1, fun k j q1 q2 q3 q4 => ?_⟩, ?_, ?_, ?_, ?_⟩
  · show up2 h0.1 (ub u + 3 + i) 6 _ k j = _
    rw [up2_n (by omega), hFr.2 k j (by omega) (by omega) q3, hF1.2 k j q1 q2 q3 q4]
  · intro e
    subst e
    show up2 h0.1 (ub u + 3 + i) 6 _ 13 4 = 1
    rw [up2_n (by omega)]
    obtain ⟨-, -, _, _, _, _, _, _, h2⟩ := hc
    exact h2.2.2.1
  · intro e
    show up2 h0.1 (ub u + 3 + i) 6 _ 13 4 = 0
    rw [up2_n (by omega)]
    rcases md with _ | _ | q
    · exact absurd rfl e
    · obtain ⟨-, _, _, _, _, _, h2⟩ := hc
      exact h2.2.2.1
    · obtain ⟨-, _, h2⟩ := hc
      exact h2.2.2.1
  · intro e
    subst e
    obtain ⟨-, _, _, c9, _, hc9, h2⟩ := hc
    refine ⟨?_, c9, hc9, ?_⟩
    · show up2 h0.1 (ub u + 3 + i) 6 _ 13 5 = 1
      rw [up2_n (by omega)]; exact h2.2.2.2.1
    · show up2 h0.1 (ub u + 3 + i) 6 _ (ub u) 3 = _
      rw [up2_n (by omega)]; exact h2.2.2.2.2.2.2.1
  · intro q e
    subst e
    obtain ⟨-, hc9, h2⟩ := hc
    refine ⟨?_, ?_, hc9, ?_, ?_, ?_⟩
    · show up2 h0.1 (ub u + 3 + i) 6 _ 13 5 = 0
      rw [up2_n (by omega)]; exact h2.2.2.2.1
    · show up2 h0.1 (ub u + 3 + i) 6 _ (ub u) 3 = _
      rw [up2_n (by omega)]; exact h2.2.2.2.2.2.2.1
    · show up2 h0.1 (ub u + 3 + i) 6 _ (ub u + 2) = _
      rw [up2_o (by omega)]; exact h2.2.2.2.2.2.2.2
    · show up2 h0.1 (ub u + 3 + i) 6 _ (ub u + 3 + i) 5 = _
      rw [up2_n (by omega), hFr.2 _ _ (by omega) (by omega) (by omega)]; exact g5
    · show up2 h0.1 (ub u + 3 + i) 6 _ (ub u + 3 + i) 6 = _
      rw [up2_s]; exact h2.2.2.2.2.2.1
theorem c_readBody (hw : jok w) (hB : bS h u t n hs me) (hsg3 : ∀ k, ta sg k ≠ 3) (hh : hsok hs) {i st c : Nat} {yw : Int32} {F : Nat → Int32} (hi : i < 6) (hsi : h.1 (ub u + 3 + i) 2 = nI sg) (hsg : sg < 256) (hst : h.1 (ub u + 3 + i) 5 = nI st) (hsn : st ≤ n) (h4 : h.1 13 4 = 0) (h5 : h.1 13 5 = yw) (hyw : yw = 0 ∨ yw = 1) (hcl : h.1 (ub u) 3 = nI c) (hc2 : c ≤ 240) (hc3 : yw = 0 → c ≤ 2 * st) (hF : h.1 (ub u + 2) = F) :
    jM l w yX0_readBody cX0_readBody 2 none 56 [.ref (jad w 13), .ref (jad w (ub u + 3 + i))] h (fun r h' => r = none ∧ bFr u i h h' ∧ ∃ md', bRel t n me bs (ta sg 0) (bMd yw c F) (pE t n hs sg 8 st) md' ∧ bodH u i c h' md') := by
  refine jM_of (by decide) hw (Nat.le_of_ble_eq_true rfl) ?_
  intro X C hl hR hnL hrt hE
  subst hl
  have C : jC X w cX0_readBody RX0 := C
  obtain ⟨k3, k4, k5, k6, k7⟩ := jk_unit u hB.1.1
  have k8 := k7 i hi
  have hub := ub_in hB.1.1
  have hn : n ≤ 120 := hB.2.2.1.2.2.1
  show J X w h 0 [(0, .ref (jad w 13)), (1, .ref (jad w (ub u + 3 + i)))] []
  have finP : ∀ (h1 : jH), cS h1 u t n hs me sg → bFr u i h h1 → h1.1 (ub u + 3 + i) 5 = nI c → ∀ (h9 : jH) (a9 : Nat) (mdX : cMd), cAt h1 h9 u n a9 mdX → bRel t n me bs (ta sg 0) (bMd yw c F) (pE t n hs sg 8 st) (oEm (nI 13) (nI 0) mdX) → J X w h9 75 [(0, .ref (jad w 13)), (1, .ref (jad w (ub u + 3 + i)))] [] := by
    intro h1 hS hF1 g5 h9 a9 mdX hc hrel
    obtain ⟨_, _, _, _, _, _, _, h2⟩ := cAt_any hc
    refine k_aload_n C dX0_readBody_75 rfl ?_
    refine j_getr C fX0_22 rfl (by first | decide | omega) (by first | assumption | rfl) (by rw [h2.1.1]; exact hS.2.1) dX0_readBody_76 ?_
    refine j_bipush (v := 13) C dX0_readBody_79 (by decide) ?_
    refine j_iconst (v := 0) C dX0_readBody_81 (by decide) ?_
    refine k_callV (k := ub u) (ci := 3) (As := [.int (nI 13), .int (nI 0)]) C mX0_131 (t_emit hw hS hc (nI 13) (nI 0)) jCl3.1 (by first | decide | omega) (by first | assumption | rfl) rfl rfl (Nat.le_of_ble_eq_true rfl) (jroom hR (by first | decide | omega) (by decide)) dX0_readBody_82 ?_
    rintro v9 h9 ⟨⟨c9, -, rfl, -⟩, hc⟩
    refine j_pop C dX0_readBody_85 rfl ?_
    refine k_aload_n C dX0_readBody_86 rfl ?_
    refine k_aload_n C dX0_readBody_87 rfl ?_
    refine j_geti C fX0_117 rfl (by first | decide | omega) (by first | assumption | rfl) dX0_readBody_88 ?_
    refine j_puti C fX0_134 rfl rfl (by first | decide | omega) (by first | assumption | rfl) dX0_readBody_91 ?_
    exact j_vret C hrt hE dX0_readBody_94 (⟨rfl, (bod_end hB.1.1 hi hF1 g5 hc).1, _, hrel, (bod_end hB.1.1 hi hF1 g5 hc).2⟩)
  refine k_aload_n C dX0_readBody_0 rfl ?_
  refine k_aload_n C dX0_readBody_1 rfl ?_
  refine j_geti C fX0_104 rfl (by first | decide | omega) (by first | assumption | rfl) dX0_readBody_2 ?_
  rw [hst]
  refine j_puti C fX0_19 rfl rfl (by decide) rfl dX0_readBody_5 ?_
  refine k_aload_n C dX0_readBody_8 rfl ?_
  refine k_aload_n C dX0_readBody_9 rfl ?_
  refine j_getr C fX0_22 rfl (by first | decide | omega) (by first | assumption | rfl) (hB.2.1) dX0_readBody_10 ?_
  refine j_geti C fX0_31 rfl (by first | decide | omega) (by first | assumption | rfl) dX0_readBody_13 ?_
  refine j_puti C fX0_104 rfl rfl (by first | decide | omega) (by first | assumption | rfl) dX0_readBody_16 ?_
  refine k_aload_n C dX0_readBody_19 rfl ?_
  refine k_aload_n C dX0_readBody_20 rfl ?_
  refine j_geti C fX0_94 rfl (by first | decide | omega) (by first | assumption | rfl) dX0_readBody_21 ?_
  refine j_puti C fX0_113 rfl rfl (by first | decide | omega) (by first | assumption | rfl) dX0_readBody_24 ?_
  refine k_aload_n C dX0_readBody_27 rfl ?_
  refine j_iconst (v := 0) C dX0_readBody_28 (by decide) ?_
  refine j_puti C fX0_114 rfl rfl (by first | decide | omega) (by first | assumption | rfl) dX0_readBody_29 ?_
  refine k_aload_n C dX0_readBody_32 rfl ?_
  refine j_iconst (v := 0) C dX0_readBody_33 (by decide) ?_
  refine j_puti C fX0_117 rfl rfl (by first | decide | omega) (by first | assumption | rfl) dX0_readBody_34 ?_
  obtain ⟨h1, eh1⟩ : ∃ h1 : jH, h1 = (up2 (up2 (up2 (up2 (up2 h.1 13 2 (nI st)) (ub u + 3 + i) 5 (up2 h.1 13 2 (nI st) (ub u) 3)) 13 6 (up2 (up2 h.1 13 2 (nI st)) (ub u + 3 + i) 5 (up2 h.1 13 2 (nI st) (ub u) 3) (ub u + 3 + i) 2)) 13 7 0) 13 8 0, h.2) := ⟨_, rfl⟩
  refine jeqh eh1.symm ?_
  have g1 : ∀ k j, ¬ (k = 13 ∧ (j = 2 ∨ j = 6 ∨ j = 7 ∨ j = 8)) → ¬ (k = ub u + 3 + i ∧ j = 5) → h1.1 k j = h.1 k j := fun k j q1 q2 => by rw [eh1]; show up2 (up2 (up2 (up2 (up2 h.1 13 2 _) _ 5 _) 13 6 _) 13 7 0) 13 8 0 k j = _; rw [up2_n (by omega), up2_n (by omega), up2_n (by omega), up2_n (by omega), up2_n (by omega)]
  have g2 : h1.1 13 2 = nI st := by rw [eh1]; simp [up2]; try omega
  have g6 : h1.1 13 6 = nI sg := by rw [eh1]; simp [up2]; first | exact hsi | (rw [if_neg (by omega)]; exact hsi)
  have g7 : h1.1 13 7 = 0 := by rw [eh1]; simp [up2]
  have g8 : h1.1 13 8 = 0 := by rw [eh1]; simp [up2]
  have g5 : h1.1 (ub u + 3 + i) 5 = nI c := by rw [eh1]; have z1 : ¬ (ub u + 3 + i = 13) := (by omega); have z2 : ¬ (ub u = 13) := (by omega); simp [up2, z1, z2, hcl]
  have ge : h1.2 = h.2 := by rw [eh1]
  have hF1 : bFr u i h h1 := ⟨ge, fun k j q1 q2 q3 q4 => g1 k j (by omega) (by omega)⟩
  have hS : cS h1 u t n hs me sg := cS_of (bS_keep hi hF1 hB) g6 hsg
  have g3 : h1.1 (ub u + 2) = F := by rw [← hF]; funext j; exact g1 _ _ (by omega) (by omega)
  have hc0 : cAt h1 h1 u n st (bMd yw c F) := bMd_at ⟨⟨rfl, fun _ _ _ _ _ => rfl⟩, g2, by rw [g1 _ _ (by omega) (by omega)]; exact h4, by rw [g1 _ _ (by omega) (by omega)]; exact h5, g7, g8, by rw [g1 _ _ (by omega) (by omega)]; exact hcl, g3⟩ hyw hsn hc2
  have hb0 : cBd st (bMd yw c F) := bMd_bd hc3
  have hm0 : bMd yw c F ≠ none := by unfold bMd; split <;> simp
  clear eh1
  have hx9 : ∀ b k, k < 128 → (nI (pek t n b) = nI k ↔ pek t n b = k) := fun b k hk => nI_eq (by have := pek_lt hB.2.2.1 b; omega) (by omega)
  have fin : ∀ (h9 : jH) (a9 : Nat) (mdX : cMd), cAt h1 h9 u n a9 mdX → bRel t n me bs (ta sg 0) (bMd yw c F) (pE t n hs sg 8 st) (oEm (nI 13) (nI 0) mdX) → J X w h9 75 [(0, .ref (jad w 13)), (1, .ref (jad w (ub u + 3 + i)))] [] := finP h1 hS hF1 g5
  refine k_aload_n C dX0_readBody_37 rfl ?_
  refine k_aload_n C dX0_readBody_38 rfl ?_
  refine j_geti C fX0_113 rfl (by first | decide | omega) (by first | assumption | rfl) dX0_readBody_39 ?_
  rw [g6]
  refine j_iconst (v := nI 0) C dX0_readBody_42 (by decide) ?_
  refine k_callS (As := [.int (nI sg), .int (nI 0)]) C mX0_120 (m_typeAt hw hsg (k := 0) (by omega)) rfl rfl (Nat.le_of_ble_eq_true rfl) (jroom hR (by first | decide | omega) (by decide)) dX0_readBody_43 ?_
  rintro v9 h9 ⟨rfl, rfl⟩
  refine k_aload_n C dX0_readBody_46 rfl ?_
  refine j_iconst (v := 0) C dX0_readBody_47 (by decide) ?_
  refine k_callV (k := 13) (ci := 0) (As := [.int (nI 0)]) C mX0_123 ((c_E hw hS hsg3 hh 8 (by omega)).2.2 _ st bs _ hc0 hb0) jCl0.1 (by first | decide | omega) (by first | assumption | rfl) rfl rfl (Nat.le_of_ble_eq_true rfl) (jroom hR (by first | decide | omega) (by decide)) dX0_readBody_48 ?_
  rintro v9 h9 ⟨a1, md1, hc, hr1⟩
  obtain ⟨x1, rfl⟩ := cRel_int hr1
  have hpg := pgr_E (t := t) (n := n) (hs := hs) (sg := sg) 8
  have hsz := sz_E (t := t) (n := n) hh hsg hsg3 8
  have hb1 := cRel_bd hpg hsz hb0 hr1
  have ha1 := hc.1
  obtain ⟨R1, R2⟩ := bodRel (t := t) (s0 := ta sg 0) hn (ta_le _ _) (fun f e hd y ev m q => (hsz _ _ _ e _ _ _ _ _ q).1) hb1 ha1 hm0 hr1
  refine k_callV (k := 13) (ci := 0) (As := [.int (nI (ta sg 0)), .int x1]) C mX0_127 (t_need hw hS hc (nI (ta sg 0)) x1) jCl0.1 (by first | decide | omega) (by first | assumption | rfl) rfl rfl (Nat.le_of_ble_eq_true rfl) (jroom hR (by first | decide | omega) (by decide)) dX0_readBody_51 ?_
  rintro v9 h9 ⟨rfl, hc⟩
  refine k_aload_n C dX0_readBody_54 rfl ?_
  refine k_callV (k := 13) (ci := 0) (As := []) C mX0_64 (t_peek hw hS hc) jCl0.1 (by first | decide | omega) (by first | assumption | rfl) rfl rfl (Nat.le_of_ble_eq_true rfl) (jroom hR (by first | decide | omega) (by decide)) dX0_readBody_55 ?_
  rintro v9 h9 ⟨rfl, rfl⟩
  refine j_if_eq C 75 dX0_readBody_58 (by decide) (fun c58 => ?_) (fun c58 => ?_)
  · replace c58 : pek t n a1 = 0 := (hx9 a1 0 (by decide)).mp c58
    first | exact fin _ _ _ hc (R1 (Or.inl c58)) | exact fin _ _ _ hc (R1 (Or.inr c67)) | exact fin _ _ none hc (R2 (fun z => z.elim c58 c67))
  · replace c58 : ¬ pek t n a1 = 0 := fun e => c58 ((hx9 a1 0 (by decide)).mpr e)
    refine k_aload_n C dX0_readBody_61 rfl ?_
    refine k_callV (k := 13) (ci := 0) (As := []) C mX0_64 (t_peek hw hS hc) jCl0.1 (by first | decide | omega) (by first | assumption | rfl) rfl rfl (Nat.le_of_ble_eq_true rfl) (jroom hR (by first | decide | omega) (by decide)) dX0_readBody_62 ?_
    rintro v9 h9 ⟨rfl, rfl⟩
    refine j_bipush (v := 59) C dX0_readBody_65 (by decide) ?_
    refine j_icmp_eq C 75 dX0_readBody_67 (by decide) (fun c67 => ?_) (fun c67 => ?_)
    · replace c67 : pek t n a1 = 59 := (hx9 a1 59 (by decide)).mp c67
      first | exact fin _ _ _ hc (R1 (Or.inl c58)) | exact fin _ _ _ hc (R1 (Or.inr c67)) | exact fin _ _ none hc (R2 (fun z => z.elim c58 c67))
    · replace c67 : ¬ pek t n a1 = 59 := fun e => c67 ((hx9 a1 59 (by decide)).mpr e)
      refine k_aload_n C dX0_readBody_70 rfl ?_
      refine k_callV (k := 13) (ci := 0) (As := []) C mX0_75 (t_refuse hw hS hc) jCl0.1 (by first | decide | omega) (by first | assumption | rfl) rfl rfl (Nat.le_of_ble_eq_true rfl) (jroom hR (by first | decide | omega) (by decide)) dX0_readBody_71 ?_
      rintro v9 h9 ⟨rfl, hc⟩
      refine j_pop C dX0_readBody_74 rfl ?_
      first | exact fin _ _ _ hc (R1 (Or.inl c58)) | exact fin _ _ _ hc (R1 (Or.inr c67)) | exact fin _ _ none hc (R2 (fun z => z.elim c58 c67))
end BOD
