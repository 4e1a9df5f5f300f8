section YA
variable {l : Launch} {w : jW} {h h' g : jH} {sz : Nat} {G : GS}
theorem lastN_all {a : List Int32} : lastN a.length a = a := by unfold lastN; simp
theorem eEnter_le {PG : Nat → PU} {a0 : List Int32} {m j : Nat} {s : ES} {r : Nat × ES} (h : eEnter PG sz a0 m j s = .inr r) : r.1 ≤ 3 := by
  unfold eEnter at h
  split at h
  · simp only [Sum.inr.injEq] at h; rw [← h]; dsimp only; omega
  · split at h
    · simp only [Sum.inr.injEq] at h; rw [← h]; dsimp only; omega
    · cases h
theorem eStep_le {PG : Nat → PU} {a0 : List Int32} {s : ES} {r : Nat × ES} (h : eStep PG sz a0 s = .inr r) : r.1 ≤ 3 := by
  unfold eStep at h
  split at h
  · simp only [Sum.inr.injEq] at h; rw [← h]; exact Nat.le_refl _
  · split at h
    · simp only [Sum.inr.injEq] at h; rw [← h]; exact Nat.le_refl _
    · split at h
      all_goals first
        | (cases h; done)
        | skip
      · split at h
        · simp only [Sum.inr.injEq] at h; rw [← h]; exact Nat.le_refl _
        · exact eEnter_le h
      · split at h
        · simp only [Sum.inr.injEq] at h; rw [← h]; exact Nat.zero_le _
        · cases h
theorem eRun_le {PG : Nat → PU} {a0 : List Int32} : ∀ (k : Nat) (s : ES) (q : Nat × ES), eRun PG sz a0 k s = some q → q.1 ≤ 3
  | 0, _, _, h => by cases h
  | k + 1, s, q, h => by
    unfold eRun at h
    cases e : eStep PG sz a0 s with
    | inl s' => rw [e] at h; exact eRun_le k s' q h
    | inr r => rw [e] at h; simp only [Option.some.injEq] at h; rw [← h]; exact eStep_le e
theorem eCall_le {PG : Nat → PU} {a0 : List Int32} {m j fl : Nat} : (eCall PG sz a0 m j fl).1 ≤ 3 := by
  unfold eCall eGo
  split
  · next r e => exact eEnter_le e
  · next s' e =>
    cases e2 : eRun PG sz a0 (400 * s'.1 + mea PG s'.2.2.2.1 + 1) s' with
    | none => exact Nat.le_refl _
    | some q => exact eRun_le _ _ _ e2
/-- how a call ends -/
def caP (h h' : jH) (q : Nat × ES) (y : Nat) : Prop := gF h h' ∧ h'.1 70 47 = nI q.2.2.1 ∧ h'.1 70 48 = nI q.2.2.2.1 ∧ (q.1 = 0 → wSt h' q.2.2.2.2.2 ∧ q.2.2.2.2.2.length = y)
theorem r_Call (hw : jok w) (H : RI sz G h) (hlnk : G.2.2.1.1 = true → lnk G.2.1.1 G.2.1.2) (hfit : G.2.2.1.1 = true → fitA G.2.1.1 G.2.1.2) (m f a b c d fu : Int32) : jM l w yX5_call cX5_call 11 (some .int) 5 [.ref (jad w 70), .int m, .int f, .int a, .int b, .int c, .int d, .int fu] h (fun r h' => r = some (.int (nI (gCall sz G m f a b c d fu).2.1)) ∧ h'.1 70 0 = nI (gCall sz G m f a b c d fu).1 ∧ RI sz (gCall sz G m f a b c d fu).2.2 h' ∧ rF h h') := by
  refine jM_of (by decide) hw (Nat.le_of_ble_eq_true rfl) ?_
  intro X C hl hR hnL hrt hE
  subst hl
  have C : jC X w cX5_call RX5 := C
  obtain ⟨hr, hT, hM, hO⟩ := id H
  have hcb3 : cbV G m f ≤ 3 := by
    unfold cbV
    split
    · omega
    · split
      · omega
      · split
        · omega
        · split <;> omega
  obtain ⟨g0, eg0⟩ : ∃ g0 : jH, g0 = (up2 h.1 70 0 (nI (cbV G m f)), h.2) := ⟨_, rfl⟩
  obtain ⟨H0, F0⟩ := RI_code (nI (cbV G m f)) H
  rw [← eg0] at H0 F0
  have i0 : g0.1 70 0 = nI (cbV G m f) := by rw [eg0]; dsimp only; rw [up2_s]
  have start : J X w g0 10 [(0, .ref (jad w 70)), (1, .int m), (2, .int f), (3, .int a), (4, .int b), (5, .int c), (6, .int d), (7, .int fu)] [] → J X w h 0 [(0, .ref (jad w 70)), (1, .int m), (2, .int f), (3, .int a), (4, .int b), (5, .int c), (6, .int d), (7, .int fu)] [] := by
    intro kk
    refine k_aload_n C dX5_call_0 rfl ?_
    refine k_aload_n C dX5_call_1 rfl ?_
    refine k_iload_n C dX5_call_2 rfl ?_
    refine k_iload_n C dX5_call_3 rfl ?_
    refine k_callV (k := 70) (ci := 5) (As := [.int m, .int f]) C mX5_300 (r_callable hw H m f) jCl5.1 (by first | decide | omega) (by first | assumption | rfl) rfl rfl (Nat.le_of_ble_eq_true rfl) (jroom hR (by first | decide | omega) (by decide)) dX5_call_4 ?_
    rintro v9 h9 ⟨rfl, e9⟩
    obtain rfl := e9.symm
    refine j_puti C fX5_103 rfl rfl (by first | decide | omega) (by first | assumption | rfl) dX5_call_7 ?_
    refine jeqh (show _ = g0 from eg0.symm) ?_
    exact kk
  show J X w h 0 [(0, .ref (jad w 70)), (1, .int m), (2, .int f), (3, .int a), (4, .int b), (5, .int c), (6, .int d), (7, .int fu)] []
  refine start ?_
  by_cases hz : cbV G m f = 0
  case neg =>
    have eG : gCall sz G m f a b c d fu = (cbV G m f, 0, G) := by
      unfold gCall cbV at *
      by_cases hlk : G.2.2.1.1 = false
      · rw [if_pos hlk, if_pos hlk]
      · rw [if_neg hlk] at hz ⊢
        rw [if_neg hlk]
        cases e : dfO G.2.1.1 G.2.1.2 m f with
        | none => rfl
        | some q =>
          rw [e] at hz
          dsimp only at hz ⊢
          by_cases hex : ((G.2.1.1 q.1).1.getD q.2 (0, 0, 0, 0, 0)).2.2.2.1 = 0
          · rw [if_pos hex, if_pos hex]
          · rw [if_neg hex] at hz ⊢
            rw [if_neg hex]
            by_cases h4 : 4 < wb (sgo G.2.1.1 q.1 q.2) 4
            · rw [if_pos h4, if_pos h4]
            · rw [if_neg h4] at hz; exact absurd rfl hz
    refine k_aload_n C dX5_call_10 rfl ?_
    refine j_geti C fX5_103 rfl (by first | decide | omega) (by first | assumption | rfl) dX5_call_11 ?_
    refine j_if_le C 19 dX5_call_14 (by decide) (fun c14 => ?_) (fun c14 => ?_)
    · exact absurd c14 (by rw [i0, show (0 : Int32) = nI 0 from rfl, nI_leI (by omega) (by omega)]; omega) -- stop
    · refine j_iconst (v := 0) C dX5_call_17 (by decide) ?_
      exact j_iret C hrt hE dX5_call_18 (⟨by rw [eG]; rfl, by rw [eG]; exact i0, by rw [eG]; exact ⟨H0, F0⟩⟩)
  have hlk : G.2.2.1.1 = true := by
    cases e : G.2.2.1.1 with
    | true => rfl
    | false => unfold cbV at hz; rw [if_pos e] at hz; cases hz
  have hL := hlnk hlk
  have hft := hfit hlk
  cases e : dfO G.2.1.1 G.2.1.2 m f with
  | none => unfold cbV at hz; rw [if_neg (by rw [hlk]; decide), e] at hz; cases hz
  | some q =>
    obtain ⟨k, i⟩ := q
    have hz2 := hz
    unfold cbV at hz2
    rw [if_neg (by rw [hlk]; decide), e] at hz2
    dsimp only at hz2
    have hex : ¬ ((G.2.1.1 k).1.getD i (0, 0, 0, 0, 0)).2.2.2.1 = 0 := fun z => by rw [if_pos z] at hz2; cases hz2
    rw [if_neg hex] at hz2
    have h4 : ¬ 4 < wb (sgo G.2.1.1 k i) 4 := fun z => by rw [if_pos z] at hz2; cases hz2
    obtain ⟨hmk, hk, hp, hi, h0, hnf⟩ := dfO_some e
    obtain ⟨a0, ea0⟩ : ∃ a0, a0 = [a, b, c, d].take (wb (sgo G.2.1.1 k i) 4) := ⟨_, rfl⟩
    have la0 : a0.length = wb (sgo G.2.1.1 k i) 4 := by rw [ea0, List.length_take]; simp; omega
    obtain ⟨r, er⟩ : ∃ r, r = eCall G.2.1.1 sz a0 k i (fuC fu) := ⟨_, rfl⟩
    have eG : gCall sz G m f a b c d fu = (0, r.1, (G.1, G.2.1, G.2.2.1, (if r.1 = 0 then r.2.2.2.2.2.getD 0 0 else 0), (if r.1 = 0 ∧ ta (sgo G.2.1.1 k i) 0 = 2 then r.2.2.2.2.2.getD 1 0 else 0), r.2.2.2.1, r.2.2.1)) := by
      unfold gCall
      rw [if_neg (by rw [hlk]; decide), e]
      dsimp only
      rw [if_neg hex, if_neg h4, er, ea0]
    obtain ⟨hr0, hT0, hM0, hO0⟩ := id H0
    obtain ⟨b1, b2, b3, b4, b5, b6, b7, b8, b9, bA, bB, b6', bC⟩ := id hO0
    obtain ⟨⟨⟨rN0, rI0⟩, -, -⟩, U0⟩ := (hM0 k hk).2 hp
    have hU6 := U0.1
    obtain ⟨y1, y2⟩ := rI0 i hi
    obtain ⟨⟨v1, v2, v3, v4, v5, v6, v7⟩, v8⟩ := U0.2.2.2.1 i hi
    have esg : (((G.2.1.1 k).1)[i]).2.2.1 = sgo G.2.1.1 k i := by unfold sgo; rw [gtD hi]
    rw [esg] at y2 v4 v5 v8
    have elix : ixI k (lix (G.2.1.1 k).1 0 f (G.2.1.1 k).1.length) = nI (6 * k + i) := by
      rw [← hnf, lix_of U0.2.2.1 (fun i hi => (U0.2.2.2.1 i hi).1.2.1) hi h0]
      rfl
    obtain ⟨hf3, hfA, hfB, hfC⟩ := fuC_v fu
    subst hmk
    -- behind the calling: the results
    have fin : ∀ (g : jH), caP g0 g r (ta (sgo G.2.1.1 k i) 0) → J X w g 157 [(0, .ref (jad w 70)), (1, .int (nI k)), (2, .int f), (3, .int a), (4, .int b), (5, .int c), (6, .int d), (7, .int fu), (8, .int (nI (6 * k + i))), (9, .int (nI (wb (sgo G.2.1.1 k i) 4))), (10, .int (nI r.1))] [] := by
      intro g P
      obtain ⟨F, p47, p48, pV⟩ := P
      have hrg : g.2.1 70 = rMap := by rw [F.1]; exact hr0
      have g79 : g.1 79 (6 * k + i) = bI (ta (sgo G.2.1.1 k i) 0 == 2) := by rw [F.2 _ _ (by omega)]; exact y2.2.2
      have post : ∀ (g' : jH) (x1 x2 : Int32), (∀ k j, ¬ (k = 70 ∧ (j = 38 ∨ j = 49 ∨ j = 50)) → g'.1 k j = g.1 k j) → g'.2 = g.2 → g'.1 70 49 = x1 → g'.1 70 50 = x2 → x1 = (if r.1 = 0 then r.2.2.2.2.2.getD 0 0 else 0) → x2 = (if r.1 = 0 ∧ ta (sgo G.2.1.1 k i) 0 = 2 then r.2.2.2.2.2.getD 1 0 else 0) → ((some (Value.int (nI r.1)) : Option Value) = some (.int (nI (gCall sz G (nI k) f a b c d fu).2.1)) ∧ g'.1 70 0 = nI (gCall sz G (nI k) f a b c d fu).1 ∧ RI sz (gCall sz G (nI k) f a b c d fu).2.2 g' ∧ rF h g') := by
        intro g' x1 x2 ho e2 i49 i50 e49 e50
        have cc : ∀ k j, ¬ ((k = 70 ∧ (j = 38 ∨ j = 40 ∨ j = 46 ∨ j = 47 ∨ j = 48 ∨ j = 49 ∨ j = 50)) ∨ (92 ≤ k ∧ k ≤ 97)) → g'.1 k j = g0.1 k j := fun k j z => by rw [ho k j (by omega)]; exact F.2 k j (by omega)
        rw [eG]
        refine ⟨rfl, by rw [cc 70 0 (by omega), i0, hz], ⟨by rw [e2]; exact hrg, rtx_keep (h := g0) (cc 70 3 (by omega)) (fun j => cc 71 j (by omega)) hT0, rM_keep (h := g0) (fun k j z => cc k j (by omega)) hM0, ?_⟩, by rw [e2, F.1]; exact F0.1, fun k j z => by rw [cc k j (by omega)]; exact F0.2 k j z⟩
        refine ⟨by rw [cc _ _ (by omega)]; exact b1, b2, b3, by rw [cc _ _ (by omega)]; exact b4, by rw [cc _ _ (by omega)]; exact b5, by rw [cc _ _ (by omega)]; exact b6, by rw [cc _ _ (by omega)]; exact b7, ?_, ?_, ?_, ?_, b6', by rw [cc _ _ (by omega)]; exact bC⟩
        · rw [i49]; exact e49
        · rw [i50]; exact e50
        · rw [ho _ _ (by omega)]; exact p48
        · rw [ho _ _ (by omega)]; exact p47
      by_cases hr1 : r.1 = 0
      · obtain ⟨pW, pL⟩ := pV hr1
        have n10 : nI r.1 = 0 := by rw [hr1]; rfl
        rcases v5 with hy | hy
        · rw [hy] at pL g79
          obtain ⟨x, ex⟩ := len1 pL
          rw [ex] at pW
          have e38 : g.1 70 38 = nI (0 + 1) := pW.1
          have e92 : g.1 92 0 = x := pW.2 0 (by simp)
          have e38' : (up2 g.1 70 50 0, g.2).1 70 38 = nI (0 + 1) := by dsimp only; rw [up2_n (by omega)]; exact e38
          have e92' : (up2 g.1 70 50 0, g.2).1 92 0 = x := by dsimp only; rw [up2_n (by omega)]; exact e92
          have hr2 : (up2 g.1 70 50 0, g.2).2.1 70 = rMap := hrg
          refine k_aload_n C dX5_call_157 rfl ?_
          refine k_iload C dX5_call_158 rfl ?_
          refine j_if_ne C 180 dX5_call_160 (by decide) (fun c160 => ?_) (fun c160 => ?_)
          · exact absurd n10 c160 -- stop
          · refine k_aload_n C dX5_call_163 rfl ?_
            refine j_getr C fX5_36 rfl (by first | decide | omega) (by first | assumption | rfl) (congrFun hrg _) dX5_call_164 ?_
            refine k_iload C dX5_call_167 rfl ?_
            refine j_zald C (by first | decide | omega) (by first | assumption | rfl) (rfl) ((by omega)) (by decide) dX5_call_169 ?_
            refine j_if_eq C 180 dX5_call_170 (by decide) (fun c170 => ?_) (fun c170 => ?_)
            · refine j_iconst (v := 0) C dX5_call_180 (by decide) ?_
              refine j_puti C fX5_306 rfl rfl (by first | decide | omega) (by first | assumption | rfl) dX5_call_181 ?_
              refine k_aload_n C dX5_call_184 rfl ?_
              refine k_iload C dX5_call_185 rfl ?_
              refine j_if_ne C 197 dX5_call_187 (by decide) (fun c187 => ?_) (fun c187 => ?_)
              · exact absurd n10 c187 -- stop
              · refine k_aload_n C dX5_call_190 rfl ?_
                refine k_callV (k := 70) (ci := 5) (As := []) C mX5_281 (r_pop hw hr2 e38' (by omega)) jCl5.1 (by first | decide | omega) (by first | assumption | rfl) rfl rfl (Nat.le_of_ble_eq_true rfl) (jroom hR (by first | decide | omega) (by decide)) dX5_call_191 ?_
                rintro v9 h9 ⟨rfl, rfl⟩
                rw [e92']
                refine j_goto C 198 dX5_call_194 (by decide) ?_
                refine j_puti C fX5_309 rfl rfl (by first | decide | omega) (by first | assumption | rfl) dX5_call_198 ?_
                refine k_iload C dX5_call_201 rfl ?_
                exact j_iret C hrt hE dX5_call_203 (post _ x 0 (fun k j z => by dsimp only; rw [up2_n (by omega), ppH_o (by omega)]; dsimp only; rw [up2_n (by omega)]) rfl (by dsimp only; rw [up2_s]) (by dsimp only; rw [up2_n (by omega), ppH_o (by omega)]; dsimp only; rw [up2_s]) (by rw [if_pos hr1, ex]; rfl) (by rw [if_neg (fun z => by rw [hy] at z; omega)]))
            · exact absurd g79 c170 -- stop
        · rw [hy] at pL g79
          obtain ⟨x, y, ex⟩ := len2 pL
          rw [ex] at pW
          have e38 : g.1 70 38 = nI (1 + 1) := pW.1
          have e92 : g.1 92 1 = y := pW.2 1 (by simp)
          have e920 : g.1 92 0 = x := pW.2 0 (by simp)
          have e38' : (up2 (ppH g 1).1 70 50 y, (ppH g 1).2).1 70 38 = nI (0 + 1) := by dsimp only; rw [up2_n (by omega)]; exact ppH_38
          have e92' : (up2 (ppH g 1).1 70 50 y, (ppH g 1).2).1 92 0 = x := by dsimp only; rw [up2_n (by omega), ppH_o (by omega)]; exact e920
          have hr2 : (up2 (ppH g 1).1 70 50 y, (ppH g 1).2).2.1 70 = rMap := hrg
          have n79 : ¬ g.1 79 (6 * k + i) = 0 := by rw [g79]; decide
          refine k_aload_n C dX5_call_157 rfl ?_
          refine k_iload C dX5_call_158 rfl ?_
          refine j_if_ne C 180 dX5_call_160 (by decide) (fun c160 => ?_) (fun c160 => ?_)
          · exact absurd n10 c160 -- stop
          · refine k_aload_n C dX5_call_163 rfl ?_
            refine j_getr C fX5_36 rfl (by first | decide | omega) (by first | assumption | rfl) (congrFun hrg _) dX5_call_164 ?_
            refine k_iload C dX5_call_167 rfl ?_
            refine j_zald C (by first | decide | omega) (by first | assumption | rfl) (rfl) ((by omega)) (by decide) dX5_call_169 ?_
            refine j_if_eq C 180 dX5_call_170 (by decide) (fun c170 => ?_) (fun c170 => ?_)
            · exact absurd c170 n79 -- stop
            · refine k_aload_n C dX5_call_173 rfl ?_
              refine k_callV (k := 70) (ci := 5) (As := []) C mX5_281 (r_pop hw hrg e38 (by omega)) jCl5.1 (by first | decide | omega) (by first | assumption | rfl) rfl rfl (Nat.le_of_ble_eq_true rfl) (jroom hR (by first | decide | omega) (by decide)) dX5_call_174 ?_
              rintro v9 h9 ⟨rfl, rfl⟩
              rw [e92]
              refine j_goto C 181 dX5_call_177 (by decide) ?_
              refine j_puti C fX5_306 rfl rfl (by first | decide | omega) (by first | assumption | rfl) dX5_call_181 ?_
              refine k_aload_n C dX5_call_184 rfl ?_
              refine k_iload C dX5_call_185 rfl ?_
              refine j_if_ne C 197 dX5_call_187 (by decide) (fun c187 => ?_) (fun c187 => ?_)
              · exact absurd n10 c187 -- stop
              · refine k_aload_n C dX5_call_190 rfl ?_
                refine k_callV (k := 70) (ci := 5) (As := []) C mX5_281 (r_pop hw hr2 e38' (by omega)) jCl5.1 (by first | decide | omega) (by first | assumption | rfl) rfl rfl (Nat.le_of_ble_eq_true rfl) (jroom hR (by first | decide | omega) (by decide)) dX5_call_191 ?_
                rintro v9 h9 ⟨rfl, rfl⟩
                rw [e92']
                refine j_goto C 198 dX5_call_194 (by decide) ?_
                refine j_puti C fX5_309 rfl rfl (by first | decide | omega) (by first | assumption | rfl) dX5_call_198 ?_
                refine k_iload C dX5_call_201 rfl ?_
                exact j_iret C hrt hE dX5_call_203 (post _ x y (fun k j z => by dsimp only; rw [up2_n (by omega), ppH_o (by omega)]; dsimp only; rw [up2_n (by omega), ppH_o (by omega)]) rfl (by dsimp only; rw [up2_s]) (by dsimp only; rw [up2_n (by omega), ppH_o (by omega)]; dsimp only; rw [up2_s]) (by rw [if_pos hr1, ex]; rfl) (by rw [if_pos ⟨hr1, hy⟩, ex]; rfl))
      · have n10 : ¬ nI r.1 = 0 := fun z => by
          have hr3 : r.1 < 2 ^ 31 := by have := eCall_le (PG := G.2.1.1) (sz := sz) (a0 := a0) (m := k) (j := i) (fl := fuC fu); rw [← er] at this; omega
          exact hr1 ((nI_eq (b := 0) hr3 (by omega)).mp z)
        refine k_aload_n C dX5_call_157 rfl ?_
        refine k_iload C dX5_call_158 rfl ?_
        refine j_if_ne C 180 dX5_call_160 (by decide) (fun c160 => ?_) (fun c160 => ?_)
        · refine j_iconst (v := 0) C dX5_call_180 (by decide) ?_
          refine j_puti C fX5_306 rfl rfl (by first | decide | omega) (by first | assumption | rfl) dX5_call_181 ?_
          refine k_aload_n C dX5_call_184 rfl ?_
          refine k_iload C dX5_call_185 rfl ?_
          refine j_if_ne C 197 dX5_call_187 (by decide) (fun c187 => ?_) (fun c187 => ?_)
          · refine j_iconst (v := 0) C dX5_call_197 (by decide) ?_
            refine j_puti C fX5_309 rfl rfl (by first | decide | omega) (by first | assumption | rfl) dX5_call_198 ?_
            refine k_iload C dX5_call_201 rfl ?_
            exact j_iret C hrt hE dX5_call_203 (post _ 0 0 (fun k j z => by dsimp only; rw [up2_n (by omega), up2_n (by omega)]) rfl (by dsimp only; rw [up2_s]) (by dsimp only; rw [up2_n (by omega), up2_s]) (by rw [if_neg hr1]) (by rw [if_neg (fun z => hr1 z.1)]))
          · exact absurd (by first | exact c187 | exact Classical.not_not.mp c187) n10 -- stop
        · exact absurd (by first | exact c160 | exact Classical.not_not.mp c160) n10 -- stop
    obtain ⟨gS, egS⟩ : ∃ gS : jH, gS = (up2 (up2 (up2 (up2 (up2 g0.1 70 46 (nI (fuC fu))) 70 47 0) 70 48 0) 70 40 0) 70 38 0, g0.2) := ⟨_, rfl⟩
    have oS : ∀ {k j : Nat}, ¬ (k = 70 ∧ (j = 38 ∨ j = 40 ∨ j = 46 ∨ j = 47 ∨ j = 48)) → gS.1 k j = g0.1 k j := fun {k j} z => by rw [egS]; dsimp only; rw [up2_n (by omega), up2_n (by omega), up2_n (by omega), up2_n (by omega), up2_n (by omega)]
    have FS : gF g0 gS := ⟨by rw [egS], fun k j z => oS (by omega)⟩
    have rS : gS.2.1 70 = rMap := by rw [egS]; exact hr0
    have s38 : gS.1 70 38 = nI 0 := by rw [egS]; dsimp only; rw [up2_s]; rfl
    have s40 : gS.1 70 40 = nI 0 := by rw [egS]; dsimp only; rw [up2_n (by omega), up2_s]; rfl
    have s48 : gS.1 70 48 = nI 0 := by rw [egS]; dsimp only; rw [up2_n (by omega), up2_n (by omega), up2_s]; rfl
    have s47 : gS.1 70 47 = nI 0 := by rw [egS]; dsimp only; rw [up2_n (by omega), up2_n (by omega), up2_n (by omega), up2_s]; rfl
    have s46 : gS.1 70 46 = nI (fuC fu) := by rw [egS]; dsimp only; rw [up2_n (by omega), up2_n (by omega), up2_n (by omega), up2_n (by omega), up2_s]
    have wS : wSt gS [] := ⟨s38, fun j hj => absurd hj (Nat.not_lt_zero _)⟩
    -- the entering
    have P131 : ∀ (gP : jH), gF g0 gP → wSt gP a0 → gP.1 70 40 = nI 0 → gP.1 70 46 = nI (fuC fu) → gP.1 70 47 = nI 0 → gP.1 70 48 = nI 0 → J X w gP 131 [(0, .ref (jad w 70)), (1, .int (nI k)), (2, .int f), (3, .int a), (4, .int b), (5, .int c), (6, .int d), (7, .int fu), (8, .int (nI (6 * k + i))), (9, .int (nI (wb (sgo G.2.1.1 k i) 4)))] [] := by
      intro gP FP wP p40 p46 p47 p48
      have rP : gP.2.1 70 = rMap := by rw [FP.1]; exact hr0
      have MP : rM G.2.1.1 G.2.1.2 gP := rM_keep (h := g0) (fun k j z => FP.2 k j (by omega)) hM0
      have hen := r_enter (l := jXl X) (h := gP) (PG := G.2.1.1) (pr := G.2.1.2) (m := k) (i := i) (ly := wb (sgo G.2.1.1 k i) 4) (F := 0) (n := a0.length) (sz := sz) (fl := fuC fu) (tk := 0) (mx := 0) hw rP MP hk hp hi h0 (by omega) p40 (by omega) wP.1 (by omega) (by omega) (by rw [FP.2 70 1 (by omega)]; exact b1) b3 p46 hf3 p47 p48 (by omega)
      have stR : ∀ (g' : jH) (z : Nat), nI z = nI r.1 → caP g0 g' r (ta (sgo G.2.1.1 k i) 0) → J X w g' 155 [(0, .ref (jad w 70)), (1, .int (nI k)), (2, .int f), (3, .int a), (4, .int b), (5, .int c), (6, .int d), (7, .int fu), (8, .int (nI (6 * k + i))), (9, .int (nI (wb (sgo G.2.1.1 k i) 4))), (10, .int (nI z))] [.int (nI r.1)] := by
        intro g' z hzr P
        refine k_istore C dX5_call_155 (by rw [hnL]; decide) ?_
        exact fin g' P
      have after : ∀ v h9, enP G.2.1.1 sz gP 0 a0.length (fuC fu) 0 0 k i (wb (sgo G.2.1.1 k i) 4) v h9 → J X w h9 139 [(0, .ref (jad w 70)), (1, .int (nI k)), (2, .int f), (3, .int a), (4, .int b), (5, .int c), (6, .int d), (7, .int fu), (8, .int (nI (6 * k + i))), (9, .int (nI (wb (sgo G.2.1.1 k i) 4)))] (jcons v []) := by
        intro v h9 p9
        have bad : ∀ z : Nat, z ≠ 0 → z ≤ 3 → r.1 = z → v = some (.int (nI z)) → caP g0 h9 r (ta (sgo G.2.1.1 k i) 0) → J X w h9 139 [(0, .ref (jad w 70)), (1, .int (nI k)), (2, .int f), (3, .int a), (4, .int b), (5, .int c), (6, .int d), (7, .int fu), (8, .int (nI (6 * k + i))), (9, .int (nI (wb (sgo G.2.1.1 k i) 4)))] (jcons v []) := by
          intro z z0 z3 hrz hv P
          subst hv
          have nz : ¬ nI z = 0 := fun y => z0 ((nI_eq (b := 0) (by omega) (by omega)).mp y)
          have st := stR h9 z (by rw [hrz]) P
          rw [hrz] at st
          refine k_istore C dX5_call_139 (by rw [hnL]; decide) ?_
          refine k_iload C dX5_call_141 rfl ?_
          refine j_if_ne C 153 dX5_call_143 (by decide) (fun c143 => ?_) (fun c143 => ?_)
          · refine k_iload C dX5_call_153 rfl ?_
            exact st
          · exact absurd (by first | exact c143 | exact Classical.not_not.mp c143) nz -- stop
        unfold enP at p9
        have er' := er
        unfold eCall eEnter at er'
        dsimp only at er'
        rw [show ht a0.length [] = wb (sgo G.2.1.1 k i) 4 from la0] at er'
        by_cases hf0 : fuC fu = 0
        · rw [if_pos hf0] at p9 er'
          obtain ⟨p1, rfl⟩ := p9
          have er2 : r = (2, (fuC fu, 0, 0, [], [])) := er'
          exact bad 2 (by omega) (by omega) (by rw [er2]) p1 ⟨FP, by rw [er2]; exact p47, by rw [er2]; exact p48, fun z => by rw [er2] at z; cases z⟩
        · rw [if_neg hf0] at p9 er'
          by_cases hov : sz < wb (sgo G.2.1.1 k i) 4 + 2 + rmo G.2.1.1 k i
          · rw [if_pos hov] at p9 er'
            obtain ⟨p1, rfl⟩ := p9
            have er2 : r = (1, (fuC fu - 1, 0 + 1, 0, [], [])) := er'
            exact bad 1 (by omega) (by omega) (by rw [er2]) p1 ⟨gF_tr FP ⟨rfl, fun k j z => e1H_o (by omega)⟩, by rw [er2]; unfold e1H; dsimp only; rw [up2_s], by rw [er2, e1H_o (by omega)]; exact p48, fun z => by rw [er2] at z; cases z⟩
          · rw [if_neg hov] at p9 er'
            obtain ⟨p1, e9⟩ := p9
            subst p1
            obtain ⟨s1, es1⟩ : ∃ s1 : ES, s1 = (fuC fu - 1, 0 + 1, max 0 (wb (sgo G.2.1.1 k i) 4 + 2 + rmo G.2.1.1 k i), (k, i, bgo G.2.1.1 k i, lastN (wb (sgo G.2.1.1 k i) 4) (topT a0 []), []) :: [], []) := ⟨_, rfl⟩
            rw [← es1] at er'
            have elA : lastN (wb (sgo G.2.1.1 k i) 4) (topT a0 []) = a0 := by rw [← la0]; exact lastN_all
            have hent : eEnter G.2.1.1 sz a0 k i (fuC fu, 0, 0, [], []) = .inl s1 := by
              unfold eEnter
              dsimp only
              rw [show ht a0.length [] = wb (sgo G.2.1.1 k i) 4 from la0, if_neg hf0, if_neg hov, es1]
            have hI1 : EI G.2.1.1 sz a0 G.2.1.2 (ta (sgo G.2.1.1 k i) 0) s1 := EI_enter ⟨hk, hp⟩ (hL k hk hp).1 hi h0 (by show wb (sgo G.2.1.1 k i) 4 ≤ a0.length; omega) (by show lastN (wb (sgo G.2.1.1 k i) 4) a0 = a0 ∧ _; exact ⟨elA, rfl⟩) hent
            have oE : ∀ {k' j' : Nat}, ¬ (k' = 70 ∧ (j' = 40 ∨ j' = 46 ∨ j' = 47 ∨ j' = 48)) → ¬ (93 ≤ k' ∧ k' ≤ 97 ∧ j' = 0) → h9.1 k' j' = gP.1 k' j' := fun {k' j'} z1 z2 => by
              rw [e9]; unfold enR; dsimp only
              rw [up2_n (by omega), up2_n (by omega), up2_n (by omega), up2_n (by omega), up2_n (by omega), up2_n (by omega), up2_n (by omega), e1H_o (by omega)]
            have e92 : h9.2 = gP.2 := by rw [e9]; rfl
            have R1 : gR G.2.1.1 a0 h9 s1 := by
              rw [es1, elA]
              refine ⟨?_, ?_, ?_, ?_, ⟨?_, ?_, ?_, ?_, ?_, ?_, ?_, trivial⟩, ?_⟩
              · rw [e9]; unfold enR; dsimp only; rw [up2_n (by omega), up2_n (by omega), up2_n (by omega), up2_n (by omega), up2_n (by omega), up2_n (by omega), up2_n (by omega)]; unfold e1H; dsimp only; rw [up2_n (by omega), up2_s]
              · rw [e9]; unfold enR; dsimp only; rw [up2_n (by omega), up2_n (by omega), up2_n (by omega), up2_n (by omega), up2_n (by omega), up2_n (by omega), up2_n (by omega)]; unfold e1H; dsimp only; rw [up2_s]
              · rw [e9]; unfold enR; dsimp only; rw [up2_n (by omega), up2_n (by omega), up2_n (by omega), up2_n (by omega), up2_n (by omega), up2_n (by omega), up2_s]
              · rw [e9]; unfold enR; dsimp only; rw [up2_s]; rfl
              · rw [e9]; unfold enR; dsimp only [List.length_nil]; rw [up2_n (by omega), up2_n (by omega), up2_n (by omega), up2_n (by omega), up2_n (by omega), up2_s]
              · rw [e9]; unfold enR; dsimp only [List.length_nil]; rw [up2_n (by omega), up2_n (by omega), up2_n (by omega), up2_n (by omega), up2_s]
              · rw [e9]; unfold enR; dsimp only [List.length_nil]; rw [up2_n (by omega), up2_n (by omega), up2_n (by omega), up2_s]
              · rw [e9]; unfold enR; dsimp only [List.length_nil]; rw [up2_n (by omega), up2_n (by omega), up2_s, ← la0]; rfl
              · rw [e9]; unfold enR; dsimp only [List.length_nil]; rw [up2_n (by omega), up2_s, ← la0]; rfl
              · exact Nat.le_refl _
              · intro j hj; show a0.getD j 0 = a0.getD (a0.length - a0.length + j) 0; rw [Nat.sub_self, Nat.zero_add]
              · show wSt h9 (a0 ++ [] ++ [])
                rw [List.append_nil, List.append_nil]
                exact wSt_o wP (oE (by omega) (by omega)) (fun j _ => oE (by omega) (by omega))
            have rg9 : h9.2.1 70 = rMap := by rw [e92]; exact rP
            have M9 : rM G.2.1.1 G.2.1.2 h9 := rM_keep (h := gP) (fun k j z => oE (by omega) (by omega)) MP
            have hgo := r_go (l := jXl X) (h := h9) (PG := G.2.1.1) (pr := G.2.1.2) (sz := sz) (a0 := a0) (y0 := ta (sgo G.2.1.1 k i) 0) (s0 := s1) (K := 400 * s1.1 + mea G.2.1.1 s1.2.2.2.1 + 1) hw rg9 M9 (by rw [oE (by omega) (by omega), FP.2 70 1 (by omega)]; exact b1) b3 hL hft hI1 R1 (by rw [es1]; dsimp only; omega) (by rw [es1]; dsimp only; omega) (by omega)
            have F9 : gF gP h9 := ⟨e92, fun k j z => oE (by omega) (by omega)⟩
            have go2 : ∀ v8 h8, (∃ q, eRun G.2.1.1 sz a0 (400 * s1.1 + mea G.2.1.1 s1.2.2.2.1 + 1) s1 = some q ∧ v8 = some (.int (nI q.1)) ∧ gF h9 h8 ∧ h8.1 70 47 = nI q.2.2.1 ∧ h8.1 70 48 = nI q.2.2.2.1 ∧ (q.1 = 0 → wSt h8 q.2.2.2.2.2 ∧ q.2.2.2.2.2.length = ta (sgo G.2.1.1 k i) 0)) → J X w h8 150 [(0, .ref (jad w 70)), (1, .int (nI k)), (2, .int f), (3, .int a), (4, .int b), (5, .int c), (6, .int d), (7, .int fu), (8, .int (nI (6 * k + i))), (9, .int (nI (wb (sgo G.2.1.1 k i) 4))), (10, .int (nI 0))] (jcons v8 []) := by
              rintro v8 h8 ⟨q, hq1, rfl, hq3, hq4, hq5, hq6⟩
              have erq : r = q := by
                rw [er']
                show (eRun G.2.1.1 sz a0 (400 * s1.1 + mea G.2.1.1 s1.2.2.2.1 + 1) s1).getD (3, s1) = q
                rw [hq1]; rfl
              rw [← erq] at hq4 hq5 hq6 ⊢
              show J X w h8 150 _ [.int (nI r.1)]
              refine j_goto C 155 dX5_call_150 (by decide) ?_
              have P : caP g0 h8 r (ta (sgo G.2.1.1 k i) 0) := ⟨gF_tr FP (gF_tr F9 hq3), hq4, hq5, hq6⟩
              refine k_istore C dX5_call_155 (by rw [hnL]; decide) ?_
              exact fin h8 P
            show J X w h9 139 _ [.int (nI 0)]
            refine k_istore C dX5_call_139 (by rw [hnL]; decide) ?_
            refine k_iload C dX5_call_141 rfl ?_
            refine j_if_ne C 153 dX5_call_143 (by decide) (fun c143 => ?_) (fun c143 => ?_)
            · exact absurd rfl c143 -- stop
            · refine k_aload_n C dX5_call_146 rfl ?_
              refine k_callV (k := 70) (ci := 5) (As := []) C mX5_303 hgo jCl5.1 (by decide) rfl rfl rfl (Nat.le_of_ble_eq_true rfl) (jroom hR (by omega) (by decide)) dX5_call_147 ?_
              exact go2
      refine k_aload_n C dX5_call_131 rfl ?_
      refine k_iload C dX5_call_132 rfl ?_
      refine k_iload C dX5_call_134 rfl ?_
      refine k_callV (k := 70) (ci := 5) (As := [.int (nI (6 * k + i)), .int (nI (wb (sgo G.2.1.1 k i) 4))]) C mX5_287 hen jCl5.1 (by decide) rfl rfl rfl (Nat.le_of_ble_eq_true rfl) (jroom hR (by omega) (by decide)) dX5_call_136 ?_
      exact after
    have qPs : ∀ {g : jH} {n : Nat} {v : Int32} {j : Nat}, (j = 40 ∨ j = 46 ∨ j = 47 ∨ j = 48) → (psH g n v).1 70 j = g.1 70 j := fun {g n v j} z => psH_o (by omega) (by omega)
    have rPs : ∀ {g : jH} {n : Nat} {v : Int32}, g.2.1 70 = rMap → (psH g n v).2.1 70 = rMap := fun z => z
    have hW4 : wb (sgo G.2.1.1 k i) 4 = 0 ∨ wb (sgo G.2.1.1 k i) 4 = 1 ∨ wb (sgo G.2.1.1 k i) 4 = 2 ∨ wb (sgo G.2.1.1 k i) 4 = 3 ∨ wb (sgo G.2.1.1 k i) 4 = 4 := by omega
    have P85 : J X w gS 85 [(0, .ref (jad w 70)), (1, .int (nI k)), (2, .int f), (3, .int a), (4, .int b), (5, .int c), (6, .int d), (7, .int fu), (8, .int (nI (6 * k + i))), (9, .int (nI (wb (sgo G.2.1.1 k i) 4)))] [] := by
      have w1 := wSt_ps (n := 0) (v := a) wS rfl
      have w2 := wSt_ps (n := 1) (v := b) w1 rfl
      have w3 := wSt_ps (n := 2) (v := c) w2 rfl
      have w4 := wSt_ps (n := 3) (v := d) w3 rfl
      rcases hW4 with hW | hW | hW | hW | hW
      · have ea : a0 = [] := by rw [ea0, hW]; rfl
        rw [ea, hW] at P131
        rw [hW]
        refine k_iload C dX5_call_85 rfl ?_
        refine j_if_le C 95 dX5_call_87 (by decide) (fun c87 => ?_) (fun c87 => ?_)
        · refine k_iload C dX5_call_95 rfl ?_
          refine j_iconst (v := 1) C dX5_call_97 (by decide) ?_
          refine j_icmp_le C 107 dX5_call_98 (by decide) (fun c98 => ?_) (fun c98 => ?_)
          · refine k_iload C dX5_call_107 rfl ?_
            refine j_iconst (v := 2) C dX5_call_109 (by decide) ?_
            refine j_icmp_le C 119 dX5_call_110 (by decide) (fun c110 => ?_) (fun c110 => ?_)
            · refine k_iload C dX5_call_119 rfl ?_
              refine j_iconst (v := 3) C dX5_call_121 (by decide) ?_
              refine j_icmp_le C 131 dX5_call_122 (by decide) (fun c122 => ?_) (fun c122 => ?_)
              · exact P131 gS FS wS s40 s46 s47 s48
              · exact absurd (show nI 0 ≤ 3 by decide) c122 -- stop
            · exact absurd (show nI 0 ≤ 2 by decide) c110 -- stop
          · exact absurd (show nI 0 ≤ 1 by decide) c98 -- stop
        · exact absurd (show nI 0 ≤ 0 by decide) c87 -- stop
      · have ea : a0 = [a] := by rw [ea0, hW]; rfl
        rw [ea, hW] at P131
        rw [hW]
        refine k_iload C dX5_call_85 rfl ?_
        refine j_if_le C 95 dX5_call_87 (by decide) (fun c87 => ?_) (fun c87 => ?_)
        · exact absurd c87 (by decide) -- stop
        · refine k_aload_n C dX5_call_90 rfl ?_
          refine k_iload_n C dX5_call_91 rfl ?_
          refine k_callV (k := 70) (ci := 5) (As := [.int a]) C mX5_284 (r_push hw rS s38 (by omega) a) jCl5.1 (by first | decide | omega) (by first | assumption | rfl) rfl rfl (Nat.le_of_ble_eq_true rfl) (jroom hR (by first | decide | omega) (by decide)) dX5_call_92 ?_
          rintro v9 h9 ⟨rfl, rfl⟩
          refine k_iload C dX5_call_95 rfl ?_
          refine j_iconst (v := 1) C dX5_call_97 (by decide) ?_
          refine j_icmp_le C 107 dX5_call_98 (by decide) (fun c98 => ?_) (fun c98 => ?_)
          · refine k_iload C dX5_call_107 rfl ?_
            refine j_iconst (v := 2) C dX5_call_109 (by decide) ?_
            refine j_icmp_le C 119 dX5_call_110 (by decide) (fun c110 => ?_) (fun c110 => ?_)
            · refine k_iload C dX5_call_119 rfl ?_
              refine j_iconst (v := 3) C dX5_call_121 (by decide) ?_
              refine j_icmp_le C 131 dX5_call_122 (by decide) (fun c122 => ?_) (fun c122 => ?_)
              · exact P131 _ (gF_ps FS) w1 (by rw [qPs (by omega)]; exact s40) (by rw [qPs (by omega)]; exact s46) (by rw [qPs (by omega)]; exact s47) (by rw [qPs (by omega)]; exact s48)
              · exact absurd (show nI 1 ≤ 3 by decide) c122 -- stop
            · exact absurd (show nI 1 ≤ 2 by decide) c110 -- stop
          · exact absurd (show nI 1 ≤ 1 by decide) c98 -- stop
      · have ea : a0 = [a, b] := by rw [ea0, hW]; rfl
        rw [ea, hW] at P131
        rw [hW]
        refine k_iload C dX5_call_85 rfl ?_
        refine j_if_le C 95 dX5_call_87 (by decide) (fun c87 => ?_) (fun c87 => ?_)
        · exact absurd c87 (by decide) -- stop
        · refine k_aload_n C dX5_call_90 rfl ?_
          refine k_iload_n C dX5_call_91 rfl ?_
          refine k_callV (k := 70) (ci := 5) (As := [.int a]) C mX5_284 (r_push hw rS s38 (by omega) a) jCl5.1 (by first | decide | omega) (by first | assumption | rfl) rfl rfl (Nat.le_of_ble_eq_true rfl) (jroom hR (by first | decide | omega) (by decide)) dX5_call_92 ?_
          rintro v9 h9 ⟨rfl, rfl⟩
          refine k_iload C dX5_call_95 rfl ?_
          refine j_iconst (v := 1) C dX5_call_97 (by decide) ?_
          refine j_icmp_le C 107 dX5_call_98 (by decide) (fun c98 => ?_) (fun c98 => ?_)
          · exact absurd c98 (by decide) -- stop
          · refine k_aload_n C dX5_call_101 rfl ?_
            refine k_iload C dX5_call_102 rfl ?_
            refine k_callV (k := 70) (ci := 5) (As := [.int b]) C mX5_284 (r_push hw (rPs rS) psH_38 (by omega) b) jCl5.1 (by first | decide | omega) (by first | assumption | rfl) rfl rfl (Nat.le_of_ble_eq_true rfl) (jroom hR (by first | decide | omega) (by decide)) dX5_call_104 ?_
            rintro v9 h9 ⟨rfl, rfl⟩
            refine k_iload C dX5_call_107 rfl ?_
            refine j_iconst (v := 2) C dX5_call_109 (by decide) ?_
            refine j_icmp_le C 119 dX5_call_110 (by decide) (fun c110 => ?_) (fun c110 => ?_)
            · refine k_iload C dX5_call_119 rfl ?_
              refine j_iconst (v := 3) C dX5_call_121 (by decide) ?_
              refine j_icmp_le C 131 dX5_call_122 (by decide) (fun c122 => ?_) (fun c122 => ?_)
              · exact P131 _ (gF_ps (gF_ps FS)) w2 (by rw [qPs (by omega), qPs (by omega)]; exact s40) (by rw [qPs (by omega), qPs (by omega)]; exact s46) (by rw [qPs (by omega), qPs (by omega)]; exact s47) (by rw [qPs (by omega), qPs (by omega)]; exact s48)
              · exact absurd (show nI 2 ≤ 3 by decide) c122 -- stop
            · exact absurd (show nI 2 ≤ 2 by decide) c110 -- stop
      · have ea : a0 = [a, b, c] := by rw [ea0, hW]; rfl
        rw [ea, hW] at P131
        rw [hW]
        refine k_iload C dX5_call_85 rfl ?_
        refine j_if_le C 95 dX5_call_87 (by decide) (fun c87 => ?_) (fun c87 => ?_)
        · exact absurd c87 (by decide) -- stop
        · refine k_aload_n C dX5_call_90 rfl ?_
          refine k_iload_n C dX5_call_91 rfl ?_
          refine k_callV (k := 70) (ci := 5) (As := [.int a]) C mX5_284 (r_push hw rS s38 (by omega) a) jCl5.1 (by first | decide | omega) (by first | assumption | rfl) rfl rfl (Nat.le_of_ble_eq_true rfl) (jroom hR (by first | decide | omega) (by decide)) dX5_call_92 ?_
          rintro v9 h9 ⟨rfl, rfl⟩
          refine k_iload C dX5_call_95 rfl ?_
          refine j_iconst (v := 1) C dX5_call_97 (by decide) ?_
          refine j_icmp_le C 107 dX5_call_98 (by decide) (fun c98 => ?_) (fun c98 => ?_)
          · exact absurd c98 (by decide) -- stop
          · refine k_aload_n C dX5_call_101 rfl ?_
            refine k_iload C dX5_call_102 rfl ?_
            refine k_callV (k := 70) (ci := 5) (As := [.int b]) C mX5_284 (r_push hw (rPs rS) psH_38 (by omega) b) jCl5.1 (by first | decide | omega) (by first | assumption | rfl) rfl rfl (Nat.le_of_ble_eq_true rfl) (jroom hR (by first | decide | omega) (by decide)) dX5_call_104 ?_
            rintro v9 h9 ⟨rfl, rfl⟩
            refine k_iload C dX5_call_107 rfl ?_
            refine j_iconst (v := 2) C dX5_call_109 (by decide) ?_
            refine j_icmp_le C 119 dX5_call_110 (by decide) (fun c110 => ?_) (fun c110 => ?_)
            · exact absurd c110 (by decide) -- stop
            · refine k_aload_n C dX5_call_113 rfl ?_
              refine k_iload C dX5_call_114 rfl ?_
              refine k_callV (k := 70) (ci := 5) (As := [.int c]) C mX5_284 (r_push hw (rPs (rPs rS)) psH_38 (by omega) c) jCl5.1 (by first | decide | omega) (by first | assumption | rfl) rfl rfl (Nat.le_of_ble_eq_true rfl) (jroom hR (by first | decide | omega) (by decide)) dX5_call_116 ?_
              rintro v9 h9 ⟨rfl, rfl⟩
              refine k_iload C dX5_call_119 rfl ?_
              refine j_iconst (v := 3) C dX5_call_121 (by decide) ?_
              refine j_icmp_le C 131 dX5_call_122 (by decide) (fun c122 => ?_) (fun c122 => ?_)
              · exact P131 _ (gF_ps (gF_ps (gF_ps FS))) w3 (by rw [qPs (by omega), qPs (by omega), qPs (by omega)]; exact s40) (by rw [qPs (by omega), qPs (by omega), qPs (by omega)]; exact s46) (by rw [qPs (by omega), qPs (by omega), qPs (by omega)]; exact s47) (by rw [qPs (by omega), qPs (by omega), qPs (by omega)]; exact s48)
              · exact absurd (show nI 3 ≤ 3 by decide) c122 -- stop
      · have ea : a0 = [a, b, c, d] := by rw [ea0, hW]; rfl
        rw [ea, hW] at P131
        rw [hW]
        refine k_iload C dX5_call_85 rfl ?_
        refine j_if_le C 95 dX5_call_87 (by decide) (fun c87 => ?_) (fun c87 => ?_)
        · exact absurd c87 (by decide) -- stop
        · refine k_aload_n C dX5_call_90 rfl ?_
          refine k_iload_n C dX5_call_91 rfl ?_
          refine k_callV (k := 70) (ci := 5) (As := [.int a]) C mX5_284 (r_push hw rS s38 (by omega) a) jCl5.1 (by first | decide | omega) (by first | assumption | rfl) rfl rfl (Nat.le_of_ble_eq_true rfl) (jroom hR (by first | decide | omega) (by decide)) dX5_call_92 ?_
          rintro v9 h9 ⟨rfl, rfl⟩
          refine k_iload C dX5_call_95 rfl ?_
          refine j_iconst (v := 1) C dX5_call_97 (by decide) ?_
          refine j_icmp_le C 107 dX5_call_98 (by decide) (fun c98 => ?_) (fun c98 => ?_)
          · exact absurd c98 (by decide) -- stop
          · refine k_aload_n C dX5_call_101 rfl ?_
            refine k_iload C dX5_call_102 rfl ?_
            refine k_callV (k := 70) (ci := 5) (As := [.int b]) C mX5_284 (r_push hw (rPs rS) psH_38 (by omega) b) jCl5.1 (by first | decide | omega) (by first | assumption | rfl) rfl rfl (Nat.le_of_ble_eq_true rfl) (jroom hR (by first | decide | omega) (by decide)) dX5_call_104 ?_
            rintro v9 h9 ⟨rfl, rfl⟩
            refine k_iload C dX5_call_107 rfl ?_
            refine j_iconst (v := 2) C dX5_call_109 (by decide) ?_
            refine j_icmp_le C 119 dX5_call_110 (by decide) (fun c110 => ?_) (fun c110 => ?_)
            · exact absurd c110 (by decide) -- stop
            · refine k_aload_n C dX5_call_113 rfl ?_
              refine k_iload C dX5_call_114 rfl ?_
              refine k_callV (k := 70) (ci := 5) (As := [.int c]) C mX5_284 (r_push hw (rPs (rPs rS)) psH_38 (by omega) c) jCl5.1 (by first | decide | omega) (by first | assumption | rfl) rfl rfl (Nat.le_of_ble_eq_true rfl) (jroom hR (by first | decide | omega) (by decide)) dX5_call_116 ?_
              rintro v9 h9 ⟨rfl, rfl⟩
              refine k_iload C dX5_call_119 rfl ?_
              refine j_iconst (v := 3) C dX5_call_121 (by decide) ?_
              refine j_icmp_le C 131 dX5_call_122 (by decide) (fun c122 => ?_) (fun c122 => ?_)
              · exact absurd c122 (by decide) -- stop
              · refine k_aload_n C dX5_call_125 rfl ?_
                refine k_iload C dX5_call_126 rfl ?_
                refine k_callV (k := 70) (ci := 5) (As := [.int d]) C mX5_284 (r_push hw (rPs (rPs (rPs rS))) psH_38 (by omega) d) jCl5.1 (by first | decide | omega) (by first | assumption | rfl) rfl rfl (Nat.le_of_ble_eq_true rfl) (jroom hR (by first | decide | omega) (by decide)) dX5_call_128 ?_
                rintro v9 h9 ⟨rfl, rfl⟩
                exact P131 _ (gF_ps (gF_ps (gF_ps (gF_ps FS)))) w4 (by rw [qPs (by omega), qPs (by omega), qPs (by omega), qPs (by omega)]; exact s40) (by rw [qPs (by omega), qPs (by omega), qPs (by omega), qPs (by omega)]; exact s46) (by rw [qPs (by omega), qPs (by omega), qPs (by omega), qPs (by omega)]; exact s47) (by rw [qPs (by omega), qPs (by omega), qPs (by omega), qPs (by omega)]; exact s48)
    have P62 : ∀ v, v = nI (fuC fu) → J X w g0 62 [(0, .ref (jad w 70)), (1, .int (nI k)), (2, .int f), (3, .int a), (4, .int b), (5, .int c), (6, .int d), (7, .int fu), (8, .int (nI (6 * k + i))), (9, .int (nI (wb (sgo G.2.1.1 k i) 4)))] [.int v, .ref (jad w 70)] := by
      intro v hv
      subst hv
      refine j_puti C fX5_269 rfl rfl (by first | decide | omega) (by first | assumption | rfl) dX5_call_62 ?_
      refine k_aload_n C dX5_call_65 rfl ?_
      refine j_iconst (v := 0) C dX5_call_66 (by decide) ?_
      refine j_puti C fX5_272 rfl rfl (by first | decide | omega) (by first | assumption | rfl) dX5_call_67 ?_
      refine k_aload_n C dX5_call_70 rfl ?_
      refine j_iconst (v := 0) C dX5_call_71 (by decide) ?_
      refine j_puti C fX5_275 rfl rfl (by first | decide | omega) (by first | assumption | rfl) dX5_call_72 ?_
      refine k_aload_n C dX5_call_75 rfl ?_
      refine j_iconst (v := 0) C dX5_call_76 (by decide) ?_
      refine j_puti C fX5_278 rfl rfl (by first | decide | omega) (by first | assumption | rfl) dX5_call_77 ?_
      refine k_aload_n C dX5_call_80 rfl ?_
      refine j_iconst (v := 0) C dX5_call_81 (by decide) ?_
      refine j_puti C fX5_266 rfl rfl (by first | decide | omega) (by first | assumption | rfl) dX5_call_82 ?_
      refine jeqh (show _ = gS from egS.symm) ?_
      exact P85
    refine k_aload_n C dX5_call_10 rfl ?_
    refine j_geti C fX5_103 rfl (by first | decide | omega) (by first | assumption | rfl) dX5_call_11 ?_
    refine j_if_le C 19 dX5_call_14 (by decide) (fun c14 => ?_) (fun c14 => ?_)
    · refine k_aload_n C dX5_call_19 rfl ?_
      refine k_iload_n C dX5_call_20 rfl ?_
      refine k_iload_n C dX5_call_21 rfl ?_
      refine j_iconst (v := -1) C dX5_call_22 (by decide) ?_
      refine k_callV (k := 70) (ci := 5) (As := [.int (nI k), .int f, .int (oI 0)]) C mX5_183 (r_find hw hr0 (m := k) (by omega) rN0 (o := 0) (by decide) f) jCl5.1 (by first | decide | omega) (by first | assumption | rfl) rfl rfl (Nat.le_of_ble_eq_true rfl) (jroom hR (by first | decide | omega) (by decide)) dX5_call_23 ?_
      rintro v9 h9 ⟨rfl, e9⟩
      obtain rfl := e9.symm
      rw [elix]
      refine k_istore C dX5_call_26 (by rw [hnL]; decide) ?_
      refine k_aload_n C dX5_call_28 rfl ?_
      refine k_iload C dX5_call_29 rfl ?_
      refine k_callV (k := 70) (ci := 5) (As := [.int (nI (6 * k + i))]) C mX5_263 (r_words hw hr0 (x := 6 * k + i) (s := sgo G.2.1.1 k i) (by omega) v4 v8 y2) jCl5.1 (by first | decide | omega) (by first | assumption | rfl) rfl rfl (Nat.le_of_ble_eq_true rfl) (jroom hR (by first | decide | omega) (by decide)) dX5_call_31 ?_
      rintro v9 h9 ⟨rfl, e9⟩
      obtain rfl := e9.symm
      refine k_istore C dX5_call_34 (by rw [hnL]; decide) ?_
      refine k_aload_n C dX5_call_36 rfl ?_
      refine k_iload C dX5_call_37 rfl ?_
      refine j_if_ge C 46 dX5_call_39 (by decide) (fun c39 => ?_) (fun c39 => ?_)
      · have c39' : ¬ fu < 0 := Int32.not_lt.mpr c39
        refine k_iload C dX5_call_46 rfl ?_
        refine j_sipush (v := 3000) C dX5_call_48 (by decide) ?_
        refine j_icmp_le C 60 dX5_call_51 (by decide) (fun c51 => ?_) (fun c51 => ?_)
        · refine k_iload C dX5_call_60 rfl ?_
          first | exact P62 _ (hfA c39').symm | exact P62 _ (hfB c39' c51).symm | exact P62 _ (hfC c39' c51).symm
        · refine j_sipush (v := 3000) C dX5_call_54 (by decide) ?_
          refine j_goto C 62 dX5_call_57 (by decide) ?_
          first | exact P62 _ (hfA c39').symm | exact P62 _ (hfB c39' c51).symm | exact P62 _ (hfC c39' c51).symm
      · have c39' : fu < 0 := Int32.not_le.mp c39
        refine j_iconst (v := 0) C dX5_call_42 (by decide) ?_
        refine j_goto C 62 dX5_call_43 (by decide) ?_
        first | exact P62 _ (hfA c39').symm | exact P62 _ (hfB c39' c51).symm | exact P62 _ (hfC c39' c51).symm
    · exact absurd (by rw [i0, hz]; decide) c14 -- stop
end YA
