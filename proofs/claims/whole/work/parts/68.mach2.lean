section MACH3
variable {PG : Nat → PU} {size : Nat} {a0 : List Int32} {pr : Nat → Bool} {y0 : Nat}
/-- where a well state stands: at the end of a body, or at an event that is typed -/
theorem EI_cases {s : ES} {m i p : Nat} {A T : List Int32} {fs : List Fm} {e : Ev} (h : EI PG size a0 pr y0 s) (hf : s.2.2.2.1 = (m, i, p, A, T) :: fs) (he : (PG m).2.1[p]? = some e) : (e = (14, 0, 0, ta (sgo PG m i) 0) ∧ T = [] ∧ s.2.2.2.2.length = ta (sgo PG m i) 0) ∨ ∃ Z, bodyOk ((PG m).1.map h3) (PG m).2.1 (sgo PG m i) (bgo PG m i) Z (rmo PG m i) ∧ bgo PG m i ≤ p ∧ p < Z ∧ okE (sgo PG m i) ((PG m).1.map h3) (Gv (PG m).2.1) Z p e ∧ e.2.2.1 = T.length ∧ e.2.2.2 = s.2.2.2.2.length := by
  obtain ⟨e', he', g1, g2⟩ := EI_ev h hf
  rw [he] at he'
  simp only [Option.some.injEq] at he'
  subst he'
  unfold EI at h
  rw [hf] at h
  obtain ⟨⟨f1, f2, f3, f4, f5, Z, f6, f7, f8⟩, hG0, h3, h4, h5⟩ := h
  by_cases c : p = Z
  · subst c
    have := f6.2.2.1
    rw [he] at this
    simp only [Option.some.injEq] at this
    subst this
    exact Or.inl ⟨rfl, List.eq_nil_of_length_eq_zero g1.symm, g2.symm⟩
  · exact Or.inr ⟨Z, f6, f7, by omega, (f6.2.2.2.2 p e f7 f8 he).2 (by omega), g1, g2⟩
theorem bodyZ {hs : List (Nat × Nat × Nat)} {ev : List Ev} {s b Z Z' rm p : Nat} (h : bodyOk hs ev s b Z rm) (h' : bodyOk hs ev s b Z' rm) : Z = Z' := by
  have key : ∀ {X Y : Nat}, bodyOk hs ev s b X rm → bodyOk hs ev s b Y rm → ¬ X < Y := by
    intro X Y hX hY hlt
    have := (hY.2.2.2.2 X _ hX.1 (by omega) hX.2.2.1).2 hlt
    simp only [okE] at this
  have a := key h h'
  have b := key h' h
  omega
theorem EI_go {s s' : ES} {m i p p' Z : Nat} {A T T' : List Int32} {fs : List Fm} (h : EI PG size a0 pr y0 s) (hf : s.2.2.2.1 = (m, i, p, A, T) :: fs) (hf' : s'.2.2.2.1 = (m, i, p', A, T') :: fs) (hZ : bodyOk ((PG m).1.map h3) (PG m).2.1 (sgo PG m i) (bgo PG m i) Z (rmo PG m i)) (hpZ : p' ≤ Z) (hpp : p ≤ p') (hG : Gv (PG m).2.1 p' = (T'.length, s'.2.2.2.2.length)) : EI PG size a0 pr y0 s' := EI_move h hf hf' (fun _ _ => hpp) (fun Z' hZ' _ => by rw [← bodyZ (p := 0) hZ hZ']; exact hpZ) hpp hG
theorem calM_lt {m nm : Nat} (h : nm < 26) : calM m (0 * 26 + nm) = m := by unfold calM; rw [if_pos (by omega)]
/-- an entering -/
theorem EI_enter {s s' : ES} {m i : Nat} (h1 : m < 6 ∧ pr m = true) (hU : puOk (PG m)) (hi : i < (PG m).1.length) (h0 : ((PG m).1[i]).1 = 0) (hk : wb (sgo PG m i) 4 ≤ (topT a0 s.2.2.2.1).length) (hw : wfC PG size a0 pr s.2.2.2.1 (lastN (wb (sgo PG m i) 4) (topT a0 s.2.2.2.1)) (ta (sgo PG m i) 0) y0) (hs : eEnter PG size a0 m i s = .inl s') : EI PG size a0 pr y0 s' := by
  unfold eEnter at hs
  split at hs
  · cases hs
  · split at hs
    · cases hs
    · next hc =>
      simp only [Sum.inl.injEq] at hs
      subst hs
      obtain ⟨r1, Z, r2⟩ := puOk_at hU hi h0
      have eg := gtD hi
      have e1 : (((PG m).1)[i]).2.2.1 = sgo PG m i := by unfold sgo; rw [eg]
      rw [e1] at r2
      unfold EI
      refine ⟨⟨h1.1, h1.2, hi, by rw [eg]; exact h0, lastN_len hk, Z, r2, Nat.le_refl _, r2.1⟩, r2.2.2.2.1, Nat.zero_le _, by omega, hw⟩
theorem EI_next (hL : lnk PG pr) {s s' : ES} (h : EI PG size a0 pr y0 s) (hs : eStep PG size a0 s = .inl s') : EI PG size a0 pr y0 s' := by
  obtain ⟨fl, tk, mx, fs, V⟩ := s
  rcases fs with _ | ⟨⟨m, i, p, A, T⟩, fs⟩
  · exact h.elim
  · obtain ⟨e, he, g1, g2⟩ := EI_ev h rfl
    have hc := EI_cases h rfl he
    unfold eStep at hs
    simp only [he] at hs
    rcases hc with ⟨rfl, rfl, hV⟩ | ⟨Z, hZ, hb, hpZ, hok, -, -⟩
    · simp only at hs
      rcases fs with _ | ⟨⟨m2, i2, p2, A2, T2⟩, gs⟩
      · cases hs
      · simp only [Sum.inl.injEq] at hs
        subst hs
        obtain ⟨w1, w3, w4, w6, w7, w8, wA⟩ := h.2.2.2.2
        refine ⟨w1, ?_, ?_, w8, wA⟩
        · rw [w6]
          dsimp only at hV ⊢
          rw [hV]
          simp
        · simp; omega
    · obtain ⟨k, o, hd, cw⟩ := e
      dsimp only at g1 g2
      subst g1 g2
      unfold okE at hok
      dsimp only at hok hs
      split at hok
      · simp only [Sum.inl.injEq] at hs; subst hs
        exact EI_go h rfl rfl hZ (by omega) (by omega) hok.2.2
      · simp only [Sum.inl.injEq] at hs; subst hs
        exact EI_go h rfl rfl hZ (by omega) (by omega) hok.2.2
      · simp only [Sum.inl.injEq] at hs; subst hs
        exact EI_go h rfl rfl hZ (by omega) (by omega) hok.2.2
      · simp only [Sum.inl.injEq] at hs; subst hs
        exact EI_go h rfl rfl hZ (by omega) (by omega) (by rw [hok.2]; simp [hok.1])
      · simp only [Sum.inl.injEq] at hs; subst hs
        exact EI_go h rfl rfl hZ (by omega) (by omega) (by rw [hok.2]; simp [hok.1])
      · simp only [Sum.inl.injEq] at hs; subst hs
        exact EI_go h rfl rfl hZ (by omega) (by omega) (by rw [hok.2.2]; simp)
      · simp only [Sum.inl.injEq] at hs; subst hs
        exact EI_go h rfl rfl hZ (by omega) (by omega) (by rw [hok.2.2]; simp)
      · simp only [Sum.inl.injEq] at hs; subst hs
        exact EI_go h rfl rfl hZ (by omega) (by omega) (by rw [hok.2.2]; simp)
      · simp only [Sum.inl.injEq] at hs; subst hs
        exact EI_go h rfl rfl hZ (by omega) (by omega) (by rw [hok.2.2]; simp)
      · simp only [Sum.inl.injEq] at hs; subst hs
        exact EI_go h rfl rfl hZ (by omega) (by omega) (by rw [hok.2]; simp)
      · simp only [Sum.inl.injEq] at hs; subst hs
        exact EI_go h rfl rfl hZ (by omega) (by omega) (by rw [hok.2]; simp)
      · simp only [Sum.inl.injEq] at hs; subst hs
        obtain ⟨q1, q2, q3, q4, q5⟩ := hok
        by_cases c : V.getD 0 0 = 0
        · simp only [c, if_true]
          exact EI_go h rfl rfl hZ q5 (by omega) q3
        · simp only [c, if_false]
          exact EI_go h rfl rfl hZ (by omega) (by omega) q2
      · simp only [Sum.inl.injEq] at hs; subst hs
        obtain ⟨q1, q2, q3⟩ := hok
        exact EI_go h rfl rfl hZ q3 (by omega) q1
      · obtain ⟨q1, o', nm, s', rfl, q3, q4, q5, q6⟩ := hok
        obtain ⟨f1, f2, f3, f4, f5, f6⟩ := h.1
        obtain ⟨U1, U2⟩ := hL m f1 f2
        obtain ⟨j, j1, j2, hj, j3, j4, j5⟩ := U2 o' nm s' q4
        have U3 := (hL _ j1 j2).1
        have ed : dfx (PG (calM m (o' * 26 + nm))).1 ((o' * 26 + nm) % 26) = some j := by
          rw [show (o' * 26 + nm) % 26 = nm by omega]
          exact dfx_dst U3.2.2.1 hj j3 j4
        rw [ed] at hs
        simp only at hs
        have es : sgo PG (calM m (o' * 26 + nm)) j = s' := by unfold sgo; rw [gtD hj]; exact j5
        refine EI_enter (s := (fl, tk, mx, (m, i, p + 1, A, T) :: fs, [])) ⟨j1, j2⟩ U3 hj j3 (by rw [es]; exact q5) ?_ hs
        rw [es]
        have el : (lastN (wb s' 4) T).length = wb s' 4 := lastN_len q5
        refine ⟨⟨f1, f2, f3, f4, f5, Z, hZ, by omega, by omega⟩, ?_, ?_, ?_, h.2.2.1, h.2.2.2.1, h.2.2.2.2⟩
        · show (lastN (wb s' 4) T).length ≤ T.length
          rw [el]; exact q5
        · show lastN (wb s' 4) T = lastN (lastN (wb s' 4) T).length T
          rw [el]
        · show _ = (T.length - (lastN (wb s' 4) T).length, _)
          rw [el]; exact q6
      · exact hok.elim
theorem ev_len : ∀ l : List Ev, l.length ≤ cpos l + rpos l
  | [] => by simp
  | e :: l => by
    have := ev_len l
    simp only [List.length_cons, cpos, rpos]
    have : 1 ≤ kcl e + krf e := by
      unfold kcl krf
      by_cases h : e.1 = 9
      · have h2 : ¬ (e.1 = 3 ∨ e.1 = 4 ∨ e.1 = 8) := by omega
        simp [h]
      · simp [h]
    omega
/-- the measure goes down -/
theorem mea_next (hL : lnk PG pr) {s s' : ES} (h : EI PG size a0 pr y0 s) (hs : eStep PG size a0 s = .inl s') : 400 * s'.1 + mea PG s'.2.2.2.1 < 400 * s.1 + mea PG s.2.2.2.1 := by
  obtain ⟨fl, tk, mx, fs, V⟩ := s
  rcases fs with _ | ⟨⟨m, i, p, A, T⟩, fs⟩
  · exact h.elim
  · obtain ⟨e, he, g1, g2⟩ := EI_ev h rfl
    have hc := EI_cases h rfl he
    have hlt : p < (PG m).2.1.length := (List.getElem?_eq_some_iff.mp he).1
    unfold eStep at hs
    simp only [he] at hs
    rcases hc with ⟨rfl, rfl, hV⟩ | ⟨Z, hZ, hb, hpZ, hok, -, -⟩
    · simp only at hs
      rcases fs with _ | ⟨⟨m2, i2, p2, A2, T2⟩, gs⟩
      · cases hs
      · simp only [Sum.inl.injEq] at hs
        subst hs
        simp only [mea]
        omega
    · obtain ⟨k, o, hd, cw⟩ := e
      have hZl := hZ.2.1
      unfold okE at hok
      dsimp only at hok hs
      split at hok
      case h_12 =>
        simp only [Sum.inl.injEq] at hs; subst hs
        obtain ⟨q1, q2, q3, q4, q5⟩ := hok
        by_cases c : V.getD 0 0 = 0
        · simp only [c, if_true, mea]; omega
        · simp only [c, if_false, mea]; omega
      case h_13 =>
        simp only [Sum.inl.injEq] at hs; subst hs
        obtain ⟨q1, q2, q3⟩ := hok
        simp only [mea]; omega
      case h_14 =>
        obtain ⟨q1, o', nm, s', rfl, q3, q4, q5, q6⟩ := hok
        obtain ⟨f1, f2, f3, f4, f5, f6⟩ := h.1
        obtain ⟨U1, U2⟩ := hL m f1 f2
        obtain ⟨j, j1, j2, hj, j3, j4, j5⟩ := U2 o' nm s' q4
        have U3 := (hL _ j1 j2).1
        have ed : dfx (PG (calM m (o' * 26 + nm))).1 ((o' * 26 + nm) % 26) = some j := by
          rw [show (o' * 26 + nm) % 26 = nm by omega]
          exact dfx_dst U3.2.2.1 hj j3 j4
        rw [ed] at hs
        simp only at hs
        unfold eEnter at hs
        dsimp only at hs
        split at hs
        · cases hs
        · split at hs
          · cases hs
          · simp only [Sum.inl.injEq] at hs
            subst hs
            have l1 := ev_len (PG (calM m (o' * 26 + nm))).2.1
            have l2 := U3.2.2.2.2.1
            have l3 := U3.2.2.2.2.2.1
            simp only [mea]
            omega
      case h_15 => exact hok.elim
      all_goals
        simp only [Sum.inl.injEq] at hs; subst hs
        simp only [mea]; omega
theorem eRun_end (hL : lnk PG pr) : ∀ (k : Nat) (s : ES), EI PG size a0 pr y0 s → 400 * s.1 + mea PG s.2.2.2.1 < k → ∃ r, eRun PG size a0 k s = some r
  | 0, s, _, h => absurd h (Nat.not_lt_zero _)
  | k + 1, s, hE, h => by
    unfold eRun
    cases e : eStep PG size a0 s with
    | inr r => exact ⟨r, rfl⟩
    | inl s' => exact eRun_end hL k s' (EI_next hL hE e) (by have := mea_next hL hE e; omega)
end MACH3
