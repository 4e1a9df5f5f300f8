/-! a choice -/
def pC1 (q : TA) (f1 : CL) : Nat := match q with
  | none => 0
  | some z => z.1.length + tl (f1 z.1.length z.2.2)
def pC2 (q : TA) (f1 f2 : CL) : Nat := match q with
  | none => 0
  | some z => z.1.length + tl (f1 z.1.length z.2.2) + 1 + tl (f2 (z.1.length + tl (f1 z.1.length z.2.2) + 1) z.2.2)
def qC1 (q : TA) (f1 f2 : CL) : TA := match q with
  | none => none
  | some z => match f1 z.1.length z.2.2 with
    | some (1, e1, m1) => some (z.1 ++ (e1 ++ [(11, z.1.length + e1.length + 1 + tl (f2 (z.1.length + e1.length + 1) z.2.2) + 1, z.2.2, 1)]), max z.2.1 m1, z.2.2)
    | _ => none
def qC2 (q : TA) (f1 f2 f3 : CL) : TA := match q with
  | none => none
  | some z => match f1 z.1.length z.2.2 with
    | some (1, e1, m1) => (match f2 (z.1.length + e1.length + 1) z.2.2 with
      | none => none
      | some (y, e2, m2) => some (z.1 ++ (e1 ++ [(11, z.1.length + e1.length + 1 + e2.length + 1, z.2.2, 1)]) ++ e2 ++ [(12, z.1.length + e1.length + 1 + e2.length + 1 + tl (f3 (z.1.length + e1.length + 1 + e2.length + 1) z.2.2), z.2.2, y)], max (max z.2.1 m1) m2, z.2.2))
    | _ => none
def choC (f1 f2 f3 : CL) : CL := fun bs hd => tCho bs hd (f1 bs hd) (f2 (bs + tl (f1 bs hd) + 1) hd) (f3 (bs + tl (f1 bs hd) + 1 + tl (f2 (bs + tl (f1 bs hd) + 1) hd) + 1) hd)
section XK
variable {h0 g g' : jH} {dc ty ip kp : Bool} {H H' : Nat → Prop} {c a s kq : Nat} {q : TA} {f f1 f2 f3 : CL} {e e1 e2 e3 : List Ev} {z : List Ev × Nat × Nat} {y m m1 m2 : Nat} {x : Ev}
theorem Rc_at {p : Nat} (h : p = e.length) : Rc e p = rpos e := by subst h; exact Rc_len
theorem rR_w (hH : ∀ p, H p → H' p) (R : rR g H e) : rR g H' e := fun p x hx kx => ⟨(R p x hx kx).1, fun z => (R p x hx kx).2.1 (fun u => z (hH p u)), (R p x hx kx).2.2⟩
theorem rR_eq (hk : ∀ k j, 82 ≤ k → k ≤ 84 → g'.1 k j = g.1 k j) (R : rR g H e) : rR g' H e := rR_keep (fun k j a b _ => hk k j a b) R
theorem y01 (hy : y ≠ 1) : y = 0 ∨ ∃ k, y = k + 2 := by rcases y with _ | _ | k; exact Or.inl rfl; exact absurd rfl hy; exact Or.inr ⟨k, rfl⟩
theorem qC1_0 (h : f1 z.1.length z.2.2 = none) : qC1 (some z) f1 f2 = none := by unfold qC1; simp only [h]
theorem qC1_e (h : f1 z.1.length z.2.2 = some (1, e1, m1)) : qC1 (some z) f1 f2 = some (z.1 ++ (e1 ++ [(11, z.1.length + e1.length + 1 + tl (f2 (z.1.length + e1.length + 1) z.2.2) + 1, z.2.2, 1)]), max z.2.1 m1, z.2.2) := by unfold qC1; simp only [h]
theorem qC1_n (h : f1 z.1.length z.2.2 = some (y, e1, m1)) (hy : y ≠ 1) : qC1 (some z) f1 f2 = none := by
  unfold qC1
  simp only [h]
  rcases y01 hy with rfl | ⟨k, rfl⟩ <;> rfl
theorem qC2_0 (h : f1 z.1.length z.2.2 = none) : qC2 (some z) f1 f2 f3 = none := by unfold qC2; simp only [h]
theorem qC2_n (h : f1 z.1.length z.2.2 = some (y, e1, m1)) (hy : y ≠ 1) : qC2 (some z) f1 f2 f3 = none := by
  unfold qC2
  simp only [h]
  rcases y01 hy with rfl | ⟨k, rfl⟩ <;> rfl
theorem qC2_f (h : f1 z.1.length z.2.2 = some (1, e1, m1)) (h2 : f2 (z.1.length + e1.length + 1) z.2.2 = none) : qC2 (some z) f1 f2 f3 = none := by unfold qC2; simp only [h, h2]
theorem qC2_e (h : f1 z.1.length z.2.2 = some (1, e1, m1)) (h2 : f2 (z.1.length + e1.length + 1) z.2.2 = some (y, e2, m2)) : qC2 (some z) f1 f2 f3 = some (z.1 ++ (e1 ++ [(11, z.1.length + e1.length + 1 + e2.length + 1, z.2.2, 1)]) ++ e2 ++ [(12, z.1.length + e1.length + 1 + e2.length + 1 + tl (f3 (z.1.length + e1.length + 1 + e2.length + 1) z.2.2), z.2.2, y)], max (max z.2.1 m1) m2, z.2.2) := by unfold qC2; simp only [h, h2]
theorem choC_0 (h : f1 z.1.length z.2.2 = none) : choC f1 f2 f3 z.1.length z.2.2 = none := by unfold choC; rw [h]; rfl
theorem choC_n (h : f1 z.1.length z.2.2 = some (y, e1, m1)) (hy : y ≠ 1) : choC f1 f2 f3 z.1.length z.2.2 = none := by
  unfold choC
  rw [h]
  rcases y01 hy with rfl | ⟨k, rfl⟩ <;> rfl
theorem choC_f (h : f1 z.1.length z.2.2 = some (1, e1, m1)) (h2 : f2 (z.1.length + e1.length + 1) z.2.2 = none) : choC f1 f2 f3 z.1.length z.2.2 = none := by
  unfold choC
  rw [h]
  show tCho _ _ (some (1, e1, m1)) (f2 (z.1.length + e1.length + 1) z.2.2) _ = none
  rw [h2]
  rfl
theorem choC_e (h : f1 z.1.length z.2.2 = some (1, e1, m1)) (h2 : f2 (z.1.length + e1.length + 1) z.2.2 = some (y, e2, m2)) : choC f1 f2 f3 z.1.length z.2.2 = tCho z.1.length z.2.2 (some (1, e1, m1)) (some (y, e2, m2)) (f3 (z.1.length + e1.length + 1 + e2.length + 1) z.2.2) := by
  unfold choC
  rw [h]
  show tCho _ _ (some (1, e1, m1)) (f2 (z.1.length + e1.length + 1) z.2.2) (f3 (z.1.length + e1.length + 1 + tl (f2 (z.1.length + e1.length + 1) z.2.2) + 1) z.2.2) = _
  rw [h2]
  rfl
theorem app_0 (h : f z.1.length z.2.2 = none) : app (some z) f = none := by unfold app; simp only [h]
theorem app_e (h : f z.1.length z.2.2 = some (y, e1, m1)) : app (some z) f = some (z.1 ++ e1, max z.2.1 m1, z.2.2) := by unfold app; simp only [h]
theorem tyq_e (h : f z.1.length z.2.2 = some (y, e1, m1)) : tyq (some z) f = some y := by unfold tyq; simp only [h]
theorem xE_ch0 (E : xE g dc H c a (app q f1) s ty) (T : dc = false → ∀ y, tyq q f1 = some y → (y = 1 ∨ y = 2) ∧ ip = (y == 2)) (hg : dc = false → g'.1 70 31 = g.1 70 31 ∧ g'.1 70 32 = g.1 70 32 ∧ (∀ k j, 82 ≤ k → k ≤ 84 → j < 780 + s → g'.1 k j = g.1 k j) ∧ g'.1 82 (780 + s) = 8) : xE g' dc (fun p => H p ∨ p = pC1 q f1) c (a + 1) (qC1 q f1 f2) (sD dc s) (ty && !ip) := by
  refine ⟨by have := E.1; unfold sD; split <;> omega, fun hdc => ?_⟩
  have E2 := E.2 hdc
  have T2 := T hdc
  obtain ⟨i1, i2, i3, i4⟩ := hg hdc
  subst hdc
  cases q with
  | none => have : ty = false := E2; rw [this]; rfl
  | some z =>
    cases h1 : f1 z.1.length z.2.2 with
    | none => rw [app_0 h1] at E2; have : ty = false := E2; rw [this, qC1_0 h1]; rfl
    | some r =>
      obtain ⟨y, e1, m1⟩ := r
      rw [app_e h1] at E2
      obtain ⟨d1, d2, d3, d4, d5, d6, d7⟩ := E2
      obtain ⟨t1, t2⟩ := T2 y (tyq_e h1)
      by_cases hy : y = 1
      · subst hy
        rw [qC1_e h1]
        dsimp only at d2 d3 d4 d5 d6 d7 ⊢
        rw [d4] at i3 i4
        refine ⟨by rw [d1, t2]; rfl, by rw [i1]; exact d2, by rw [i2]; exact d3, by rw [d4]; simp [sD, rpos_app, rpos, krf]; omega, by omega, by omega, ?_⟩
        rw [← List.append_assoc]
        refine rR_emit (fun _ => Or.inr ?_) (by rw [i4]; rfl) (fun u => absurd rfl u.1) (fun u => by cases u) (rR_keep i3 (rR_w (fun p u => Or.inl u) d7))
        show (z.1 ++ e1).length = z.1.length + tl (f1 z.1.length z.2.2)
        rw [h1, List.length_append]
        rfl
      · rw [qC1_n h1 hy]
        have : ip = true := by rw [t2]; rcases t1 with u | u; exact absurd u hy; rw [u]; rfl
        rw [this]
        simp
theorem xE_ch1 (E : xE g dc (fun p => H p ∨ p = pC1 q f1) c a (app (qC1 q f1 f2) f2) s ty) (hkq : dc = false → ∀ z e1 m1, q = some z → f1 z.1.length z.2.2 = some (1, e1, m1) → kq = rpos (z.1 ++ e1)) (hg : dc = false → g'.1 70 31 = g.1 70 31 ∧ g'.1 70 32 = g.1 70 32 ∧ (∀ k j, 82 ≤ k → k ≤ 84 → j < 780 + s → ¬ (k = 83 ∧ j = 780 + kq) → g'.1 k j = g.1 k j) ∧ g'.1 82 (780 + s) = 9 ∧ (kq < s → g'.1 83 (780 + kq) = nI (s + 1))) : xE g' dc (fun p => H p ∨ p = pC2 q f1 f2) c (a + 1) (qC2 q f1 f2 f3) (sD dc s) ty := by
  refine ⟨by have := E.1; unfold sD; split <;> omega, fun hdc => ?_⟩
  have E2 := E.2 hdc
  have K2 := hkq hdc
  obtain ⟨i1, i2, i3, i4, i5⟩ := hg hdc
  subst hdc
  cases q with
  | none => have : ty = false := E2; rw [this]; rfl
  | some z =>
    cases h1 : f1 z.1.length z.2.2 with
    | none => rw [qC1_0 h1] at E2; have : ty = false := E2; rw [this, qC2_0 h1]
    | some r =>
      obtain ⟨y1, e1, m1⟩ := r
      by_cases hy : y1 = 1
      · subst hy
        have hk := K2 z e1 m1 rfl h1
        rw [qC1_e h1] at E2
        have el : (z.1 ++ (e1 ++ [(11, z.1.length + e1.length + 1 + tl (f2 (z.1.length + e1.length + 1) z.2.2) + 1, z.2.2, 1)])).length = z.1.length + e1.length + 1 := by simp; omega
        cases h2 : f2 (z.1.length + e1.length + 1) z.2.2 with
        | none =>
          rw [app_0 (by dsimp only; rw [el]; exact h2)] at E2
          have : ty = false := E2
          rw [this, qC2_f h1 h2]
        | some r2 =>
          obtain ⟨y, e2, m2⟩ := r2
          rw [app_e (by dsimp only; rw [el]; exact h2)] at E2
          rw [qC2_e h1 h2]
          rw [h2] at E2
          obtain ⟨d1, d2, d3, d4, d5, d6, d7⟩ := E2
          dsimp only [tl] at d2 d3 d4 d5 d6 d7 ⊢
          have hp1 : pC1 (some z) f1 = z.1.length + e1.length := by show _ + tl (f1 z.1.length z.2.2) = _; rw [h1]; rfl
          have hp2 : pC2 (some z) f1 f2 = z.1.length + e1.length + 1 + e2.length := by
            show z.1.length + tl (f1 z.1.length z.2.2) + 1 + tl (f2 (z.1.length + tl (f1 z.1.length z.2.2) + 1) z.2.2) = _
            rw [h1]; dsimp only [tl]; rw [h2]
          rw [hp1] at d7
          rw [hp2]
          generalize hE : z.1 ++ (e1 ++ [(11, z.1.length + e1.length + 1 + e2.length + 1, z.2.2, 1)]) ++ e2 = EE at d4 d7 ⊢
          have hEl : EE.length = z.1.length + e1.length + 1 + e2.length := by rw [← hE]; simp; omega
          have hx0 : EE[z.1.length + e1.length]? = some (11, z.1.length + e1.length + 1 + e2.length + 1, z.2.2, 1) := by
            rw [← hE, List.append_assoc, List.append_assoc, ← List.append_assoc z.1 e1]
            rw [List.getElem?_append_right (by simp)]
            simp
          have hR0 : Rc EE (z.1.length + e1.length) = kq := by
            rw [hk]
            unfold Rc
            rw [← hE, List.append_assoc, List.append_assoc, ← List.append_assoc z.1 e1, List.take_append_of_le_length (by simp), List.take_of_length_le (by simp)]
          have hlt := Rc_lt hx0 rfl
          rw [hR0] at hlt
          refine ⟨d1, by rw [i1]; exact d2, by rw [i2]; exact d3, by rw [d4]; simp [sD, rpos_app, rpos, krf], by omega, by omega, ?_⟩
          obtain ⟨Ga, eGa⟩ : ∃ Ga : jH, Ga = (up2 g'.1 83 (780 + kq) (g.1 83 (780 + kq)), g'.2) := ⟨_, rfl⟩
          have RA : rR Ga (fun p => (H p ∨ p = z.1.length + e1.length + 1 + e2.length) ∨ p = z.1.length + e1.length) (EE ++ [(12, z.1.length + e1.length + 1 + e2.length + 1 + tl (f3 (z.1.length + e1.length + 1 + e2.length + 1) z.2.2), z.2.2, y)]) := by
            refine rR_emit (fun _ => Or.inl (Or.inr hEl)) ?_ (fun u => absurd rfl u.2) (fun u => by cases u) (rR_keep (g := g) ?_ (rR_w (fun p u => by rcases u with u | u; exact Or.inl (Or.inl u); exact Or.inr u) d7))
            · rw [eGa]; dsimp only; rw [up2_n (by omega), ← d4, i4]; rfl
            · intro k j u1 u2 u3
              rw [eGa]
              dsimp only
              by_cases cc : k = 83 ∧ j = 780 + kq
              · rw [cc.1, cc.2, up2_s]
              · rw [up2_n cc]; exact i3 k j u1 u2 (by omega) cc
          have RB := rR_patch (p0 := z.1.length + e1.length) (by rw [List.getElem?_append_left (by omega)]; exact hx0) (Or.inl rfl) (by dsimp only; rw [List.length_append, hEl]; simp) RA
          refine rR_eq (fun k j u1 u2 => ?_) RB
          dsimp only
          rw [Rc_app (by omega), hR0]
          have e9 : Rc (EE ++ [(12, z.1.length + e1.length + 1 + e2.length + 1 + tl (f3 (z.1.length + e1.length + 1 + e2.length + 1) z.2.2), z.2.2, y)]) (z.1.length + e1.length + 1 + e2.length + 1) = s + 1 := by
            rw [Rc_at (by rw [List.length_append, hEl]; rfl), rpos_app, d4]
            rfl
          rw [e9]
          by_cases cc : k = 83 ∧ j = 780 + kq
          · rw [cc.1, cc.2, up2_s]; exact i5 (by omega)
          · rw [up2_n cc, eGa]; dsimp only; rw [up2_n cc]
      · rw [qC1_n h1 hy] at E2; have : ty = false := E2; rw [this, qC2_n h1 hy]
theorem xE_ch2 (E : xE g dc (fun p => H p ∨ p = pC2 q f1 f2) c a (app (qC2 q f1 f2 f3) f3) s ty) (T : dc = false → ∀ y, tyq (qC2 q f1 f2 f3) f3 = some y → (y = 1 ∨ y = 2) ∧ ip = (y == 2)) (hkp : dc = false → ∀ y, tyq (qC1 q f1 f2) f2 = some y → (y = 1 ∨ y = 2) ∧ kp = (y == 2)) (hkq : dc = false → ∀ z e1 m1 y e2 m2, q = some z → f1 z.1.length z.2.2 = some (1, e1, m1) → f2 (z.1.length + e1.length + 1) z.2.2 = some (y, e2, m2) → kq = rpos (z.1 ++ (e1 ++ [(11, z.1.length + e1.length + 1 + e2.length + 1, z.2.2, 1)]) ++ e2)) (hg : dc = false → g'.1 70 31 = g.1 70 31 ∧ g'.1 70 32 = g.1 70 32 ∧ (∀ k j, 82 ≤ k → k ≤ 84 → ¬ (k = 83 ∧ j = 780 + kq) → g'.1 k j = g.1 k j) ∧ g'.1 83 (780 + kq) = nI s) : xE g' dc H c (a + 1) (app q (choC f1 f2 f3)) s (ty && ip == kp) ∧ (dc = false → ∀ y, tyq q (choC f1 f2 f3) = some y → (y = 1 ∨ y = 2) ∧ kp = (y == 2)) := by
  refine ⟨⟨by have := E.1; omega, fun hdc => ?_⟩, fun hdc y9 hy9 => ?_⟩
  · have E2 := E.2 hdc
    have T2 := T hdc
    have P2 := hkp hdc
    have K2 := hkq hdc
    obtain ⟨i1, i2, i3, i5⟩ := hg hdc
    subst hdc
    cases q with
    | none => have : ty = false := E2; rw [this]; rfl
    | some z =>
      cases h1 : f1 z.1.length z.2.2 with
      | none => rw [qC2_0 h1] at E2; have : ty = false := E2; rw [this, app_0 (choC_0 h1)]; rfl
      | some r =>
        obtain ⟨y1, e1, m1⟩ := r
        by_cases hy : y1 = 1
        · subst hy
          cases h2 : f2 (z.1.length + e1.length + 1) z.2.2 with
          | none => rw [qC2_f h1 h2] at E2; have : ty = false := E2; rw [this, app_0 (choC_f h1 h2)]; rfl
          | some r2 =>
            obtain ⟨y, e2, m2⟩ := r2
            have hk := K2 z e1 m1 y e2 m2 rfl h1 h2
            have el : (z.1 ++ (e1 ++ [(11, z.1.length + e1.length + 1 + tl (f2 (z.1.length + e1.length + 1) z.2.2) + 1, z.2.2, 1)])).length = z.1.length + e1.length + 1 := by simp; omega
            obtain ⟨p1, p2⟩ := P2 y (by rw [qC1_e h1]; exact tyq_e (by dsimp only; rw [el]; exact h2))
            have hC := choC_e (f3 := f3) h1 h2
            have hp2 : pC2 (some z) f1 f2 = z.1.length + e1.length + 1 + e2.length := by
              show z.1.length + tl (f1 z.1.length z.2.2) + 1 + tl (f2 (z.1.length + tl (f1 z.1.length z.2.2) + 1) z.2.2) = _
              rw [h1]; dsimp only [tl]; rw [h2]
            rw [qC2_e h1 h2] at E2 T2
            have hEl0 : (z.1 ++ (e1 ++ [(11, z.1.length + e1.length + 1 + e2.length + 1, z.2.2, 1)]) ++ e2).length = z.1.length + e1.length + 1 + e2.length := by simp; omega
            have el2 : (z.1 ++ (e1 ++ [(11, z.1.length + e1.length + 1 + e2.length + 1, z.2.2, 1)]) ++ e2 ++ [(12, z.1.length + e1.length + 1 + e2.length + 1 + tl (f3 (z.1.length + e1.length + 1 + e2.length + 1) z.2.2), z.2.2, y)]).length = z.1.length + e1.length + 1 + e2.length + 1 := by rw [List.length_append, hEl0]; rfl
            cases h3 : f3 (z.1.length + e1.length + 1 + e2.length + 1) z.2.2 with
            | none =>
              rw [app_0 (by dsimp only; rw [el2]; exact h3)] at E2
              have : ty = false := E2
              rw [this, app_0 (by rw [hC, h3]; rfl)]
              rfl
            | some r3 =>
              obtain ⟨y3, e3, m3⟩ := r3
              rw [app_e (by dsimp only; rw [el2]; exact h3)] at E2
              obtain ⟨t1, t2⟩ := T2 y3 (tyq_e (by dsimp only; rw [el2]; exact h3))
              obtain ⟨d1, d2, d3, d4, d5, d6, d7⟩ := E2
              rw [h3] at d4 d7
              rw [hp2] at d7
              dsimp only [tl] at d2 d3 d4 d5 d6 d7
              by_cases hyy : y = y3
              · subst hyy
                have hb : (ip == kp) = true := by rw [t2, p2]; simp
                have hC2 : choC f1 f2 f3 z.1.length z.2.2 = some (y, e1 ++ (11, z.1.length + e1.length + 1 + e2.length + 1, z.2.2, 1) :: (e2 ++ (12, z.1.length + e1.length + 1 + e2.length + 1 + e3.length, z.2.2, y) :: e3), max m1 (max m2 m3)) := by
                  rw [hC, h3]
                  show (if y = y then _ else none) = _
                  rw [if_pos rfl]
                rw [app_e hC2, hb, d1]
                have lE : z.1 ++ (e1 ++ (11, z.1.length + e1.length + 1 + e2.length + 1, z.2.2, 1) :: (e2 ++ (12, z.1.length + e1.length + 1 + e2.length + 1 + e3.length, z.2.2, y) :: e3)) = z.1 ++ (e1 ++ [(11, z.1.length + e1.length + 1 + e2.length + 1, z.2.2, 1)]) ++ e2 ++ [(12, z.1.length + e1.length + 1 + e2.length + 1 + e3.length, z.2.2, y)] ++ e3 := by simp
                rw [lE]
                dsimp only
                generalize hE : z.1 ++ (e1 ++ [(11, z.1.length + e1.length + 1 + e2.length + 1, z.2.2, 1)]) ++ e2 = EE at hk hEl0 d4 d7 ⊢
                have hx0 : (EE ++ [(12, z.1.length + e1.length + 1 + e2.length + 1 + e3.length, z.2.2, y)] ++ e3)[z.1.length + e1.length + 1 + e2.length]? = some (12, z.1.length + e1.length + 1 + e2.length + 1 + e3.length, z.2.2, y) := by
                  rw [List.append_assoc, List.getElem?_append_right (by omega), hEl0]
                  simp
                have hR0 : Rc (EE ++ [(12, z.1.length + e1.length + 1 + e2.length + 1 + e3.length, z.2.2, y)] ++ e3) (z.1.length + e1.length + 1 + e2.length) = kq := by
                  rw [hk, List.append_assoc, ← hEl0]
                  unfold Rc
                  rw [List.take_append_of_le_length (by omega), List.take_of_length_le (by omega)]
                have hlen : (EE ++ [(12, z.1.length + e1.length + 1 + e2.length + 1 + e3.length, z.2.2, y)] ++ e3).length = z.1.length + e1.length + 1 + e2.length + 1 + e3.length := by rw [List.length_append, List.length_append, hEl0]; rfl
                refine ⟨rfl, by rw [i1]; exact d2, by rw [i2, d3]; congr 1; omega, d4, by omega, by omega, ?_⟩
                have RB := rR_patch (p0 := z.1.length + e1.length + 1 + e2.length) hx0 (Or.inr rfl) (by dsimp only; rw [hlen]; exact Nat.le_refl _) d7
                refine rR_eq (fun k j u1 u2 => ?_) RB
                dsimp only
                rw [hR0, show Rc (EE ++ [(12, z.1.length + e1.length + 1 + e2.length + 1 + e3.length, z.2.2, y)] ++ e3) (z.1.length + e1.length + 1 + e2.length + 1 + e3.length) = s from by rw [Rc_at hlen.symm, d4]]
                by_cases cc : k = 83 ∧ j = 780 + kq
                · rw [cc.1, cc.2, up2_s]; exact i5
                · rw [up2_n cc]; exact i3 k j u1 u2 cc
              · have hb : (ip == kp) = false := by
                  rw [t2, p2]
                  rcases t1 with rfl | rfl <;> rcases p1 with rfl | rfl <;> first | rfl | exact absurd rfl hyy
                rw [hb, Bool.and_false, app_0 (by rw [hC, h3]; show (if y = y3 then _ else none) = none; rw [if_neg hyy])]
        · rw [qC2_n h1 hy] at E2; have : ty = false := E2; rw [this, app_0 (choC_n h1 hy)]; rfl
  · have P2 := hkp hdc
    cases q with
    | none => cases hy9
    | some z =>
      unfold tyq at hy9
      cases h1 : f1 z.1.length z.2.2 with
      | none => simp only [choC_0 h1] at hy9; cases hy9
      | some r =>
        obtain ⟨y1, e1, m1⟩ := r
        by_cases hy : y1 = 1
        · subst hy
          cases h2 : f2 (z.1.length + e1.length + 1) z.2.2 with
          | none => simp only [choC_f h1 h2] at hy9; cases hy9
          | some r2 =>
            obtain ⟨y, e2, m2⟩ := r2
            have el : (z.1 ++ (e1 ++ [(11, z.1.length + e1.length + 1 + tl (f2 (z.1.length + e1.length + 1) z.2.2) + 1, z.2.2, 1)])).length = z.1.length + e1.length + 1 := by simp; omega
            have PP := P2 y (by rw [qC1_e h1]; exact tyq_e (by dsimp only; rw [el]; exact h2))
            simp only [choC_e (f3 := f3) h1 h2] at hy9
            cases h3 : f3 (z.1.length + e1.length + 1 + e2.length + 1) z.2.2 with
            | none => rw [h3] at hy9; cases hy9
            | some r3 =>
              obtain ⟨y3, e3, m3⟩ := r3
              rw [h3] at hy9
              by_cases hyy : y = y3
              · subst hyy
                have e9 : tCho z.1.length z.2.2 (some (1, e1, m1)) (some (y, e2, m2)) (some (y, e3, m3)) = some (y, e1 ++ (11, z.1.length + e1.length + 1 + e2.length + 1, z.2.2, 1) :: (e2 ++ (12, z.1.length + e1.length + 1 + e2.length + 1 + e3.length, z.2.2, y) :: e3), max m1 (max m2 m3)) := by
                  show (if y = y then _ else none) = _
                  rw [if_pos rfl]
                rw [e9] at hy9
                simp only [Option.some.injEq] at hy9
                subst hy9
                exact PP
              · have e9 : tCho z.1.length z.2.2 (some (1, e1, m1)) (some (y, e2, m2)) (some (y3, e3, m3)) = none := by
                  show (if y = y3 then _ else none) = none
                  rw [if_neg hyy]
                rw [e9] at hy9
                cases hy9
        · simp only [choC_n h1 hy] at hy9; cases hy9
end XK
