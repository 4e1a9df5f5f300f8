def sD (dc : Bool) (s : Nat) : Nat := if dc then s else s + 1
section X3
variable {h0 g1 g g' : jH} {dc ty ip : Bool} {H : Nat → Prop} {L c a s : Nat} {q : TA} {f f2 : Nat → Nat → TI} {e : List Ev} {x y : Int32}
theorem emD_o {k j : Nat} (h : ¬ (82 ≤ k ∧ k ≤ 84 ∧ j = 780 + s)) (h2 : ¬ (k = 70 ∧ j = 21)) : (emD dc g s x y).1 k j = g.1 k j := by
  unfold emD
  split
  · rfl
  · show up2 (up2 (up2 (up2 g.1 82 (780 + s) x) 83 (780 + s) y) 84 (780 + s) (g.1 70 31)) 70 21 (nI (s + 1)) k j = _
    rw [up2_n (by omega), up2_n (by omega), up2_n (by omega), up2_n (by omega)]
theorem emD_21 (hs : g.1 70 21 = nI s) : (emD dc g s x y).1 70 21 = nI (sD dc s) := by
  unfold emD sD
  cases dc
  · show up2 (up2 (up2 (up2 g.1 82 (780 + s) x) 83 (780 + s) y) 84 (780 + s) (g.1 70 31)) 70 21 (nI (s + 1)) 70 21 = _
    rw [up2_s]; rfl
  · exact hs
theorem emD_82 : (emD false g s x y).1 82 (780 + s) = x := by
  show up2 (up2 (up2 (up2 g.1 82 (780 + s) x) 83 (780 + s) y) 84 (780 + s) (g.1 70 31)) 70 21 (nI (s + 1)) 82 (780 + s) = _
  rw [up2_n (by omega), up2_n (by omega), up2_n (by omega), up2_s]
theorem emD_83 : (emD false g s x y).1 83 (780 + s) = y := by
  show up2 (up2 (up2 (up2 g.1 82 (780 + s) x) 83 (780 + s) y) 84 (780 + s) (g.1 70 31)) 70 21 (nI (s + 1)) 83 (780 + s) = _
  rw [up2_n (by omega), up2_n (by omega), up2_s]
theorem emD_84 : (emD false g s x y).1 84 (780 + s) = g.1 70 31 := by
  show up2 (up2 (up2 (up2 g.1 82 (780 + s) x) 83 (780 + s) y) 84 (780 + s) (g.1 70 31)) 70 21 (nI (s + 1)) 84 (780 + s) = _
  rw [up2_n (by omega), up2_s]
theorem xF_emD (F : xF h0 g) : xF h0 (emD dc g s x y) := ⟨by rw [emD_ref]; exact F.1, fun k j z => by rw [emD_o (by omega) (by omega)]; exact F.2 k j z⟩
theorem lF_emD (F : lF L g1 g) : lF L g1 (emD dc g s x y) := fun k j a b c => by rw [emD_o (by omega) (by omega)]; exact F k j a b c
/-- a projection -/
theorem xE_prj {k : Nat} {kr : Int32} (hk : (k = 9 ∧ kr = 6) ∨ (k = 10 ∧ kr = 7)) (E : xE g dc H c a (app q f) s ty) (T : dc = false → ∀ y, tyq q f = some y → (y = 1 ∨ y = 2) ∧ ip = (y == 2)) (hg : dc = false → g'.1 70 31 = g.1 70 31 ∧ g'.1 70 32 = g.1 70 32 ∧ (∀ k j, 82 ≤ k → k ≤ 84 → j < 780 + s → g'.1 k j = g.1 k j) ∧ g'.1 82 (780 + s) = kr ∧ g'.1 83 (780 + s) = 0) : xE g' dc H c (a + 2) (app q (fun bs hd => tPrj k hd (f bs hd))) (sD dc s) (ty && ip) := by
  refine ⟨by have := E.1; unfold sD; split <;> omega, fun hdc => ?_⟩
  have E2 := E.2 hdc
  have T2 := T hdc
  obtain ⟨i1, i2, i3, i4, i5⟩ := hg hdc
  subst hdc
  unfold app tyq at *
  cases q with
  | none => simp only at E2 ⊢; rw [E2]; rfl
  | some z =>
    simp only at E2 T2 ⊢
    cases hz : f z.1.length z.2.2 with
    | none => simp only [hz, tPrj] at E2 ⊢; rw [E2]; rfl
    | some r =>
      obtain ⟨y, e, m⟩ := r
      simp only [hz] at E2 T2 ⊢
      obtain ⟨e1, e2, e3, e4, e5, e6, e7⟩ := E2
      obtain ⟨t1, t2⟩ := T2 y rfl
      rcases t1 with rfl | rfl
      · simp only [tPrj]; rw [t2]; simp
      · simp only [tPrj]
        refine ⟨by rw [e1, t2]; rfl, by rw [i1]; exact e2, by rw [i2]; exact e3, by rw [e4]; simp [sD, rpos_app, rpos, krf]; rcases hk with ⟨rfl, -⟩ | ⟨rfl, -⟩ <;> simp <;> omega, by omega, by omega, ?_⟩
        rw [← List.append_assoc]
        rw [e4] at i3 i4 i5
        refine rR_emit (fun z => by rcases hk with ⟨rfl, -⟩ | ⟨rfl, -⟩ <;> simp at z) ?_ ?_ (fun z => by rcases hk with ⟨rfl, -⟩ | ⟨rfl, -⟩ <;> simp at z) (rR_keep i3 e7)
        · rw [i4]; rcases hk with ⟨rfl, rfl⟩ | ⟨rfl, rfl⟩ <;> rfl
        · intro _; rw [i5]; rcases hk with ⟨rfl, rfl⟩ | ⟨rfl, rfl⟩ <;> rfl
/-- a number is held -/
theorem xE_hold (ha : a ≤ 1000) (E : xE g dc H c a (app q f) s ty) (T : dc = false → ∀ y, tyq q f = some y → (y = 1 ∨ y = 2) ∧ ip = (y == 2)) (hg : dc = false → g'.1 70 31 = g.1 70 31 + 1 ∧ g'.1 70 32 = (if g.1 70 31 + 1 ≤ g.1 70 32 then g.1 70 32 else g.1 70 31 + 1) ∧ (∀ k j, 82 ≤ k → k ≤ 84 → j < 780 + s → g'.1 k j = g.1 k j)) : xE g' dc H (c + 1) (a + 1) (hq1 q f) s (ty && !ip) := by
  refine ⟨by have := E.1; omega, fun hdc => ?_⟩
  have E2 := E.2 hdc
  have T2 := T hdc
  obtain ⟨i1, i2, i3⟩ := hg hdc
  subst hdc
  unfold app tyq at *
  unfold hq1
  cases q with
  | none => simp only at E2 ⊢; rw [E2]; rfl
  | some z =>
    simp only at E2 T2 ⊢
    cases hz : f z.1.length z.2.2 with
    | none => simp only [hz] at E2 ⊢; rw [E2]; rfl
    | some r =>
      obtain ⟨y, e, m⟩ := r
      simp only [hz] at E2 T2 ⊢
      obtain ⟨e1, e2, e3, e4, e5, e6, e7⟩ := E2
      obtain ⟨t1, t2⟩ := T2 y rfl
      rcases t1 with rfl | rfl
      · simp only
        rw [e4] at i3
        refine ⟨by rw [e1, t2]; rfl, by rw [i1, e2, nI_1], ?_, by rw [e4]; simp [rpos_app, rpos, krf], by omega, by omega, ?_⟩
        · rw [i2, e2, e3, nI_1]
          have := nI_leI (a := z.2.2 + 1) (b := max z.2.1 m) (by omega) (by omega)
          by_cases c9 : z.2.2 + 1 ≤ max z.2.1 m
          · rw [if_pos (this.mpr c9), Nat.max_eq_left c9]
          · rw [if_neg (fun w => c9 (this.mp w)), Nat.max_eq_right (by omega)]
        · rw [← List.append_assoc]
          exact rR_silent rfl (rR_keep i3 e7)
      · simp only; rw [t2]; simp
theorem hq1_f {z : List Ev × Nat × Nat} (h : f z.1.length z.2.2 = none) : hq1 (some z) f = none := by unfold hq1; simp only [h]
theorem hq1_1 {z : List Ev × Nat × Nat} {e : List Ev} {m : Nat} (h : f z.1.length z.2.2 = some (1, e, m)) : hq1 (some z) f = some (z.1 ++ (e ++ [(3, 0, z.2.2, 1)]), max (max z.2.1 m) (z.2.2 + 1), z.2.2 + 1) := by unfold hq1; simp only [h]
theorem hq1_n {z : List Ev × Nat × Nat} {y : Nat} {e : List Ev} {m : Nat} (h : f z.1.length z.2.2 = some (y, e, m)) (hy : y ≠ 1) : hq1 (some z) f = none := by
  unfold hq1
  simp only [h]
  split
  · next h9 => simp only [Option.some.injEq, Prod.mk.injEq] at h9; exact absurd h9.1 hy
  · rfl
/-- an operator of two numbers -/
theorem xE_op {k : Nat} {kr : Int32} (hk : (k = 5 ∧ kr = 3) ∨ (k = 6 ∧ kr = 4) ∨ (k = 7 ∧ kr = 5)) (E : xE g dc H (c + 1) a (app (hq1 q f) f2) s ty) (T : dc = false → ∀ y, tyq (hq1 q f) f2 = some y → (y = 1 ∨ y = 2) ∧ ip = (y == 2)) (hg : dc = false → g'.1 70 31 = g.1 70 31 - 1 ∧ g'.1 70 32 = g.1 70 32 ∧ (∀ k j, 82 ≤ k → k ≤ 84 → j < 780 + s → g'.1 k j = g.1 k j) ∧ g'.1 82 (780 + s) = kr ∧ g'.1 83 (780 + s) = 0) : xE g' dc H c a (app q (opC k f f2)) (sD dc s) (ty && !ip) := by
  refine ⟨by have := E.1; unfold sD; split <;> omega, fun hdc => ?_⟩
  have E2 := E.2 hdc
  have T2 := T hdc
  obtain ⟨i1, i2, i3, i4, i5⟩ := hg hdc
  subst hdc
  unfold opC
  cases q with
  | none => have : ty = false := E2; rw [this]; rfl
  | some z =>
    cases hz : f z.1.length z.2.2 with
    | none => rw [hq1_f hz] at E2; simp only [app, hz, tOp] at E2 ⊢; rw [E2]; rfl
    | some r =>
      obtain ⟨y, e, m⟩ := r
      by_cases y1 : y = 1
      · subst y1
        rw [hq1_1 hz] at E2 T2
        simp only [app, tyq, hz] at E2 T2 ⊢
        have el : (z.1 ++ (e ++ [(3, 0, z.2.2, 1)])).length = z.1.length + tl (some (1, e, m)) + 1 := by simp [tl]; omega
        rw [el] at E2 T2
        cases hz2 : f2 (z.1.length + tl (some (1, e, m)) + 1) (z.2.2 + 1) with
        | none => simp only [hz2, tOp] at E2 ⊢; rw [E2]; rfl
        | some r2 =>
          obtain ⟨y2, e', m2⟩ := r2
          simp only [hz2] at E2 T2 ⊢
          obtain ⟨e1, e2, e3, e4, e5, e6, e7⟩ := E2
          obtain ⟨t1, t2⟩ := T2 y2 rfl
          rcases t1 with rfl | rfl
          · simp only [tOp]
            rw [e4] at i3 i4 i5
            refine ⟨by rw [e1, t2]; rfl, by rw [i1, e2]; exact nI_pred _, by rw [i2, e3]; congr 1; omega, ?_, by omega, by omega, ?_⟩
            · rw [e4]; simp [sD, rpos_app, rpos, krf]; rcases hk with ⟨rfl, -⟩ | ⟨rfl, -⟩ | ⟨rfl, -⟩ <;> simp <;> omega
            · rw [show z.1 ++ (e ++ (3, 0, z.2.2, 1) :: (e' ++ [(k, 0, z.2.2 + 1, 1)])) = (z.1 ++ (e ++ [(3, 0, z.2.2, 1)]) ++ e') ++ [(k, 0, z.2.2 + 1, 1)] by simp]
              refine rR_emit (fun z => by rcases hk with ⟨rfl, -⟩ | ⟨rfl, -⟩ | ⟨rfl, -⟩ <;> simp at z) ?_ ?_ (fun z => by rcases hk with ⟨rfl, -⟩ | ⟨rfl, -⟩ | ⟨rfl, -⟩ <;> simp at z) (rR_keep i3 e7)
              · rw [i4]; rcases hk with ⟨rfl, rfl⟩ | ⟨rfl, rfl⟩ | ⟨rfl, rfl⟩ <;> rfl
              · intro _; rw [i5]; rcases hk with ⟨rfl, rfl⟩ | ⟨rfl, rfl⟩ | ⟨rfl, rfl⟩ <;> rfl
          · simp only [tOp]; rw [t2]; simp
      · rw [hq1_n hz y1] at E2
        have n2 : ∀ r2, tOp k z.2.2 (some (y, e, m)) r2 = none := by
          intro r2
          obtain rfl | ⟨y', rfl⟩ : y = 0 ∨ ∃ y', y = y' + 2 := by rcases y with _ | _ | y'; exact Or.inl rfl; exact absurd rfl y1; exact Or.inr ⟨y', rfl⟩
          · cases r2 <;> rfl
          · cases r2 <;> rfl
        simp only [app, hz, n2] at E2 ⊢
        rw [E2]; rfl
/-- a pair is made -/
theorem xE_pair (E : xE g dc H c a (app (hq1 q f) f2) s ty) (T : dc = false → ∀ y, tyq (hq1 q f) f2 = some y → (y = 1 ∨ y = 2) ∧ ip = (y == 2)) (hg : dc = false → g'.1 70 31 = g.1 70 31 - 1 ∧ g'.1 70 32 = g.1 70 32 ∧ (∀ k j, 82 ≤ k → k ≤ 84 → j < 780 + s → g'.1 k j = g.1 k j)) : xE g' dc H c (a + 1) (app q (opC 8 f f2)) s (ty && !ip) ∧ (dc = false → ∀ y, tyq q (opC 8 f f2) = some y → y = 2) := by
  refine ⟨⟨by have := E.1; omega, fun hdc => ?_⟩, fun hdc y hy => ?_⟩
  · have E2 := E.2 hdc
    have T2 := T hdc
    obtain ⟨i1, i2, i3⟩ := hg hdc
    subst hdc
    unfold opC
    cases q with
    | none => have : ty = false := E2; rw [this]; rfl
    | some z =>
      cases hz : f z.1.length z.2.2 with
      | none => rw [hq1_f hz] at E2; simp only [app, hz, tOp] at E2 ⊢; rw [E2]; rfl
      | some r =>
        obtain ⟨y, e, m⟩ := r
        by_cases y1 : y = 1
        · subst y1
          rw [hq1_1 hz] at E2 T2
          simp only [app, tyq, hz] at E2 T2 ⊢
          have el : (z.1 ++ (e ++ [(3, 0, z.2.2, 1)])).length = z.1.length + tl (some (1, e, m)) + 1 := by simp [tl]; omega
          rw [el] at E2 T2
          cases hz2 : f2 (z.1.length + tl (some (1, e, m)) + 1) (z.2.2 + 1) with
          | none => simp only [hz2, tOp] at E2 ⊢; rw [E2]; rfl
          | some r2 =>
            obtain ⟨y2, e', m2⟩ := r2
            simp only [hz2] at E2 T2 ⊢
            obtain ⟨e1, e2, e3, e4, e5, e6, e7⟩ := E2
            obtain ⟨t1, t2⟩ := T2 y2 rfl
            rcases t1 with rfl | rfl
            · simp only [tOp]
              rw [e4] at i3
              refine ⟨by rw [e1, t2]; rfl, by rw [i1, e2]; exact nI_pred _, by rw [i2, e3]; congr 1; omega, ?_, by omega, by omega, ?_⟩
              · rw [e4]; simp [rpos_app, rpos, krf]
              · rw [show z.1 ++ (e ++ (3, 0, z.2.2, 1) :: (e' ++ [(8, 0, z.2.2 + 1, 1)])) = (z.1 ++ (e ++ [(3, 0, z.2.2, 1)]) ++ e') ++ [(8, 0, z.2.2 + 1, 1)] by simp]
                exact rR_silent rfl (rR_keep i3 e7)
            · simp only [tOp]; rw [t2]; simp
        · rw [hq1_n hz y1] at E2
          have n2 : ∀ r2, tOp 8 z.2.2 (some (y, e, m)) r2 = none := by
            intro r2
            obtain rfl | ⟨y', rfl⟩ : y = 0 ∨ ∃ y', y = y' + 2 := by rcases y with _ | _ | y'; exact Or.inl rfl; exact absurd rfl y1; exact Or.inr ⟨y', rfl⟩
            · cases r2 <;> rfl
            · cases r2 <;> rfl
          simp only [app, hz, n2] at E2 ⊢
          rw [E2]; rfl
  · unfold tyq opC at hy
    cases q with
    | none => cases hy
    | some z =>
      simp only at hy
      split at hy
      · cases hy
      · next r hr =>
        simp only [Option.some.injEq] at hy
        unfold tOp at hr
        split at hr
        · simp only [Option.some.injEq] at hr; rw [← hy, ← hr]; rfl
        · cases hr
end X3
