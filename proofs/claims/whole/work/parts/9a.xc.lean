/-- the arguments read behind q -/
def appC (cs : Option Nat) (q : TA) (qk : Nat → Nat → TA) : TA := match cs, q with
  | some _, some z => (match qk z.1.length z.2.2 with
    | none => none
    | some r => some (z.1 ++ r.1, max z.2.1 r.2.1, r.2.2))
  | _, _ => none
section XC
variable {h h0 g1 gE g g' : jH} {t : Nat → Nat} {n : Nat} {dc gd ty ip b : Bool} {H : Nat → Prop} {L c a s M ow nm k : Nat} {q qs : TA} {f f2 : CL} {e : List Ev} {tb : List HD} {cs : Option Nat} {qk : Nat → Nat → TA}
theorem lkp_none : ∀ (l : List (Nat × Nat × Nat)) (o m : Nat), lkp l o m = none → ∀ q ∈ l, ¬ (q.1 = o ∧ q.2.1 = m)
  | [], _, _, _, q, hq => by cases hq
  | p :: l, o, m, h, q, hq => by
    unfold lkp at h
    split at h
    · cases h
    · next c =>
      rcases List.mem_cons.mp hq with e | e
      · subst e; exact c
      · exact lkp_none l o m h q e
theorem lkp_lix (hd : dst tb) (hn : ∀ i (hi : i < tb.length), (tb[i]).2.1 < 26) (hnm : nm < 26) : lkp (tb.map h3) ow nm = (lix tb ow (nI nm) tb.length).map (fun i => ctI tb (some i)) := by
  cases e : lix tb ow (nI nm) tb.length with
  | none =>
    cases e2 : lkp (tb.map h3) ow nm with
    | none => rfl
    | some s =>
      obtain ⟨q, hq, h1, h2, -⟩ := lkp_in _ _ _ _ e2
      obtain ⟨d, hd1, rfl⟩ := List.mem_map.mp hq
      obtain ⟨i, hi, rfl⟩ := List.getElem_of_mem hd1
      exact absurd ⟨by rw [gtD hi]; exact h1, by rw [gtD hi]; exact congrArg nI h2⟩ (lix_none _ e i hi)
  | some i =>
    obtain ⟨hi, h1, h2⟩ := lix_some _ e
    rw [gtD hi] at h1 h2
    have h2' := (nI_eq (by have := hn i hi; omega) (by omega)).mp h2
    cases e2 : lkp (tb.map h3) ow nm with
    | none => exact absurd ⟨h1, h2'⟩ (lkp_none _ _ _ e2 (h3 tb[i]) (List.mem_map.mpr ⟨_, List.getElem_mem hi, rfl⟩))
    | some s =>
      obtain ⟨q, hq, g1, g2, g3⟩ := lkp_in _ _ _ _ e2
      obtain ⟨d, hd1, rfl⟩ := List.mem_map.mp hq
      obtain ⟨j, hj, rfl⟩ := List.getElem_of_mem hd1
      have hij : i = j := by
        rcases Nat.lt_trichotomy i j with z | z | z
        · exact absurd ⟨h1.trans g1.symm, h2'.trans g2.symm⟩ (hd i j hj z)
        · exact z
        · exact absurd ⟨g1.trans h1.symm, g2.trans h2'.symm⟩ (hd j i hi z)
      subst hij
      simp only [Option.map_some]
      rw [ctI_s hi, ← g3]
      rfl
theorem xE_arg (ha : a ≤ 1000) (E : xE g dc H c a (app (appC cs q qk) f) s ty) (T : dc = false → ∀ y, tyq (appC cs q qk) f = some y → (y = 1 ∨ y = 2) ∧ ip = (y == 2)) (hb : dc = false → ∀ sgc y, cs = some sgc → (y = 1 ∨ y = 2) → ip = (y == 2) → (b = true ↔ ta sgc (k + 1) = y)) (hg : dc = false → g'.1 70 31 = g.1 70 31 + (if ip then 2 else 1) ∧ g'.1 70 32 = (if g.1 70 31 + (if ip then 2 else 1) ≤ g.1 70 32 then g.1 70 32 else g.1 70 31 + (if ip then 2 else 1)) ∧ (∀ k j, 82 ≤ k → k ≤ 84 → j < 780 + s → g'.1 k j = g.1 k j)) : xE g' dc H c (a + 1) (appC cs q (fun bs hd => tArg cs k (qk bs hd) f bs)) s (ty && b) := by
  refine ⟨by have := E.1; omega, fun hdc => ?_⟩
  have E2 := E.2 hdc
  have T2 := T hdc
  have B2 := hb hdc
  obtain ⟨i1, i2, i3⟩ := hg hdc
  subst hdc
  cases cs with
  | none => have : ty = false := E2; rw [this]; rfl
  | some sgc =>
    cases q with
    | none => have : ty = false := E2; rw [this]; rfl
    | some z =>
      cases hq : qk z.1.length z.2.2 with
      | none =>
        have e1 : appC (some sgc) (some z) qk = none := by unfold appC; simp only [hq]
        rw [e1] at E2
        have : ty = false := E2
        rw [this]
        unfold appC
        simp only [hq, tArg]
        rfl
      | some r =>
        obtain ⟨e, m, hc⟩ := r
        have e1 : appC (some sgc) (some z) qk = some (z.1 ++ e, max z.2.1 m, hc) := by unfold appC; simp only [hq]
        rw [e1] at E2 T2
        unfold app at E2
        unfold tyq at T2
        simp only [List.length_append] at E2 T2
        unfold appC
        simp only [hq, tArg]
        cases hf : f (z.1.length + e.length) hc with
        | none =>
          rw [hf] at E2
          have : ty = false := E2
          rw [this]
          simp only [hf]
          rfl
        | some r2 =>
          obtain ⟨y, e2, m2⟩ := r2
          rw [hf] at E2 T2
          obtain ⟨d1, d2, d3, d4, d5, d6, d7⟩ := E2
          obtain ⟨t1, t2⟩ := T2 y rfl
          have hbb := B2 sgc y rfl t1 t2
          simp only [hf]
          by_cases hy : ta sgc (k + 1) = y
          · rw [if_pos hy, hbb.mpr hy, d1]
            have hv : (if ip = true then (2 : Int32) else 1) = nI y := by
              rw [t2]; rcases t1 with rfl | rfl <;> rfl
            rw [hv, d2, nI_add] at i1 i2
            rw [d4] at i3
            refine ⟨rfl, i1, ?_, by rw [d4]; rcases t1 with rfl | rfl <;> simp [rpos_app, rpos, krf] <;> omega, by dsimp only at d5 ⊢; omega, by dsimp only at d5 d6 ⊢; omega, ?_⟩
            · rw [i2, d3]
              dsimp only at d5 d6 ⊢
              have := nI_leI (a := hc + y) (b := max (max z.2.1 m) m2) (by omega) (by omega)
              by_cases c9 : hc + y ≤ max (max z.2.1 m) m2
              · rw [if_pos (this.mpr c9)]; congr 1; omega
              · rw [if_neg (fun w => c9 (this.mp w))]; congr 1; omega
            · dsimp only at d7 i3 ⊢
              rw [show z.1 ++ (e ++ (e2 ++ [(2 + y, 0, hc, y)])) = (z.1 ++ e ++ e2) ++ [(2 + y, 0, hc, y)] by simp]
              exact rR_silent (by rcases t1 with rfl | rfl <;> rfl) (rR_keep i3 d7)
          · rw [if_neg hy]
            have : b = false := by cases b; rfl; exact absurd (hbb.mp rfl) hy
            rw [this, Bool.and_false]
theorem xE_call (E : xE g dc H c a (appC cs q qk) s ty) (hsa : s + c + 2 ≤ a) (hb : dc = false → ∀ sgc, cs = some sgc → appC cs q qk ≠ none → (b = true ↔ ta sgc (k + 1) = 0)) (hg : dc = false → (∀ z, q = some z → appC cs q qk ≠ none → g'.1 70 31 = nI z.2.2 ∧ z.2.2 ≤ 2 * a) ∧ g'.1 70 32 = g.1 70 32 ∧ (∀ k j, 82 ≤ k → k ≤ 84 → j < 780 + s → g'.1 k j = g.1 k j) ∧ g'.1 82 (780 + s) = 10 ∧ g'.1 83 (780 + s) = nI (26 * ow + nm) ∧ g'.1 84 (780 + s) = g.1 70 31) : xE g' dc H c a (app q (fun bs hd => tCall cs ow nm k (qk bs hd))) (sD dc s) (ty && b) := by
  refine ⟨by unfold sD; split <;> omega, fun hdc => ?_⟩
  have E2 := E.2 hdc
  have B2 := hb hdc
  obtain ⟨i1, i2, i3, i4, i5, i6⟩ := hg hdc
  subst hdc
  cases q with
  | none =>
    have e1 : appC cs none qk = none := by unfold appC; cases cs <;> rfl
    rw [e1] at E2
    have : ty = false := E2
    rw [this]; rfl
  | some z =>
    cases cs with
    | none =>
      have : ty = false := E2
      rw [this]
      unfold app
      simp only [tCall]
      rfl
    | some sgc =>
      cases hq : qk z.1.length z.2.2 with
      | none =>
        have e1 : appC (some sgc) (some z) qk = none := by unfold appC; simp only [hq]
        rw [e1] at E2
        have : ty = false := E2
        rw [this]
        unfold app
        simp only [hq, tCall]
        rfl
      | some r =>
        obtain ⟨e, m, hc⟩ := r
        have e1 : appC (some sgc) (some z) qk = some (z.1 ++ e, max z.2.1 m, hc) := by unfold appC; simp only [hq]
        rw [e1] at E2 B2 i1
        obtain ⟨d1, d2, d3, d4, d5, d6, d7⟩ := E2
        have hbb := B2 sgc rfl (fun z => by cases z)
        obtain ⟨j1, j2⟩ := i1 z rfl (fun z => by cases z)
        unfold app
        simp only [hq, tCall]
        by_cases h0 : ta sgc (k + 1) = 0
        · rw [if_pos h0, hbb.mpr h0, d1]
          rw [d4] at i3 i4 i5 i6
          dsimp only at d2 d3 d4 d5 d6 d7 i3 i4 i5 i6 ⊢
          refine ⟨rfl, j1, by rw [i2]; exact d3, by rw [d4]; simp [sD, rpos_app, rpos, krf]; omega, by omega, by omega, ?_⟩
          rw [← List.append_assoc]
          refine rR_emit (fun z => by simp at z) (by rw [i4]; rfl) (fun _ => by rw [i5]; show _ = nI (ow * 26 + nm); rw [Nat.mul_comm]) (fun _ => by rw [i6]; exact d2) (rR_keep i3 d7)
        · rw [if_neg h0]
          have : b = false := by cases b; rfl; exact absurd (hbb.mp rfl) h0
          rw [this, Bool.and_false]
theorem tyq_call {y : Nat} (h : tyq q (fun bs hd => tCall cs ow nm k (qk bs hd)) = some y) : ∃ sgc, cs = some sgc ∧ y = ta sgc 0 := by
  unfold tyq at h
  cases q with
  | none => cases h
  | some z =>
    simp only at h
    cases cs with
    | none => simp only [tCall] at h; cases h
    | some sgc =>
      refine ⟨sgc, rfl, ?_⟩
      cases hq : qk z.1.length z.2.2 with
      | none => simp only [hq, tCall] at h; cases h
      | some r =>
        obtain ⟨e, m, hc⟩ := r
        simp only [hq, tCall] at h
        split at h
        · cases h
        · next r hr =>
          split at hr
          · simp only [Option.some.injEq] at hr h; rw [← h, ← hr]
          · cases hr
end XC
