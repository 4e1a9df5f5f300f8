section RDB
variable {l : Launch} {w : jW} {h0 h : jH} {u : Nat} {t : Nat → Nat} {n : Nat} {hs : List (Nat × Nat × Nat)} {me sg bs : Nat} {a a' : Nat} {md md' : cMd} {r : Option Value} {dp d : Nat} {sub : Nat → PR}
def argR (t : Nat → Nat) (n : Nat) (sub : Nat → PR) (cs : Option Nat) (a : Nat) : Option (Nat × Nat × (Nat → Nat → TA)) := if pek t n a = 41 then some (a, 0, fun _ hd => some ([], 0, hd)) else pArgs t n sub cs (n - a) 0 a (fun _ hd => some ([], 0, hd))
theorem pCall_eq {o m : Nat} : pCall t n hs sub o m a = match argR t n sub (lkp hs o m) a with
    | none => none
    | some p => if pek t n p.1 = 41 then some (p.1 + 1, fun bs hd => tCall (lkp hs o m) o m p.2.1 (p.2.2 bs hd)) else none := by
  unfold pCall argR
  by_cases c : pek t n a = 41
  · simp only [c, if_true]
  · simp only [c, if_false]
    rcases pArgs t n sub (lkp hs o m) (n - a) 0 a (fun _ hd => some ([], 0, hd)) with _ | ⟨a1, k, q⟩ <;> rfl
theorem argR_sz {cs : Option Nat} (hp : pgr n sub) (hz : szs sub) (ha : a ≤ n) {a1 k : Nat} {q : Nat → Nat → TA} (h : argR t n sub cs a = some (a1, k, q)) : (a ≤ a1 ∧ a1 ≤ n) ∧ ∀ bs hd e m hc, q bs hd = some (e, m, hc) → cpos e ≤ 2 * (a1 - a) ∧ rpos e ≤ a1 - a ∧ hc ≤ hd + 2 * (a1 - a) ∧ m ≤ hd + 2 * (a1 - a) := by
  unfold argR at h
  have q0 : ∀ bs hd e m hc, (fun (_ : Nat) (hd : Nat) => (some ([], 0, hd) : TA)) bs hd = some (e, m, hc) → cpos e ≤ 2 * (a - a) ∧ rpos e ≤ a - a ∧ hc ≤ hd + 2 * (a - a) ∧ m ≤ hd + 2 * (a - a) := by
    intro bs hd e mx hc q
    simp only [Option.some.injEq, Prod.mk.injEq] at q
    obtain ⟨rfl, rfl, rfl⟩ := q
    simp [cpos, rpos]
  split at h
  · next c =>
    simp only [Option.some.injEq, Prod.mk.injEq] at h
    obtain ⟨rfl, rfl, rfl⟩ := h
    exact ⟨⟨Nat.le_refl _, ha⟩, q0⟩
  · have h1 := pgr_Args hp _ _ _ _ _ _ _ _ h
    exact ⟨by omega, sz_Args hp hz _ _ _ _ _ _ _ _ a (Nat.le_refl _) q0 h⟩
/-- the words that a call's operand has in the class -/
def opX (me o m : Nat) : Nat := if o = 0 then me * 26 + m else (o - 1) * 26 + m
theorem callTy {cs : Option Nat} {o m k a2 a3 : Nat} {q : Nat → Nat → TA} {md3 : cMd} (hn : n ≤ 120) (hme : me < 6) (ho : o ≤ 6) (hm26 : m < 26) (ha : a + 2 ≤ a2) (ha2 : a2 ≤ a3) (ha3 : a3 ≤ n) (hb : cBd a md) (hq : ∀ bs hd e m hc, q bs hd = some (e, m, hc) → cpos e ≤ 2 * (a3 - a2) ∧ rpos e ≤ a3 - a2 ∧ hc ≤ hd + 2 * (a3 - a2) ∧ m ≤ hd + 2 * (a3 - a2))
    (hm : md ≠ none) (h : gRel me bs md (cs.getD 0) (some (a3, k, q)) a3 md3) :
    md3 ≠ none ∧ (cs = none → cRel me bs md (some (a3, fun bs hd => tCall cs o m k (q bs hd))) a3 (oBad (oEm (nI 12) (nI (opX me o m)) md3)) (some (.int 1))) ∧
    (∀ s, cs = some s → cRel me bs md (some (a3, fun bs hd => tCall cs o m k (q bs hd))) a3 (oEm (nI 12) (nI (opX me o m)) md3) (some (.int (nI (ta s 0))))) := by
  have hX : opX me o m < 200 := by unfold opX; split <;> omega
  rcases md with _ | _ | z
  · exact absurd rfl hm
  · have e : md3 = some none := h.2
    subst e
    exact ⟨by simp, fun _ => cRel_b (by simp) rfl (fun q e => by cases e), fun s _ => cRel_b (by simp) rfl (fun q e => by cases e)⟩
  · have hh := h.2
    rcases hqv : q bs z.2.1 with _ | ⟨e, mx, hc⟩
    · have e : md3 = some none := by
        have : (match q bs z.2.1 with
          | none => md3 = some none
          | some v => _) := hh
        rw [hqv] at this
        exact this
      subst e
      refine ⟨by simp, fun hc => cRel_b (by simp) rfl (fun q' e => ?_), fun s hs => cRel_b (by simp) rfl (fun q' e => ?_)⟩
      · cases e; rw [hc, hqv]; rfl
      · cases e; rw [hs, hqv]; rfl
    · have h5 : (if ta (cs.getD 0) (k + 1) = 0 then ∃ F' : Nat → Int32, md3 = some (some (z.1 + cpos e, z.2.1, max z.2.2.1 mx, F')) ∧ (∀ p, p < z.1 → F' p = z.2.2.2 p) ∧ ∀ P : Nat → Nat, P bs = z.1 → cmp P bs e → Rep F' me P bs e else md3 = some none) := by
        have : (match q bs z.2.1 with
          | none => md3 = some none
          | some v => if ta (cs.getD 0) (k + 1) = 0 then ∃ F' : Nat → Int32, md3 = some (some (z.1 + cpos v.1, z.2.1, max z.2.2.1 v.2.1, F')) ∧ (∀ p, p < z.1 → F' p = z.2.2.2 p) ∧ ∀ P : Nat → Nat, P bs = z.1 → cmp P bs v.1 → Rep F' me P bs v.1 else md3 = some none) := hh
        rw [hqv] at this
        exact this
      by_cases h0t : ta (cs.getD 0) (k + 1) = 0
      · rw [if_pos h0t] at h5
        obtain ⟨F', rfl, l1, r1⟩ := h5
        have b := hb z rfl
        have sz := hq _ _ _ _ _ hqv
        refine ⟨by simp, fun hcs => cRel_b (by simp) rfl (fun q' e' => ?_), fun s hcs => ?_⟩
        · cases e'; rw [hcs]; rfl
        · subst hcs
          refine cRel_o (F' := emF (z.1 + cpos e) F' (nI 12) (nI (opX me o m))) rfl (e := e ++ [(13, o * 26 + m, hc, 0)]) (m := mx) ?_ ?_ (fun p hp => by rw [emF_low (by omega), l1 p hp]) (fun P hP hcm => ?_)
          · show tCall (some s) o m k (q bs z.2.1) = _
            rw [hqv]
            exact if_pos h0t
          · simp only [oEm, Option.some.injEq, Prod.mk.injEq]
            refine ⟨?_, trivial⟩
            rw [emC_lt (by omega)]
            simp only [cpos_app, cpos, kcl]
            simp
            omega
          · rw [cmp_app] at hcm
            rw [Rep_app]
            have p1 := cmp_end e bs hcm.1
            refine ⟨Rep_low (c := z.1 + cpos e) (by omega) hcm.1 (fun p hp => emF_low hp) (r1 P hP hcm.1), ?_⟩
            refine rep_emit (by omega) (by omega) (by omega) (by omega) ?_
            simp only [enc, opX]
            by_cases z0 : o = 0
            · subst z0; simp [hm26]
            · rw [if_neg z0, if_neg (by omega)]
              congr 2
              omega
      · rw [if_neg h0t] at h5
        subst h5
        refine ⟨by simp, fun hcs => cRel_b (by simp) rfl (fun q' e' => ?_), fun s hcs => cRel_b (by simp) rfl (fun q' e' => ?_)⟩
        · cases e'; rw [hcs]; rfl
        · cases e'
          subst hcs
          show tCall (some s) o m k (q bs z.2.1) = none
          rw [hqv]
          exact if_neg h0t
theorem callRel {cs : Option Nat} {o m a1 a2 a3 : Nat} {md1 md2 md3 : cMd} (hn : n ≤ 120) (hme : me < 6) (ho : o ≤ 6) (hp : pgr n sub) (hz : szs sub) (hb : cBd a md) (hmn : md = none → a = n) (han : a ≤ n) (ha3 : a3 ≤ n)
    (hm9 : m = if 97 ≤ pek t n a ∧ pek t n a ≤ 122 then pek t n a - 97 else 0) (hcs : cs = lkp hs o m)
    (e1 : (a1, md1) = oAt (decide (97 ≤ pek t n a ∧ pek t n a ≤ 122)) n a (a + 1) md) (e2 : (a2, md2) = oAt (pek t n a1 == 40) n a1 (a1 + 1) md1)
    (h : gRel me bs md2 (cs.getD 0) (argR t n sub cs a2) a3 md3) :
    (cs = none → cRel me bs md (if (97 ≤ pek t n a ∧ pek t n a ≤ 122) ∧ pek t n (a + 1) = 40 then pCall t n hs sub o (pek t n a - 97) (a + 2) else none) (oAt (pek t n a3 == 41) n a3 (a3 + 1) md3).1 (oBad (oEm (nI 12) (nI (opX me o m)) (oAt (pek t n a3 == 41) n a3 (a3 + 1) md3).2)) (some (.int 1))) ∧
    (∀ s, cs = some s → cRel me bs md (if (97 ≤ pek t n a ∧ pek t n a ≤ 122) ∧ pek t n (a + 1) = 40 then pCall t n hs sub o (pek t n a - 97) (a + 2) else none) (oAt (pek t n a3 == 41) n a3 (a3 + 1) md3).1 (oEm (nI 12) (nI (opX me o m)) (oAt (pek t n a3 == 41) n a3 (a3 + 1) md3).2) (some (.int (nI (ta s 0))))) := by
  have fail : md3 = none → (md ≠ none → (if (97 ≤ pek t n a ∧ pek t n a ≤ 122) ∧ pek t n (a + 1) = 40 then pCall t n hs sub o (pek t n a - 97) (a + 2) else none) = none) → (cs = none → cRel me bs md (if (97 ≤ pek t n a ∧ pek t n a ≤ 122) ∧ pek t n (a + 1) = 40 then pCall t n hs sub o (pek t n a - 97) (a + 2) else none) (oAt (pek t n a3 == 41) n a3 (a3 + 1) md3).1 (oBad (oEm (nI 12) (nI (opX me o m)) (oAt (pek t n a3 == 41) n a3 (a3 + 1) md3).2)) (some (.int 1))) ∧
    (∀ s, cs = some s → cRel me bs md (if (97 ≤ pek t n a ∧ pek t n a ≤ 122) ∧ pek t n (a + 1) = 40 then pCall t n hs sub o (pek t n a - 97) (a + 2) else none) (oAt (pek t n a3 == 41) n a3 (a3 + 1) md3).1 (oEm (nI 12) (nI (opX me o m)) (oAt (pek t n a3 == 41) n a3 (a3 + 1) md3).2) (some (.int (nI (ta s 0))))) := by
    intro e hh
    subst e
    exact ⟨fun _ => cRel_f (by rw [oAt_none]; rfl) hh, fun s _ => cRel_f (by rw [oAt_none]; rfl) hh⟩
  by_cases c1 : ¬ (97 ≤ pek t n a ∧ pek t n a ≤ 122)
  · have e9 : decide (97 ≤ pek t n a ∧ pek t n a ≤ 122) = false := by simp only [c1, decide_false]
    rw [oAt_f e9] at e1
    cases e1
    have : md2 = none := by
      have := congrArg Prod.snd e2
      simpa [oAt_none] using this
    subst this
    exact fail h (fun _ => if_neg (fun q => c1 q.1))
  replace c1 := Classical.not_not.mp c1
  rw [oAt_t (by simp only [c1, and_self, decide_true])] at e1
  cases e1
  rw [if_pos c1] at hm9
  have hlt := pek_gt (c := 0) (t := t) (n := n) (a := a) (by omega)
  have hm : md ≠ none := fun e => by have := hmn e; omega
  by_cases c2 : ¬ pek t n (a + 1) = 40
  · rw [oAt_f (beq_f c2)] at e2
    cases e2
    exact fail h (fun _ => if_neg (fun q => c2 q.2))
  replace c2 := Classical.not_not.mp c2
  rw [oAt_t (beq_t c2)] at e2
  cases e2
  rw [if_pos ⟨c1, c2⟩] at fail ⊢
  rw [← hm9, pCall_eq, ← hcs] at fail ⊢
  have hlt2 := pek_in c2 (by decide)
  rcases hR : argR t n sub cs (a + 1 + 1) with _ | ⟨b3, k, q⟩
  · rw [hR] at h
    have e3 : md3 = none := by
      rcases md with _ | m'
      · exact absurd rfl hm
      · exact h
    subst e3
    exact ⟨fun _ => cRel_f (by rw [oAt_none]; rfl) (fun _ => rfl), fun s _ => cRel_f (by rw [oAt_none]; rfl) (fun _ => rfl)⟩
  · rw [hR] at h
    obtain ⟨h5, h6⟩ := argR_sz hp hz (by omega) hR
    have e3 : a3 = b3 := by
      rcases md with _ | _ | z
      · exact absurd rfl hm
      · exact h.1
      · exact h.1
    subst e3
    obtain ⟨t1, t2, t3⟩ := callTy (o := o) (m := m) hn hme ho (by omega) (by omega) h5.1 h5.2 hb h6 hm h
    by_cases c3 : ¬ pek t n a3 = 41
    · rw [oAt_f (beq_f c3)]
      simp only [if_neg c3]
      exact ⟨fun _ => cRel_f rfl (fun _ => rfl), fun s _ => cRel_f rfl (fun _ => rfl)⟩
    replace c3 := Classical.not_not.mp c3
    rw [oAt_t (beq_t c3)]
    simp only [if_pos c3]
    exact ⟨fun z => cRel_shift (t2 z), fun s z => cRel_shift (t3 s z)⟩
end RDB
