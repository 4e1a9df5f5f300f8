/-- the arguments read so far, in the class: mode and words -/
def aRel (me bs : Nat) (md : cMd) (q : Nat → Nat → TA) (md' : cMd) (wd : Int32) : Prop := match md with
  | none => md' = none
  | some none => md' = some none
  | some (some z) => match q bs z.2.1 with
    | none => md' = some none
    | some v => z.2.1 ≤ v.2.2 ∧ wd = nI (v.2.2 - z.2.1) ∧ ∃ F' : Nat → Int32, md' = some (some (z.1 + cpos v.1, v.2.2, max z.2.2.1 v.2.1, F')) ∧ (∀ p, p < z.1 → F' p = z.2.2.2 p) ∧ ∀ P : Nat → Nat, P bs = z.1 → cmp P bs v.1 → Rep F' me P bs v.1
def bsA (bs : Nat) (md : cMd) (q : Nat → Nat → TA) : Nat := match md with
  | some (some z) => (match q bs z.2.1 with
    | some v => bs + v.1.length
    | none => 0)
  | _ => 0
section RD9
variable {l : Launch} {w : jW} {h0 h : jH} {u : Nat} {t : Nat → Nat} {n : Nat} {hs : List (Nat × Nat × Nat)} {me sg bs : Nat} {a a' : Nat} {md md' : cMd} {r : Option Value} {dp d : Nat} {sub : Nat → PR}
theorem argOk {F F1 F2 : Nat → Int32} {e1 e2 : List Ev} {c y hc : Nat} (hy : y = 1 ∨ y = 2) (l1 : ∀ p, p < c → F1 p = F p) (r1 : ∀ P : Nat → Nat, P bs = c → cmp P bs e1 → Rep F1 me P bs e1)
    (l2 : ∀ p, p < c + cpos e1 → F2 p = F1 p) (r2 : ∀ P : Nat → Nat, P (bs + e1.length) = c + cpos e1 → cmp P (bs + e1.length) e2 → Rep F2 me P (bs + e1.length) e2) (h2 : c + cpos e1 + cpos e2 < 240) :
    (∀ p, p < c → emF (c + cpos e1 + cpos e2) F2 (nI (2 + y)) (nI 0) p = F p) ∧ ∀ P : Nat → Nat, P bs = c → cmp P bs (e1 ++ (e2 ++ [(2 + y, 0, hc, y)])) → Rep (emF (c + cpos e1 + cpos e2) F2 (nI (2 + y)) (nI 0)) me P bs (e1 ++ (e2 ++ [(2 + y, 0, hc, y)])) := by
  refine ⟨fun p hp => ?_, fun P hP hc => ?_⟩
  · rw [emF_low (by omega), l2 p (by omega), l1 p hp]
  · rw [cmp_app] at hc
    obtain ⟨c1, c2⟩ := hc
    rw [cmp_app] at c2
    obtain ⟨c5, c6⟩ := c2
    have p1 := cmp_end e1 bs c1
    have p2 := cmp_end e2 _ c5
    rw [Rep_app]
    refine ⟨?_, ?_⟩
    · exact Rep_low (c := c + cpos e1) (by omega) c1 (fun p hp => by rw [emF_low (by omega), l2 p hp]) (r1 P hP c1)
    · rw [Rep_app]
      refine ⟨?_, ?_⟩
      · exact Rep_low (c := c + cpos e1 + cpos e2) (by omega) c5 (fun p hp => emF_low (by omega)) (r2 P (by omega) c5)
      · refine rep_emit h2 (by omega) (by omega) (by omega) ?_
        rcases hy with rfl | rfl <;> rfl
theorem nd_z {x : Int32} {s k : Nat} (hx : x = nI s) : x = nI s := hx
theorem aStep {cs : Option Nat} {q : Nat → Nat → TA} {g : Nat → Nat → TI} {k ak a1 : Nat} {mk md1 : cMd} {x wd : Int32} (hn : n ≤ 120) (hzg : sz ak a1 g) (hb1 : cBe a1 md1) (ha1 : a1 ≤ n) (hmk : mk ≠ none) (hm1 : md1 ≠ none) (hm : md ≠ none)
    (hA : aRel me bs md q mk wd) (h : cRel me (bsA bs md q) mk (some (a1, g)) a1 md1 (some (.int x))) :
    aRel me bs md (fun bs hd => tArg cs k (q bs hd) g bs) (oHo x.toNatClampNeg (oNd (nI (ta (cs.getD 0) (k + 1))) x md1)) (wd + x) := by
  rcases md with _ | _ | z
  · exact absurd rfl hm
  · have : mk = some none := hA
    subst this
    have := cRel_bad' (f := g) h hm1
    subst this
    show oHo _ (oNd _ _ (some none)) = some none
    rw [oNd_bad]; rfl
  · show (match tArg cs k (q bs z.2.1) g bs with
      | none => _
      | some v => _)
    have hA' : (match q bs z.2.1 with
      | none => mk = some none
      | some v => z.2.1 ≤ v.2.2 ∧ wd = nI (v.2.2 - z.2.1) ∧ ∃ F' : Nat → Int32, mk = some (some (z.1 + cpos v.1, v.2.2, max z.2.2.1 v.2.1, F')) ∧ (∀ p, p < z.1 → F' p = z.2.2.2 p) ∧ ∀ P : Nat → Nat, P bs = z.1 → cmp P bs v.1 → Rep F' me P bs v.1) := hA
    rcases hq : q bs z.2.1 with _ | ⟨e1, m1, hc1⟩
    · rw [hq] at hA'
      have : mk = some none := hA'
      subst this
      have := cRel_bad' (f := g) h hm1
      subst this
      have e : tArg cs k none g bs = none := by unfold tArg; cases cs <;> rfl
      rw [e]
      show oHo _ (oNd _ _ (some none)) = some none
      rw [oNd_bad]; rfl
    · rw [hq] at hA'
      obtain ⟨b1, b2, F1, rfl, l1, r1⟩ := hA'
      dsimp only at b1 b2 l1 r1
      have hbs : bsA bs (some (some z)) q = bs + e1.length := by simp only [bsA, hq]
      rw [hbs] at h
      rcases cRel_cases (by simp) h with ⟨g1, -⟩ | ⟨f, g1, rfl, g2⟩ | ⟨f, q2, y, ev2, m2, F2, g1, g2, g3, g4, rfl, g6, g7⟩
      · cases g1
      · cases g1
        have g2' := g2 _ rfl
        dsimp only at g2'
        have e : tArg cs k (some (e1, m1, hc1)) g bs = none := by unfold tArg; cases cs <;> simp [g2']
        rw [e]
        show oHo _ (oNd _ _ (some none)) = some none
        rw [oNd_bad]; rfl
      · cases g1
        cases g2
        dsimp only at g3 g6 g7
        have hx : x = nI y := by simpa using g4
        subst hx
        have hy := (hzg _ _ _ _ _ g3).1
        have b5 := hb1 _ rfl
        dsimp only at b5
        have ht := ta_le (cs.getD 0) (k + 1)
        rw [nI_clamp (by omega)]
        by_cases hz : nI (ta (cs.getD 0) (k + 1)) = nI y
        · have hz0 : ta (cs.getD 0) (k + 1) = y := (nI_eq (by omega) (by omega)).mp hz
          rcases cs with _ | s
          · exfalso
            have : ta 0 (k + 1) = 0 := by unfold ta; split <;> simp
            simp only [Option.getD] at hz0
            omega
          · simp only [Option.getD] at hz0
            have e : tArg (some s) k (some (e1, m1, hc1)) g bs = some (e1 ++ (ev2 ++ [(2 + y, 0, hc1, y)]), max m1 (max m2 (hc1 + y)), hc1 + y) := by
              simp only [tArg, g3, hz0, if_true]
            rw [e]
            obtain ⟨o1, o2⟩ := argOk (hc := hc1) hy l1 r1 g6 g7 (by omega)
            refine ⟨by dsimp only; omega, by rw [b2, nI_add]; congr 1; dsimp only; omega, emF (z.1 + cpos e1 + cpos ev2) F2 (nI (2 + y)) (nI 0), ?_, o1, o2⟩
            rw [show (some s).getD 0 = s from rfl, hz0, oNd_t rfl]
            have e2 : (if y = 2 then (4 : Int32) else 3) = nI (2 + y) := by rcases hy with rfl | rfl <;> rfl
            have e3 : kcl (2 + y, 0, hc1, y) = 1 := by simp only [kcl]; rw [if_neg (by omega)]
            simp only [oHo, e2, Option.some.injEq, Prod.mk.injEq]
            refine ⟨?_, trivial, by omega, rfl⟩
            rw [emC_lt (by omega)]
            simp only [cpos_app, cpos, e3]
            omega
        · have e : tArg cs k (some (e1, m1, hc1)) g bs = none := by
            rcases cs with _ | s
            · rfl
            · simp only [tArg, g3]
              rw [if_neg (fun e => hz (by rw [show (some s).getD 0 = s from rfl, e]))]
          rw [e]
          show oHo _ (oNd _ _ _) = some none
          rw [oNd_b2 hz]; rfl
theorem aRel_ne {q : Nat → Nat → TA} {mk : cMd} {wd : Int32} (hm : md ≠ none) (hA : aRel me bs md q mk wd) : mk ≠ none := by
  rcases md with _ | _ | z
  · exact absurd rfl hm
  · have : mk = some none := hA
    rw [this]; simp
  · unfold aRel at hA
    split at hA
    · cases ‹some (some z) = none›
    · rw [hA]; simp
    · next z' e =>
      split at hA
      · rw [hA]; simp
      · obtain ⟨-, -, F', e, -⟩ := hA
        rw [e]; simp
end RD9
