section RD5
variable {l : Launch} {w : jW} {h0 h : jH} {u : Nat} {t : Nat → Nat} {n : Nat} {hs : List (Nat × Nat × Nat)} {me sg bs : Nat} {a a' : Nat} {md md' : cMd} {r : Option Value} {dp d : Nat} {sub : Nat → PR}
/-- the number of the event behind one reading and its hold -/
def nxt (bs : Nat) (md : cMd) (pr : PR) : Nat := match md, pr with
  | some (some q), some p => bs + tl (p.2 bs q.2.1) + 1
  | _, _ => 0
theorem cRel_hd {pr : PR} {q' : Nat × Nat × Nat × (Nat → Int32)} (h : cRel me bs md pr a' md' r) (e : md' = some (some q')) : ∃ q, md = some (some q) ∧ q'.2.1 = q.2.1 ∧ q.1 ≤ q'.1 := by
  rcases md with _ | p
  · have := h.1; rw [e] at this; cases this
  · rcases cRel_cases (by simp) h with ⟨-, e2⟩ | ⟨f, -, e2, -⟩ | ⟨f, q, y, ev, m, F', -, e1, -, -, e5, -⟩
    · rw [e] at e2; cases e2
    · rw [e] at e2; cases e2
    · rw [e] at e5
      simp only [Option.some.injEq] at e5
      subst e5
      exact ⟨q, e1, rfl, by simp⟩
theorem Rep_low {F G : Nat → Int32} {P : Nat → Nat} {x : List Ev} {b c : Nat} (hb : P b + cpos x ≤ c) (hc : cmp P b x) (hk : ∀ p, p < c → G p = F p) (h : Rep F me P b x) : Rep G me P b x := Rep_keep x b hc (fun p _ p2 => hk p (by omega)) h
theorem opOk {F F1 F2 : Nat → Int32} {e1 e2 : List Ev} {c k hd : Nat} (hk : k = 5 ∨ k = 6 ∨ k = 7 ∨ k = 8) (l1 : ∀ p, p < c → F1 p = F p) (r1 : ∀ P : Nat → Nat, P bs = c → cmp P bs e1 → Rep F1 me P bs e1) (h1 : c + cpos e1 < 240)
    (l2 : ∀ p, p < c + cpos e1 + 1 → F2 p = emF (c + cpos e1) F1 (nI 3) (nI 0) p) (r2 : ∀ P : Nat → Nat, P (bs + e1.length + 1) = c + cpos e1 + 1 → cmp P (bs + e1.length + 1) e2 → Rep F2 me P (bs + e1.length + 1) e2) (h2 : c + cpos e1 + 1 + cpos e2 < 240) :
    (∀ p, p < c → emF (c + cpos e1 + 1 + cpos e2) F2 (nI k) (nI 0) p = F p) ∧ ∀ P : Nat → Nat, P bs = c → cmp P bs (e1 ++ (3, 0, hd, 1) :: (e2 ++ [(k, 0, hd + 1, 1)])) → Rep (emF (c + cpos e1 + 1 + cpos e2) F2 (nI k) (nI 0)) me P bs (e1 ++ (3, 0, hd, 1) :: (e2 ++ [(k, 0, hd + 1, 1)])) := by
  refine ⟨fun p hp => ?_, fun P hP hc => ?_⟩
  · rw [emF_low (by omega), l2 p (by omega), emF_low (by omega), l1 p hp]
  · rw [cmp_app] at hc
    obtain ⟨c1, c2⟩ := hc
    simp only [cmp] at c2
    obtain ⟨c3, c4⟩ := c2
    rw [cmp_app] at c4
    obtain ⟨c5, c6⟩ := c4
    have p1 := cmp_end e1 bs c1
    have k3 : kcl (3, 0, hd, 1) = 1 := rfl
    rw [k3] at c3
    have p2 := cmp_end e2 _ c5
    rw [Rep_app]
    refine ⟨?_, ?_⟩
    · exact Rep_low (c := c + cpos e1) (by omega) c1 (fun p hp => by rw [emF_low (by omega), l2 p (by omega), emF_low (by omega)]) (r1 P hP c1)
    · simp only [Rep]
      refine ⟨fun _ => ?_, ?_⟩
      · rw [p1, hP, emF_low (by omega), l2 _ (by omega), emF_at h1 (by omega) (by omega)]
        rfl
      · rw [Rep_app]
        refine ⟨?_, ?_⟩
        · exact Rep_low (c := c + cpos e1 + 1 + cpos e2) (by omega) c5 (fun p hp => emF_low (by omega)) (r2 P (by omega) c5)
        · refine rep_emit h2 (by omega) (by omega) (by omega) ?_
          rcases hk with rfl | rfl | rfl | rfl <;> rfl
/-- E op E, once both are read: what the class has done -/
theorem opRel {sub2 : Nat → PR} {k : Nat} {pr : PR} {a1 a2 a3 : Nat} {md1 md3 : cMd} {x1 x2 : Int32} {v : Nat} (hk : k = 5 ∨ k = 6 ∨ k = 7 ∨ k = 8) (hv : v = if k = 8 then 2 else 1) (hn : n ≤ 120) (hb1 : cBe a1 md1) (hb3 : cBe a3 md3) (ha1 : a1 ≤ n) (ha3 : a3 ≤ n) (hm : md ≠ none) (hy1 : ∀ f, pr = some (a1, f) → ∀ hd y e m, f bs hd = some (y, e, m) → y = 1 ∨ y = 2) (hz2 : szs sub2)
    (h1 : cRel me bs md pr a1 md1 (some (.int x1))) (hm1 : md1 ≠ none) (h2 : cRel me (nxt bs md pr) (oHo 1 (oNd 1 x1 md1)) (sub2 a2) a3 md3 (some (.int x2))) :
    (sub2 a2 = none ∧ md3 = none) ∨ ∃ f1 f2, pr = some (a1, f1) ∧ sub2 a2 = some (a3, f2) ∧ md3 ≠ none ∧ cRel me bs md (some (a3, fun bs hd => tOp k hd (f1 bs hd) (f2 (bs + tl (f1 bs hd) + 1) (hd + 1)))) a3 (oEm (nI k) (nI 0) (oRl 1 (oNd 1 x2 md3))) (some (.int (nI v))) := by
  rcases cRel_cases hm h1 with ⟨e1, rfl⟩ | ⟨f1, e1, rfl, e2⟩ | ⟨f1, q, y1, ev1, m1, F1, e1, rfl, e3, e4, rfl, e6, e7⟩
  · exact absurd rfl hm1
  · -- the first is not typed
    have hmd : oHo 1 (oNd 1 x1 (some none)) = some none := by simp only [oNd, ite_self]; rfl
    rw [hmd] at h2
    rcases cRel_cases (by simp) h2 with ⟨g1, rfl⟩ | ⟨f2, g1, rfl, -⟩ | ⟨f2, q2, y2, ev2, m2, F2, g1, g2, -⟩
    · exact Or.inl ⟨g1, rfl⟩
    · refine Or.inr ⟨f1, f2, e1, g1, by simp, ?_⟩
      refine cRel_b hm (by simp only [oNd, ite_self]; rfl) (fun q hq => ?_)
      simp only [tOp, e2 q hq]
    · cases g2
  · have hx1 : x1 = nI y1 := by simpa using e4
    subst hx1
    have hy1' := hy1 f1 e1 _ _ _ _ e3
    have b1 := hb1 _ rfl
    dsimp only at b1
    have hlt : q.1 + cpos ev1 < 240 := by omega
    have hnx : nxt bs (some (some q)) pr = bs + ev1.length + 1 := by
      rw [e1]; simp only [nxt, e3, tl]
    by_cases hy : (1 : Int32) = nI y1
    · have hy0 : y1 = 1 := ((nI_eq (a := 1) (b := y1) (by omega) (by omega)).mp hy).symm
      subst hy0
      have hn1 : oHo 1 (oNd 1 (nI 1) (some (some (q.1 + cpos ev1, q.2.1, max q.2.2.1 m1, F1)))) = some (some (q.1 + cpos ev1 + 1, q.2.1 + 1, max (max q.2.2.1 m1) (q.2.1 + 1), emF (q.1 + cpos ev1) F1 (nI 3) (nI 0))) := by
        have : (1 : Int32) = nI 1 := rfl
        simp only [oNd, ← this, if_true, oHo, emC_lt hlt]
        rfl
      rw [hn1] at h2
      rcases cRel_cases (by simp) h2 with ⟨g1, rfl⟩ | ⟨f2, g1, rfl, g2⟩ | ⟨f2, q2, y2, ev2, m2, F2, g1, g2, g3, g4, rfl, g6, g7⟩
      · exact Or.inl ⟨g1, rfl⟩
      · refine Or.inr ⟨f1, f2, e1, g1, by simp, ?_⟩
        refine cRel_b hm (by simp only [oNd, ite_self]; rfl) (fun q' hq' => ?_)
        cases hq'
        have := g2 _ rfl
        rw [hnx] at this
        simp only [tOp, e3, tl, this]
      · cases g2
        dsimp only at g3 g6 g7
        rw [hnx] at g3 g7
        have hx2 : x2 = nI y2 := by simpa using g4
        subst hx2
        have hy2' := (hz2 _ _ _ g1 _ _ _ _ _ g3).1
        have b3 := hb3 _ rfl
        dsimp only at b3
        refine Or.inr ⟨f1, f2, e1, g1, by simp, ?_⟩
        by_cases hz : (1 : Int32) = nI y2
        · have hz0 : y2 = 1 := ((nI_eq (a := 1) (b := y2) (by omega) (by omega)).mp hz).symm
          subst hz0
          obtain ⟨o1, o2⟩ := opOk (hd := q.2.1) hk e6 e7 hlt g6 g7 (by omega)
          have hv' : nI v = nI (if k = 8 then 2 else 1) := by rw [hv]
          rw [hv']
          refine cRel_o (F' := emF (q.1 + cpos ev1 + 1 + cpos ev2) F2 (nI k) (nI 0)) rfl (y := if k = 8 then 2 else 1) (e := ev1 ++ (3, 0, q.2.1, 1) :: (ev2 ++ [(k, 0, q.2.1 + 1, 1)])) (m := max m1 (max (q.2.1 + 1) m2)) ?_ ?_ o1 o2
          · simp only [tOp, e3, tl, g3]
          · have e9 : (1 : Int32) = nI 1 := rfl
            have k9 : kcl (k, 0, q.2.1 + 1, 1) = 1 := by simp only [kcl]; rw [if_neg (by omega)]
            simp only [oNd, ← e9, if_true, oRl, oEm, Option.some.injEq, Prod.mk.injEq]
            refine ⟨?_, by omega, by omega, trivial⟩
            rw [emC_lt (by omega)]
            simp only [cpos_app, cpos, k9]
            simp only [kcl]
            simp
            omega
        · have hz0 : y2 = 2 := by
            rcases hy2' with e | e
            · rw [e] at hz; exact absurd rfl hz
            · exact e
          subst hz0
          refine cRel_b hm (by simp only [oNd, if_neg hz]; rfl) (fun q' hq' => ?_)
          cases hq'
          simp only [tOp, e3, tl, g3]
    · have hy0 : y1 = 2 := by
        rcases hy1' with e | e
        · rw [e] at hy; exact absurd rfl hy
        · exact e
      subst hy0
      have hn1 : oHo 1 (oNd 1 (nI 2) (some (some (q.1 + cpos ev1, q.2.1, max q.2.2.1 m1, F1)))) = some none := by simp only [oNd, if_neg hy]; rfl
      rw [hn1] at h2
      rcases cRel_cases (by simp) h2 with ⟨g1, rfl⟩ | ⟨f2, g1, rfl, -⟩ | ⟨f2, q2, y2, ev2, m2, F2, g1, g2, -⟩
      · exact Or.inl ⟨g1, rfl⟩
      · refine Or.inr ⟨f1, f2, e1, g1, by simp, ?_⟩
        refine cRel_b hm (by simp only [oNd, ite_self]; rfl) (fun q' hq' => ?_)
        cases hq'
        simp only [tOp, e3]
      · cases g2
end RD5
