section RD8
variable {l : Launch} {w : jW} {h0 h : jH} {u : Nat} {t : Nat → Nat} {n : Nat} {hs : List (Nat × Nat × Nat)} {me sg bs : Nat} {a a' : Nat} {md md' : cMd} {r : Option Value} {dp d : Nat} {sub : Nat → PR}
theorem oEm_none {x y : Int32} : oEm x y none = none := rfl
theorem oLa_none {j : Nat} : oLa j none = none := rfl
theorem oNd_none {x y : Int32} : oNd x y none = none := rfl
theorem oNd_bad {x y : Int32} : oNd x y (some none) = some none := by simp only [oNd, ite_self]
theorem oNd_b2 {x y : Int32} {q : Nat × Nat × Nat × (Nat → Int32)} (h : ¬ x = y) : oNd x y (some (some q)) = some none := by simp only [oNd, if_neg h]
theorem oNd_t {x y : Int32} {m : Option (Nat × Nat × Nat × (Nat → Int32))} (h : x = y) : oNd x y (some m) = some m := by simp only [oNd, if_pos h]
/-- the typed part of a choice, all three having been read -/
theorem choTy {f1 f2 f3 : Nat → Nat → TI} {a1 a2 a3 j1 j2 : Nat} {md1 md3 md5 : cMd} {x1 x2 x3 : Int32} (hn : n ≤ 120) (hz1 : sz (a + 1) a1 f1) (hz2 : sz (a1 + 1) a2 f2) (hz3 : sz (a2 + 1) a3 f3) (hb1 : cBe a1 md1) (hb3 : cBe a2 md3) (hb5 : cBe a3 md5) (ha1 : a1 ≤ n) (ha2 : a2 ≤ n) (ha3 : a3 ≤ n)
    (hj1 : ∀ q, oNd 1 x1 md1 = some (some q) → j1 = q.1) (hj2 : ∀ q, md3 = some (some q) → j2 = q.1) (hm : md ≠ none) (hm1 : md1 ≠ none) (hm3 : md3 ≠ none) (hm5 : md5 ≠ none)
    (h1 : cRel me bs md (some (a1, f1)) a1 md1 (some (.int x1)))
    (h2 : cRel me (nxt bs md (some (a1, f1))) (oEm (nI 10) (nI 0) (oNd 1 x1 md1)) (some (a2, f2)) a2 md3 (some (.int x2)))
    (h3 : cRel me (nxt (nxt bs md (some (a1, f1))) (oEm (nI 10) (nI 0) (oNd 1 x1 md1)) (some (a2, f2))) (oLa j1 (oEm (nI 11) (nI 0) md3)) (some (a3, f3)) a3 md5 (some (.int x3))) :
    cRel me bs md (some (a3, fun bs hd => tCho bs hd (f1 bs hd) (f2 (bs + tl (f1 bs hd) + 1) hd) (f3 (bs + tl (f1 bs hd) + 1 + tl (f2 (bs + tl (f1 bs hd) + 1) hd) + 1) hd))) a3 (oLa j2 (oNd x2 x3 md5)) (some (.int x2)) := by
  have bad : oLa j2 (oNd x2 x3 (some none)) = some none := by rw [oNd_bad]; rfl
  rcases cRel_cases hm h1 with ⟨e1, -⟩ | ⟨f, e1, rfl, e2⟩ | ⟨f, q, y1, ev1, m1, F1, e1, rfl, e3, e4, rfl, e6, e7⟩
  · cases e1
  · cases e1
    rw [oNd_bad] at h2
    have g := cRel_bad' (f := f2) h2 hm3
    subst g
    have g := cRel_bad' (f := f3) h3 hm5
    subst g
    refine cRel_b hm bad (fun q hq => ?_)
    simp only [tCho, e2 q hq]
  · cases e1
    have hx1 : x1 = nI y1 := by simpa using e4
    subst hx1
    have y1' := (hz1 _ _ _ _ _ e3).1
    have b1 := hb1 _ rfl
    dsimp only at b1
    have hnx : nxt bs (some (some q)) (some (a1, f1)) = bs + ev1.length + 1 := by simp only [nxt, e3, tl]
    rw [hnx] at h2 h3
    by_cases hy : (1 : Int32) = nI y1
    · have hy0 : y1 = 1 := ((nI_eq (a := 1) (b := y1) (by omega) (by omega)).mp hy).symm
      subst hy0
      rw [oNd_t (show (1 : Int32) = nI 1 from rfl)] at h2 h3
      have hj1' := hj1 _ (oNd_t rfl)
      dsimp only at hj1'
      subst hj1'
      have hE1 : oEm (nI 10) (nI 0) (some (some (q.1 + cpos ev1, q.2.1, max q.2.2.1 m1, F1))) = some (some (q.1 + cpos ev1 + 1, q.2.1, max q.2.2.1 m1, emF (q.1 + cpos ev1) F1 (nI 10) (nI 0))) := by
        simp only [oEm, emC_lt (show q.1 + cpos ev1 < 240 by omega)]
      rw [hE1] at h2 h3
      rcases cRel_cases (by simp) h2 with ⟨g1, -⟩ | ⟨f, g1, rfl, g2⟩ | ⟨f, q2, y2, ev2, m2, F2, g1, g2, g3, g4, rfl, g6, g7⟩
      · cases g1
      · cases g1
        have g := cRel_bad' (f := f3) h3 hm5
        subst g
        refine cRel_b hm bad (fun q' hq' => ?_)
        cases hq'
        have := g2 _ rfl
        dsimp only at this
        simp only [tCho, e3, tl, this]
      · cases g1
        cases g2
        dsimp only at g3 g6 g7
        have hx2 : x2 = nI y2 := by simpa using g4
        subst hx2
        have y2' := (hz2 _ _ _ _ _ g3).1
        have b3 := hb3 _ rfl
        dsimp only at b3
        have hj2' := hj2 _ rfl
        dsimp only at hj2'
        subst hj2'
        have hnx2 : nxt (bs + ev1.length + 1) (some (some (q.1 + cpos ev1 + 1, q.2.1, max q.2.2.1 m1, emF (q.1 + cpos ev1) F1 (nI 10) (nI 0)))) (some (a2, f2)) = bs + ev1.length + 1 + ev2.length + 1 := by simp only [nxt, g3, tl]
        rw [hnx2] at h3
        have hE2 : oLa (q.1 + cpos ev1) (oEm (nI 11) (nI 0) (some (some (q.1 + cpos ev1 + 1 + cpos ev2, q.2.1, max (max q.2.2.1 m1) m2, F2)))) = some (some (q.1 + cpos ev1 + 1 + cpos ev2 + 1, q.2.1, max (max q.2.2.1 m1) m2, va_up (emF (q.1 + cpos ev1 + 1 + cpos ev2) F2 (nI 11) (nI 0)) (q.1 + cpos ev1) (emF (q.1 + cpos ev1 + 1 + cpos ev2) F2 (nI 11) (nI 0) (q.1 + cpos ev1) ||| nI (q.1 + cpos ev1 + 1 + cpos ev2 + 1) <<< ((4 : Int32) &&& 31)))) := by
          simp only [oEm, oLa, emC_lt (show q.1 + cpos ev1 + 1 + cpos ev2 < 240 by omega)]
          rw [if_pos (by omega)]
        rw [hE2] at h3
        rcases cRel_cases (by simp) h3 with ⟨k1, -⟩ | ⟨f, k1, rfl, k2⟩ | ⟨f, q3, y3, ev3, m3, F3, k1, k2, k3, k4, rfl, k6, k7⟩
        · cases k1
        · cases k1
          refine cRel_b hm bad (fun q' hq' => ?_)
          cases hq'
          have := k2 _ rfl
          dsimp only at this
          simp only [tCho, e3, tl, g3, this]
        · cases k1
          cases k2
          dsimp only at k3 k6 k7
          have hx3 : x3 = nI y3 := by simpa using k4
          subst hx3
          have y3' := (hz3 _ _ _ _ _ k3).1
          have b5 := hb5 _ rfl
          dsimp only at b5
          by_cases hz : nI y2 = nI y3
          · have hz0 : y2 = y3 := (nI_eq (by omega) (by omega)).mp hz
            subst hz0
            obtain ⟨o1, o2⟩ := choOk (hd := q.2.1) (y := y2) e6 e7 (by omega) g6 g7 (by omega) k6 k7 (by omega)
            refine cRel_o (F' := va_up F3 (q.1 + cpos ev1 + 1 + cpos ev2) (F3 (q.1 + cpos ev1 + 1 + cpos ev2) ||| nI (q.1 + cpos ev1 + 1 + cpos ev2 + 1 + cpos ev3) <<< ((4 : Int32) &&& 31))) rfl (m := max m1 (max m2 m3)) ?_ ?_ o1 o2
            · simp only [tCho, e3, tl, g3, k3, if_true]
            · rw [oNd_t rfl]
              simp only [oLa, Option.some.injEq, Prod.mk.injEq]
              refine ⟨?_, trivial, by omega, ?_⟩
              · simp only [cpos_app, cpos, kcl]
                simp
                omega
              · rw [if_pos (by omega)]
          · refine cRel_b hm (by rw [oNd_b2 hz]; rfl) (fun q' hq' => ?_)
            cases hq'
            simp only [tCho, e3, tl, g3, k3]
            rw [if_neg (fun e => hz (by rw [e]))]
    · have hy0 : y1 = 2 := by
        rcases y1' with e | e
        · rw [e] at hy; exact absurd rfl hy
        · exact e
      subst hy0
      rw [oNd_b2 hy] at h2 h3
      have g := cRel_bad' (f := f2) h2 hm3
      subst g
      have g := cRel_bad' (f := f3) h3 hm5
      subst g
      refine cRel_b hm bad (fun q' hq' => ?_)
      cases hq'
      simp only [tCho, e3]
theorem choRel {a1 a2 a3 j1 j2 : Nat} {md1 md3 md5 : cMd} {x1 x2 x3 : Int32} (hn : n ≤ 120) (hz : szs sub) (hm : md ≠ none) (hb1 : cBe a1 md1) (hb3 : cBe a2 md3) (hb5 : cBe a3 md5) (ha1 : a1 ≤ n) (ha2 : a2 ≤ n) (ha3 : a3 ≤ n)
    (hj1 : ∀ q, oNd 1 x1 md1 = some (some q) → j1 = q.1) (hj2 : ∀ q, md3 = some (some q) → j2 = q.1)
    (h1 : cRel me bs md (sub (a + 1)) a1 md1 (some (.int x1)))
    (h2 : cRel me (nxt bs md (sub (a + 1))) (oAt (pek t n a1 == 63) n a1 (a1 + 1) (oEm (nI 10) (nI 0) (oNd 1 x1 md1))).2 (sub (oAt (pek t n a1 == 63) n a1 (a1 + 1) (oEm (nI 10) (nI 0) (oNd 1 x1 md1))).1) a2 md3 (some (.int x2)))
    (h3 : cRel me (nxt (nxt bs md (sub (a + 1))) (oAt (pek t n a1 == 63) n a1 (a1 + 1) (oEm (nI 10) (nI 0) (oNd 1 x1 md1))).2 (sub (oAt (pek t n a1 == 63) n a1 (a1 + 1) (oEm (nI 10) (nI 0) (oNd 1 x1 md1))).1)) (oLa j1 (oAt (pek t n a2 == 58) n a2 (a2 + 1) (oEm (nI 11) (nI 0) md3)).2) (sub (oAt (pek t n a2 == 58) n a2 (a2 + 1) (oEm (nI 11) (nI 0) md3)).1) a3 md5 (some (.int x3))) :
    cRel me bs md (pCho t n sub a) (oAt (pek t n a3 == 93) n a3 (a3 + 1) (oLa j2 (oNd x2 x3 md5))).1 (oAt (pek t n a3 == 93) n a3 (a3 + 1) (oLa j2 (oNd x2 x3 md5))).2 (some (.int x2)) := by
  have key : ∀ {m : cMd}, m = none → (oAt (pek t n a3 == 93) n a3 (a3 + 1) (oLa j2 (oNd x2 x3 m))).2 = none := fun e => by rw [e]; exact oAt_none
  rcases cRel_syn hm h1 with ⟨e1, rfl⟩ | ⟨f1, e1, hm1⟩
  · rw [show (oAt (pek t n a1 == 63) n a1 (a1 + 1) (oEm (nI 10) (nI 0) (oNd 1 x1 none))).2 = none from oAt_none] at h2
    have g := cRel_n h2
    subst g
    rw [show oLa j1 (oAt (pek t n a2 == 58) n a2 (a2 + 1) (oEm (nI 11) (nI 0) none)).2 = none from by rw [oEm_none, oAt_none]; rfl] at h3
    refine cRel_f (key (cRel_n h3)) (fun _ => ?_)
    unfold pCho; rw [e1]
  rw [e1] at h1 h2 h3
  by_cases c1 : ¬ pek t n a1 = 63
  · rw [oAt_f (beq_f c1)] at h2
    have g := cRel_n h2
    subst g
    rw [show oLa j1 (oAt (pek t n a2 == 58) n a2 (a2 + 1) (oEm (nI 11) (nI 0) none)).2 = none from by rw [oEm_none, oAt_none]; rfl] at h3
    refine cRel_f (key (cRel_n h3)) (fun _ => ?_)
    unfold pCho; rw [e1]; simp only [c1, if_false]
  replace c1 := Classical.not_not.mp c1
  rw [oAt_t (beq_t c1)] at h2 h3
  dsimp only at h2 h3
  have hne : oEm (nI 10) (nI 0) (oNd 1 x1 md1) ≠ none := by
    rcases md1 with _ | _ | q
    · exact absurd rfl hm1
    · rw [oNd_bad]; simp [oEm]
    · by_cases z : (1 : Int32) = x1
      · rw [oNd_t z]; simp [oEm]
      · rw [oNd_b2 z]; simp [oEm]
  rcases cRel_syn hne h2 with ⟨e2, rfl⟩ | ⟨f2, e2, hm3⟩
  · rw [show oLa j1 (oAt (pek t n a2 == 58) n a2 (a2 + 1) (oEm (nI 11) (nI 0) none)).2 = none from by rw [oEm_none, oAt_none]; rfl] at h3
    refine cRel_f (key (cRel_n h3)) (fun _ => ?_)
    unfold pCho; rw [e1]; simp only [c1, if_true, e2]
  rw [e2] at h2 h3
  by_cases c2 : ¬ pek t n a2 = 58
  · rw [oAt_f (beq_f c2)] at h3
    refine cRel_f (key (cRel_n h3)) (fun _ => ?_)
    unfold pCho; rw [e1]; simp only [c1, if_true, e2, c2, if_false]
  replace c2 := Classical.not_not.mp c2
  rw [oAt_t (beq_t c2)] at h3
  dsimp only at h3
  have hne2 : oLa j1 (oEm (nI 11) (nI 0) md3) ≠ none := by
    rcases md3 with _ | _ | q
    · exact absurd rfl hm3
    · simp [oEm, oLa]
    · simp [oEm, oLa]
  rcases cRel_syn hne2 h3 with ⟨e3, rfl⟩ | ⟨f3, e3, hm5⟩
  · refine cRel_f (key rfl) (fun _ => ?_)
    unfold pCho; rw [e1]; simp only [c1, if_true, e2, c2, e3]
  rw [e3] at h3
  by_cases c3 : ¬ pek t n a3 = 93
  · rw [oAt_f (beq_f c3)]
    refine cRel_f rfl (fun _ => ?_)
    unfold pCho; rw [e1]; simp only [c1, if_true, e2, c2, e3, c3, if_false]
  replace c3 := Classical.not_not.mp c3
  rw [oAt_t (beq_t c3)]
  unfold pCho
  rw [e1]
  simp only [c1, if_true, e2, c2, e3, c3]
  exact cRel_shift (choTy hn (hz _ _ _ e1) (hz _ _ _ e2) (hz _ _ _ e3) hb1 hb3 hb5 ha1 ha2 ha3 hj1 hj2 hm hm1 hm3 hm5 h1 h2 h3)
theorem cBd_em1 {a1 : Nat} {md1 : cMd} {x1 x y : Int32} (h : cBe a1 md1) : cBd a1 (oEm x y (oNd 1 x1 md1)) := by
  intro q hq
  obtain ⟨p, e1, rfl⟩ := oEm_ok hq
  obtain ⟨-, e2⟩ := oNd_ok e1
  have := h p e2
  have : emC p.1 ≤ p.1 + 1 := by unfold emC; split <;> omega
  dsimp only
  omega
theorem cBd_em2 {a1 : Nat} {md1 : cMd} {x y : Int32} (h : cBe a1 md1) : cBd a1 (oEm x y md1) := by
  intro q hq
  obtain ⟨p, e1, rfl⟩ := oEm_ok hq
  have := h p e1
  have : emC p.1 ≤ p.1 + 1 := by unfold emC; split <;> omega
  dsimp only
  omega
theorem cBd_la {a1 j : Nat} {md1 : cMd} (h : cBd a1 md1) : cBd a1 (oLa j md1) := by
  intro q hq
  obtain ⟨p, e1, rfl⟩ := oLa_ok hq
  exact h p e1
theorem c_readChoice (hw : jok w) (hS : cS h0 u t n hs me sg) (hd : 2 ≤ d) (hE' : cSub l w h0 u n me dp d sub) (hc : cAt h0 h u n a md) (hb : cBd a md) (hp : pek t n a = 91) : jM l w yX0_readChoice cX0_readChoice 5 (some .int) (d + 1) [.ref (jad w 13), .int (nI dp)] h (fun r h' => ∃ a' md', cAt h0 h' u n a' md' ∧ cRel me bs md (pCho t n sub a) a' md' r) := by
  refine jM_of (by decide) hw (Nat.le_of_ble_eq_true rfl) ?_
  intro X C hl hR hnL hrt hE
  subst hl
  have C : jC X w cX0_readChoice RX0 := C
  have hm := cAt_ne hc hp (by decide)
  have hn := cS_n hS
  obtain ⟨k3, k4, k5, k6, k7⟩ := jk_unit u hS.u7
  show J X w h 0 [(0, .ref (jad w 13)), (1, .int (nI dp))] []
  refine k_aload_n C dX0_readChoice_0 rfl ?_
  refine j_bipush (v := 91) C dX0_readChoice_1 (by decide) ?_
  refine k_callV (k := 13) (ci := 0) (As := [.int (nI 91)]) C mX0_68 (t_take hw hS hc (ch := 91) (by decide) (by decide)) jCl0.1 (by first | decide | omega) (by first | assumption | rfl) rfl rfl (Nat.le_of_ble_eq_true rfl) (jroom hR (by first | decide | omega) (by decide)) dX0_readChoice_3 ?_
  rintro v9 h9 ⟨rfl, hc⟩
  simp only [oAt, hp, beq_self_eq_true, if_true] at hc
  refine k_aload_n C dX0_readChoice_6 rfl ?_
  refine j_iconst (v := 1) C dX0_readChoice_7 (by decide) ?_
  refine k_aload_n C dX0_readChoice_8 rfl ?_
  refine k_iload_n C dX0_readChoice_9 rfl ?_
  refine k_callV (k := 13) (ci := 0) (As := [.int (nI dp)]) C mX0_123 (hE'.2.2 _ (a + 1) bs md hc (fun q e => by have := hb q e; omega)) jCl0.1 (by first | decide | omega) (by first | assumption | rfl) rfl rfl (Nat.le_of_ble_eq_true rfl) (jroom hR (by first | decide | omega) (by decide)) dX0_readChoice_10 ?_
  rintro v9 h9 ⟨a1, md1, hc, hr1⟩
  obtain ⟨x1, rfl⟩ := cRel_int hr1
  have hb1 := cRel_bd hE'.1 hE'.2.1 (fun q e => by have := hb q e; omega) hr1
  have ha1 := hc.1
  refine k_callV (k := 13) (ci := 0) (As := [.int 1, .int x1]) C mX0_127 (t_need hw hS hc 1 x1) jCl0.1 (by first | decide | omega) (by first | assumption | rfl) rfl rfl (Nat.le_of_ble_eq_true rfl) (jroom hR (by first | decide | omega) (by decide)) dX0_readChoice_13 ?_
  rintro v9 h9 ⟨rfl, hc⟩
  refine k_aload_n C dX0_readChoice_16 rfl ?_
  refine j_getr C fX0_22 rfl (by first | decide | omega) (by first | assumption | rfl) (cAt_un hS hc) dX0_readChoice_17 ?_
  refine j_bipush (v := 10) C dX0_readChoice_20 (by decide) ?_
  refine j_iconst (v := 0) C dX0_readChoice_22 (by decide) ?_
  refine k_callV (k := ub u) (ci := 3) (As := [.int (nI 10), .int (nI 0)]) C mX0_131 (t_emit hw hS hc (nI 10) (nI 0)) jCl3.1 (by first | decide | omega) (by first | assumption | rfl) rfl rfl (Nat.le_of_ble_eq_true rfl) (jroom hR (by first | decide | omega) (by decide)) dX0_readChoice_23 ?_
  rintro v9 h9 ⟨⟨j1, hj1l, rfl, hj1⟩, hc⟩
  refine k_istore_n C dX0_readChoice_26 (by rw [hnL]; decide) ?_
  refine k_aload_n C dX0_readChoice_27 rfl ?_
  refine j_bipush (v := 63) C dX0_readChoice_28 (by decide) ?_
  refine k_callV (k := 13) (ci := 0) (As := [.int (nI 63)]) C mX0_68 (t_take hw hS hc (ch := 63) (by decide) (by decide)) jCl0.1 (by first | decide | omega) (by first | assumption | rfl) rfl rfl (Nat.le_of_ble_eq_true rfl) (jroom hR (by first | decide | omega) (by decide)) dX0_readChoice_30 ?_
  rintro v9 h9 ⟨rfl, hc⟩
  refine k_aload_n C dX0_readChoice_33 rfl ?_
  refine k_iload_n C dX0_readChoice_34 rfl ?_
  refine k_callV (k := 13) (ci := 0) (As := [.int (nI dp)]) C mX0_123 (hE'.2.2 _ _ (nxt bs md (sub (a + 1))) _ hc (cBd_at (cBd_em1 hb1) (by omega))) jCl0.1 (by first | decide | omega) (by first | assumption | rfl) rfl rfl (Nat.le_of_ble_eq_true rfl) (jroom hR (by first | decide | omega) (by decide)) dX0_readChoice_35 ?_
  rintro v9 h9 ⟨a2, md3, hc, hr2⟩
  obtain ⟨x2, rfl⟩ := cRel_int hr2
  have hb3 := cRel_bd hE'.1 hE'.2.1 (cBd_at (cBd_em1 hb1) (by omega)) hr2
  have ha2 := hc.1
  refine k_istore_n C dX0_readChoice_38 (by rw [hnL]; decide) ?_
  refine k_aload_n C dX0_readChoice_39 rfl ?_
  refine j_getr C fX0_22 rfl (by first | decide | omega) (by first | assumption | rfl) (cAt_un hS hc) dX0_readChoice_40 ?_
  refine j_bipush (v := 11) C dX0_readChoice_43 (by decide) ?_
  refine j_iconst (v := 0) C dX0_readChoice_45 (by decide) ?_
  refine k_callV (k := ub u) (ci := 3) (As := [.int (nI 11), .int (nI 0)]) C mX0_131 (t_emit hw hS hc (nI 11) (nI 0)) jCl3.1 (by first | decide | omega) (by first | assumption | rfl) rfl rfl (Nat.le_of_ble_eq_true rfl) (jroom hR (by first | decide | omega) (by decide)) dX0_readChoice_46 ?_
  rintro v9 h9 ⟨⟨j2, hj2l, rfl, hj2⟩, hc⟩
  refine k_istore C dX0_readChoice_49 (by rw [hnL]; decide) ?_
  refine k_aload_n C dX0_readChoice_51 rfl ?_
  refine j_bipush (v := 58) C dX0_readChoice_52 (by decide) ?_
  refine k_callV (k := 13) (ci := 0) (As := [.int (nI 58)]) C mX0_68 (t_take hw hS hc (ch := 58) (by decide) (by decide)) jCl0.1 (by first | decide | omega) (by first | assumption | rfl) rfl rfl (Nat.le_of_ble_eq_true rfl) (jroom hR (by first | decide | omega) (by decide)) dX0_readChoice_54 ?_
  rintro v9 h9 ⟨rfl, hc⟩
  refine k_aload_n C dX0_readChoice_57 rfl ?_
  refine j_getr C fX0_22 rfl (by first | decide | omega) (by first | assumption | rfl) (cAt_un hS hc) dX0_readChoice_58 ?_
  refine k_iload_n C dX0_readChoice_61 rfl ?_
  refine k_callV (k := ub u) (ci := 3) (As := [.int (nI j1)]) C mX0_173 (t_landHere hw hS hc hj1l) jCl3.1 (by first | decide | omega) (by first | assumption | rfl) rfl rfl (Nat.le_of_ble_eq_true rfl) (jroom hR (by first | decide | omega) (by decide)) dX0_readChoice_62 ?_
  rintro v9 h9 ⟨rfl, hc⟩
  refine k_aload_n C dX0_readChoice_65 rfl ?_
  refine k_iload_n C dX0_readChoice_66 rfl ?_
  refine k_aload_n C dX0_readChoice_67 rfl ?_
  refine k_iload_n C dX0_readChoice_68 rfl ?_
  refine k_callV (k := 13) (ci := 0) (As := [.int (nI dp)]) C mX0_123 (hE'.2.2 _ _ (nxt (nxt bs md (sub (a + 1))) (oAt (pek t n a1 == 63) n a1 (a1 + 1) (oEm (nI 10) (nI 0) (oNd 1 x1 md1))).2 (sub (oAt (pek t n a1 == 63) n a1 (a1 + 1) (oEm (nI 10) (nI 0) (oNd 1 x1 md1))).1)) _ hc (cBd_la (cBd_at (cBd_em2 hb3) (by omega)))) jCl0.1 (by first | decide | omega) (by first | assumption | rfl) rfl rfl (Nat.le_of_ble_eq_true rfl) (jroom hR (by first | decide | omega) (by decide)) dX0_readChoice_69 ?_
  rintro v9 h9 ⟨a3, md5, hc, hr3⟩
  obtain ⟨x3, rfl⟩ := cRel_int hr3
  have hb5 := cRel_bd hE'.1 hE'.2.1 (cBd_la (cBd_at (cBd_em2 hb3) (by omega))) hr3
  have ha3 := hc.1
  refine k_callV (k := 13) (ci := 0) (As := [.int x2, .int x3]) C mX0_127 (t_need hw hS hc x2 x3) jCl0.1 (by first | decide | omega) (by first | assumption | rfl) rfl rfl (Nat.le_of_ble_eq_true rfl) (jroom hR (by first | decide | omega) (by decide)) dX0_readChoice_72 ?_
  rintro v9 h9 ⟨rfl, hc⟩
  refine k_aload_n C dX0_readChoice_75 rfl ?_
  refine j_getr C fX0_22 rfl (by first | decide | omega) (by first | assumption | rfl) (cAt_un hS hc) dX0_readChoice_76 ?_
  refine k_iload C dX0_readChoice_79 rfl ?_
  refine k_callV (k := ub u) (ci := 3) (As := [.int (nI j2)]) C mX0_173 (t_landHere hw hS hc hj2l) jCl3.1 (by first | decide | omega) (by first | assumption | rfl) rfl rfl (Nat.le_of_ble_eq_true rfl) (jroom hR (by first | decide | omega) (by decide)) dX0_readChoice_81 ?_
  rintro v9 h9 ⟨rfl, hc⟩
  refine k_aload_n C dX0_readChoice_84 rfl ?_
  refine j_bipush (v := 93) C dX0_readChoice_85 (by decide) ?_
  refine k_callV (k := 13) (ci := 0) (As := [.int (nI 93)]) C mX0_68 (t_take hw hS hc (ch := 93) (by decide) (by decide)) jCl0.1 (by first | decide | omega) (by first | assumption | rfl) rfl rfl (Nat.le_of_ble_eq_true rfl) (jroom hR (by first | decide | omega) (by decide)) dX0_readChoice_87 ?_
  rintro v9 h9 ⟨rfl, hc⟩
  refine k_iload_n C dX0_readChoice_90 rfl ?_
  exact j_iret C hrt hE dX0_readChoice_91 (⟨_, _, hc, choRel hn hE'.2.1 hm hb1 hb3 hb5 ha1 ha2 ha3 hj1 hj2 hr1 hr2 hr3⟩)
end RD8
