section RDF
variable {l : Launch} {w : jW} {h0 h : jH} {u : Nat} {t : Nat → Nat} {n : Nat} {hs : List (Nat × Nat × Nat)} {me sg bs : Nat} {a a' : Nat} {md md' : cMd} {r : Option Value} {dp d D : Nat} {sub : Nat → PR} {br : Bool}
/-- the contract of a reading method that takes the depth: the text reads as fn -/
def cFn (l : Launch) (w : jW) (h0 : jH) (u n me : Nat) (dp d : Nat) (y : MethodName) (cc : ByteArray) (nL : Nat) (fn : Nat → PR) : Prop := pgr n fn ∧ szs fn ∧ ∀ (h : jH) (a bs : Nat) (md : cMd), cAt h0 h u n a md → cBd a md → jM l w y cc nL (some .int) d [.ref (jad w 13), .int (nI dp)] h (fun r h' => ∃ a' md', cAt h0 h' u n a' md' ∧ cRel me bs md (fn a) a' md' r)
/-- .0 or .1 behind a factor -/
theorem prjRel {k a1 : Nat} {f : Nat → Nat → TI} {md1 : cMd} {x : Int32} {wh : Nat → PR} (hk : k = 9 ∨ k = 10) (hn : n ≤ 120) (hz : szs wh) (hm : md ≠ none) (hb1 : cBe a1 md1) (ha1 : a1 ≤ n) (hm1 : md1 ≠ none) (e1 : wh a = some (a1, f)) (h1 : cRel me bs md (wh a) a1 md1 (some (.int x))) :
    cRel me bs md (some (a1 + 2, fun bs hd => tPrj k hd (f bs hd))) (a1 + 2) (if k = 9 then oNd 2 x md1 else oEm (nI 9) (nI 0) (oNd 2 x md1)) (some (.int 1)) := by
  have bad : ∀ m : cMd, m = some none → (if k = 9 then m else oEm (nI 9) (nI 0) m) = some none := by
    intro m e; subst e; split <;> rfl
  rcases cRel_cases hm h1 with ⟨e2, -⟩ | ⟨f', e2, rfl, e3⟩ | ⟨f', q, y, e, m, F', e2, rfl, e3, e4, rfl, e6, e7⟩
  · rw [e1] at e2; cases e2
  · rw [e1] at e2; cases e2
    refine cRel_b hm (bad _ oNd_bad) (fun q hq => ?_)
    simp only [tPrj, e3 q hq]
  · rw [e1] at e2; cases e2
    have hx : x = nI y := by simpa using e4
    subst hx
    have hy := (hz _ _ _ e1 _ _ _ _ _ e3).1
    have b := hb1 _ rfl
    dsimp only at b
    by_cases h2 : y = 2
    · subst h2
      rw [oNd_t (show (2 : Int32) = nI 2 from rfl)]
      rcases hk with rfl | rfl
      · refine cRel_o (F' := F') (e := e ++ [(9, 0, q.2.1, 2)]) (m := m) (y := 1) rfl ?_ ?_ e6 (fun P hP hc => ?_)
        · simp only [tPrj, e3]
        · simp only [if_true, cpos_app, cpos, kcl]
          simp
        · rw [cmp_app] at hc
          rw [Rep_app]
          exact ⟨e7 P hP hc.1, fun z => absurd rfl z, trivial⟩
      · refine cRel_o (F' := emF (q.1 + cpos e) F' (nI 9) (nI 0)) (e := e ++ [(10, 0, q.2.1, 2)]) (m := m) (y := 1) rfl ?_ ?_ (fun p hp => by rw [emF_low (by omega), e6 p hp]) (fun P hP hc => ?_)
        · simp only [tPrj, e3]
        · simp only [oEm]
          rw [if_neg (by decide), emC_lt (by omega)]
          simp only [cpos_app, cpos, kcl]
          simp
          omega
        · rw [cmp_app] at hc
          have p1 := cmp_end e bs hc.1
          rw [Rep_app]
          refine ⟨Rep_low (c := q.1 + cpos e) (by omega) hc.1 (fun p hp => emF_low hp) (e7 P hP hc.1), ?_⟩
          exact rep_emit (by omega) (by omega) (by omega) (by omega) rfl
    · have : ¬ (2 : Int32) = nI y := fun z => h2 ((nI_eq (a := y) (b := 2) (by omega) (by omega)).mp z.symm)
      refine cRel_b hm (bad _ (oNd_b2 this)) (fun q' hq => ?_)
      cases hq
      rcases hy with rfl | rfl
      · simp only [tPrj, e3]
      · exact absurd rfl h2
theorem oNd_ne {x y : Int32} (h : md ≠ none) : oNd x y md ≠ none := by
  rcases md with _ | m
  · exact absurd rfl h
  · unfold oNd; simp only; split <;> simp
theorem facRel0 {a1 : Nat} {md1 : cMd} {x : Int32} (h1 : cRel me bs md (pWho t n hs sg br sub a) a1 md1 (some (.int x))) (c : ¬ pek t n a1 = 46) : cRel me bs md (pFac t n hs sg br sub a) a1 md1 (some (.int x)) := by
  by_cases hm : md = none
  · subst hm; exact ⟨cRel_n h1, _, rfl⟩
  · unfold pFac
    rcases cRel_syn hm h1 with ⟨e, rfl⟩ | ⟨f, e, -⟩
    · rw [e]; exact cRel_f rfl (fun _ => rfl)
    · rw [e] at h1 ⊢
      simp only [if_neg c]
      exact h1
theorem facRel9 {a1 : Nat} {md1 : cMd} {x : Int32} (hn : n ≤ 120) (hz : szs (pWho t n hs sg br sub)) (hb1 : cBe a1 md1) (ha1 : a1 ≤ n) (hz1 : md1 = none → a1 = n) (h1 : cRel me bs md (pWho t n hs sg br sub a) a1 md1 (some (.int x))) (c : pek t n a1 = 46) (c2 : pek t n (a1 + 1) = 48) : cRel me bs md (pFac t n hs sg br sub a) (a1 + 1 + 1) (oNd 2 x md1) (some (.int 1)) := by
  have hlt := pek_in c (by decide)
  have hm1 : md1 ≠ none := fun e => by have := hz1 e; omega
  have hm : md ≠ none := fun e => by subst e; exact hm1 (cRel_n h1)
  rcases cRel_syn hm h1 with ⟨-, e⟩ | ⟨f, e, -⟩
  · exact absurd e hm1
  · have := prjRel (k := 9) (Or.inl rfl) hn hz hm hb1 ha1 hm1 e h1
    unfold pFac
    rw [e]
    simp only [if_pos c, if_pos c2]
    exact this
theorem facRel10 {a1 : Nat} {md1 : cMd} {x : Int32} (hn : n ≤ 120) (hz : szs (pWho t n hs sg br sub)) (hb1 : cBe a1 md1) (ha1 : a1 ≤ n) (hz1 : md1 = none → a1 = n) (h1 : cRel me bs md (pWho t n hs sg br sub a) a1 md1 (some (.int x))) (c : pek t n a1 = 46) (c2 : ¬ pek t n (a1 + 1) = 48) : cRel me bs md (pFac t n hs sg br sub a) (oAt (pek t n (a1 + 1) == 49) n (a1 + 1) (a1 + 1 + 1) (oNd 2 x md1)).1 (oEm (nI 9) (nI 0) (oAt (pek t n (a1 + 1) == 49) n (a1 + 1) (a1 + 1 + 1) (oNd 2 x md1)).2) (some (.int 1)) := by
  have hlt := pek_in c (by decide)
  have hm1 : md1 ≠ none := fun e => by have := hz1 e; omega
  have hm : md ≠ none := fun e => by subst e; exact hm1 (cRel_n h1)
  rcases cRel_syn hm h1 with ⟨-, e⟩ | ⟨f, e, -⟩
  · exact absurd e hm1
  · have := prjRel (k := 10) (Or.inr rfl) hn hz hm hb1 ha1 hm1 e h1
    unfold pFac
    rw [e]
    by_cases c3 : pek t n (a1 + 1) = 49
    · rw [oAt_t (beq_t c3)]
      simp only [if_pos c, if_neg c2, if_pos c3]
      exact this
    · rw [oAt_f (beq_f c3)]
      simp only [if_pos c, if_neg c2, if_neg c3]
      exact cRel_f rfl (fun _ => rfl)
theorem c_readFactor (hw : jok w) (hS : cS h0 u t n hs me sg) {D : Nat} (hD : 2 ≤ D) (hW : cFn l w h0 u n me dp D yX0_readWhole cX0_readWhole 4 (pWho t n hs sg br sub)) (hc : cAt h0 h u n a md) (hb : cBd a md) : jM l w yX0_readFactor cX0_readFactor 3 (some .int) (D + 1) [.ref (jad w 13), .int (nI dp)] h (fun r h' => ∃ a' md', cAt h0 h' u n a' md' ∧ cRel me bs md (pFac t n hs sg br sub a) a' md' r) := by
  refine jM_of (by decide) hw (Nat.le_of_ble_eq_true rfl) ?_
  intro X C hl hR hnL hrt hE
  subst hl
  have C : jC X w cX0_readFactor RX0 := C
  have hn := cS_n hS
  obtain ⟨k3, k4, k5, k6, k7⟩ := jk_unit u hS.u7
  show J X w h 0 [(0, .ref (jad w 13)), (1, .int (nI dp))] []
  refine k_aload_n C dX0_readFactor_0 rfl ?_
  refine k_iload_n C dX0_readFactor_1 rfl ?_
  refine k_callV (k := 13) (ci := 0) (As := [.int (nI dp)]) C mX0_148 (hW.2.2 _ a bs md hc hb) jCl0.1 (by first | decide | omega) (by first | assumption | rfl) rfl rfl (Nat.le_of_ble_eq_true rfl) (jroom hR (by first | decide | omega) (by decide)) dX0_readFactor_2 ?_
  rintro v9 h9 ⟨a1, md1, hc, hr1⟩
  obtain ⟨x1, rfl⟩ := cRel_int hr1
  have hb1 := cRel_bd hW.1 hW.2.1 hb hr1
  have ha1 := hc.1
  have hz1 : md1 = none → a1 = n := fun e => by subst e; exact hc.2.1
  refine k_istore_n C dX0_readFactor_5 (by rw [hnL]; decide) ?_
  refine k_aload_n C dX0_readFactor_6 rfl ?_
  refine j_bipush (v := 46) C dX0_readFactor_7 (by decide) ?_
  refine k_callV (k := 13) (ci := 0) (As := [.int (nI 46)]) C mX0_82 (t_takeIf hw hS hc (ch := 46) (by decide) (by decide)) jCl0.1 (by first | decide | omega) (by first | assumption | rfl) rfl rfl (Nat.le_of_ble_eq_true rfl) (jroom hR (by first | decide | omega) (by decide)) dX0_readFactor_9 ?_
  rintro v9 h9 ⟨rfl, hc⟩
  refine j_if_ne C 17 dX0_readFactor_12 (by decide) (fun c12 => ?_) (fun c12 => ?_)
  · rw [i1n] at c12; rw [if_pos c12] at hc
    refine k_aload_n C dX0_readFactor_17 rfl ?_
    refine j_iconst (v := 2) C dX0_readFactor_18 (by decide) ?_
    refine k_iload_n C dX0_readFactor_19 rfl ?_
    refine k_callV (k := 13) (ci := 0) (As := [.int 2, .int x1]) C mX0_127 (t_need hw hS hc 2 x1) jCl0.1 (by first | decide | omega) (by first | assumption | rfl) rfl rfl (Nat.le_of_ble_eq_true rfl) (jroom hR (by first | decide | omega) (by decide)) dX0_readFactor_20 ?_
    rintro v9 h9 ⟨rfl, hc⟩
    refine k_aload_n C dX0_readFactor_23 rfl ?_
    refine j_bipush (v := 48) C dX0_readFactor_24 (by decide) ?_
    refine k_callV (k := 13) (ci := 0) (As := [.int (nI 48)]) C mX0_82 (t_takeIf hw hS hc (ch := 48) (by decide) (by decide)) jCl0.1 (by first | decide | omega) (by first | assumption | rfl) rfl rfl (Nat.le_of_ble_eq_true rfl) (jroom hR (by first | decide | omega) (by decide)) dX0_readFactor_26 ?_
    rintro v9 h9 ⟨rfl, hc⟩
    refine j_if_ne C 49 dX0_readFactor_29 (by decide) (fun c29 => ?_) (fun c29 => ?_)
    · rw [i1n] at c29; rw [if_pos c29] at hc
      refine j_iconst (v := 1) C dX0_readFactor_49 (by decide) ?_
      exact j_iret C hrt hE dX0_readFactor_50 (by first | exact ⟨_, _, hc, facRel9 hn hW.2.1 hb1 ha1 hz1 hr1 c12 c29⟩ | exact ⟨_, _, hc, facRel10 hn hW.2.1 hb1 ha1 hz1 hr1 c12 c29⟩)
    · rw [i1z] at c29; rw [if_neg c29] at hc
      refine k_aload_n C dX0_readFactor_32 rfl ?_
      refine j_bipush (v := 49) C dX0_readFactor_33 (by decide) ?_
      refine k_callV (k := 13) (ci := 0) (As := [.int (nI 49)]) C mX0_68 (t_take hw hS hc (ch := 49) (by decide) (by decide)) jCl0.1 (by first | decide | omega) (by first | assumption | rfl) rfl rfl (Nat.le_of_ble_eq_true rfl) (jroom hR (by first | decide | omega) (by decide)) dX0_readFactor_35 ?_
      rintro v9 h9 ⟨rfl, hc⟩
      refine k_aload_n C dX0_readFactor_38 rfl ?_
      refine j_getr C fX0_22 rfl (by first | decide | omega) (by first | assumption | rfl) (cAt_un hS hc) dX0_readFactor_39 ?_
      refine j_bipush (v := 9) C dX0_readFactor_42 (by decide) ?_
      refine j_iconst (v := 0) C dX0_readFactor_44 (by decide) ?_
      refine k_callV (k := ub u) (ci := 3) (As := [.int (nI 9), .int (nI 0)]) C mX0_131 (t_emit hw hS hc (nI 9) (nI 0)) jCl3.1 (by first | decide | omega) (by first | assumption | rfl) rfl rfl (Nat.le_of_ble_eq_true rfl) (jroom hR (by first | decide | omega) (by decide)) dX0_readFactor_45 ?_
      rintro v9 h9 ⟨⟨c9, -, rfl, -⟩, hc⟩
      refine j_pop C dX0_readFactor_48 rfl ?_
      refine j_iconst (v := 1) C dX0_readFactor_49 (by decide) ?_
      exact j_iret C hrt hE dX0_readFactor_50 (by first | exact ⟨_, _, hc, facRel9 hn hW.2.1 hb1 ha1 hz1 hr1 c12 c29⟩ | exact ⟨_, _, hc, facRel10 hn hW.2.1 hb1 ha1 hz1 hr1 c12 c29⟩)
  · rw [i1z] at c12; rw [if_neg c12] at hc
    refine k_iload_n C dX0_readFactor_15 rfl ?_
    exact j_iret C hrt hE dX0_readFactor_16 ⟨_, _, hc, facRel0 hr1 c12⟩
end RDF
