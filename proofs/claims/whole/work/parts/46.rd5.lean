section RD6
variable {l : Launch} {w : jW} {h0 h : jH} {u : Nat} {t : Nat → Nat} {n : Nat} {hs : List (Nat × Nat × Nat)} {me sg bs : Nat} {a a' : Nat} {md md' : cMd} {r : Option Value} {dp d : Nat} {sub : Nat → PR}
theorem cRel_shift {f : Nat → Nat → TI} {a1 a2 : Nat} (h : cRel me bs md (some (a1, f)) a1 md' r) : cRel me bs md (some (a2, f)) a2 md' r := by
  rcases md with _ | _ | q
  · exact h
  · exact ⟨rfl, h.2⟩
  · exact ⟨rfl, h.2⟩
theorem cRel_n {pr : PR} {x : Int32} (h : cRel me bs none pr a' md' (some (.int x))) : md' = none := h.1
theorem beq_t {a b : Nat} (h : a = b) : (a == b) = true := by simp [h]
theorem beq_f {a b : Nat} (h : ¬ a = b) : (a == b) = false := by simp [h]
theorem pairRel {a1 a3 : Nat} {md1 md3 : cMd} {x1 x2 : Int32} (hn : n ≤ 120) (hp : pgr n sub) (hz : szs sub) (hm : md ≠ none) (hb1 : cBe a1 md1) (hb3 : cBe a3 md3) (ha1 : a1 ≤ n) (ha3 : a3 ≤ n)
    (h1 : cRel me bs md (sub (a + 1)) a1 md1 (some (.int x1)))
    (h2 : cRel me (nxt bs md (sub (a + 1))) (oAt (pek t n a1 == 44) n a1 (a1 + 1) (oHo 1 (oNd 1 x1 md1))).2 (sub (oAt (pek t n a1 == 44) n a1 (a1 + 1) (oHo 1 (oNd 1 x1 md1))).1) a3 md3 (some (.int x2))) :
    cRel me bs md (pPair t n sub a) (oAt (pek t n a3 == 125) n a3 (a3 + 1) (oRl 1 (oNd 1 x2 md3))).1 (oEm (nI 8) (nI 0) (oAt (pek t n a3 == 125) n a3 (a3 + 1) (oRl 1 (oNd 1 x2 md3))).2) (some (.int 2)) := by
  by_cases hm1 : md1 = none
  · subst hm1
    have e0 : sub (a + 1) = none := by
      rcases cRel_cases hm h1 with ⟨e, -⟩ | ⟨f, -, e, -⟩ | ⟨f, q, y, e, m, F', -, -, -, -, e5, -⟩
      · exact e
      · cases e
      · cases e5
    have : (oAt (pek t n a1 == 44) n a1 (a1 + 1) (oHo 1 (oNd 1 x1 none))).2 = none := oAt_none
    rw [this] at h2
    have e3 := cRel_n h2
    subst e3
    unfold pPair
    rw [e0]
    refine cRel_f ?_ (fun _ => rfl)
    show oEm (nI 8) (nI 0) (oAt (pek t n a3 == 125) n a3 (a3 + 1) none).2 = none
    rw [oAt_none]; rfl
  · by_cases c : pek t n a1 = 44
    · rw [oAt_t (beq_t c)] at h2
      have hy1 : ∀ f, sub (a + 1) = some (a1, f) → ∀ hd y e m, f bs hd = some (y, e, m) → y = 1 ∨ y = 2 := fun f e hd y ev m q => (hz _ _ _ e _ _ _ _ _ q).1
      rcases opRel (k := 8) (v := 2) (by omega) rfl hn hb1 hb3 ha1 ha3 hm hy1 hz h1 hm1 h2 with ⟨g1, rfl⟩ | ⟨f1, f2, g1, g2, g3, g4⟩
      · have : pPair t n sub a = none := by
          unfold pPair
          rcases cRel_cases hm h1 with ⟨e, -⟩ | ⟨f, e, -, -⟩ | ⟨f, q, y, e, m, F', e, -⟩
          · rw [e]
          · rw [e]; simp only [g1, ite_self]
          · rw [e]; simp only [g1, ite_self]
        rw [this]
        refine cRel_f ?_ (fun _ => rfl)
        show oEm (nI 8) (nI 0) (oAt (pek t n a3 == 125) n a3 (a3 + 1) none).2 = none
        rw [oAt_none]; rfl
      · unfold pPair
        rw [g1]
        simp only [c, if_true, g2]
        by_cases c3 : pek t n a3 = 125
        · rw [oAt_t (beq_t c3)]
          simp only [c3, if_true]
          exact cRel_shift g4
        · rw [oAt_f (beq_f c3)]
          simp only [c3, if_false]
          exact cRel_f rfl (fun _ => rfl)
    · rw [oAt_f (beq_f c)] at h2
      have e3 := cRel_n h2
      subst e3
      have e9 : oEm (nI 8) (nI 0) (oAt (pek t n a3 == 125) n a3 (a3 + 1) (oRl 1 (oNd 1 x2 none))).2 = none := by
        show oEm (nI 8) (nI 0) (oAt (pek t n a3 == 125) n a3 (a3 + 1) none).2 = none
        rw [oAt_none]; rfl
      unfold pPair
      rcases cRel_cases hm h1 with ⟨e, -⟩ | ⟨f, e, -, -⟩ | ⟨f, q, y, ev, m, F', e, -⟩
      · rw [e]; exact cRel_f e9 (fun _ => rfl)
      · rw [e]; simp only [c, if_false]; exact cRel_f e9 (fun _ => rfl)
      · rw [e]; simp only [c, if_false]; exact cRel_f e9 (fun _ => rfl)
/-- behind a reading and its hold -/
theorem cBd_hold {a1 : Nat} {md1 : cMd} {x1 : Int32} (h : cBe a1 md1) : cBd a1 (oHo 1 (oNd 1 x1 md1)) := by
  intro q hq
  obtain ⟨p, e1, rfl⟩ := oHo_ok hq
  obtain ⟨-, e2⟩ := oNd_ok e1
  have := h p e2
  have : emC p.1 ≤ p.1 + 1 := by unfold emC; split <;> omega
  dsimp only
  omega
theorem cBd_at {b : Bool} {a1 a2 : Nat} (h : cBd a1 md) (h2 : a1 ≤ a2) : cBd (oAt b n a1 a2 md).1 (oAt b n a1 a2 md).2 := by
  intro q hq
  obtain ⟨rfl, e⟩ := oAt_ok hq
  have := h q e
  simp only [oAt, if_true]
  omega
theorem hold_ok {a1 : Nat} {md1 : cMd} {x1 : Int32} (hn : n ≤ 120) (ha : a1 ≤ n) (h : cBe a1 md1) : ∀ q, oNd 1 x1 md1 = some (some q) → (1 : Int32) = nI 1 ∧ 1 ≤ 2 ∧ q.2.1 ≤ 1000 ∧ q.2.2.1 ≤ 1000 := by
  intro q hq
  obtain ⟨-, e2⟩ := oNd_ok hq
  have := h q e2
  exact ⟨rfl, by decide, by omega, by omega⟩
theorem rel_ok {a3 : Nat} {md3 : cMd} {x1 x2 : Int32} {b : Bool} {a1 a2 bs2 : Nat} {md1 : cMd} {pr : PR} (h2 : cRel me bs2 (oAt b n a1 a2 (oHo 1 (oNd 1 x1 md1))).2 pr a3 md3 (some (.int x2))) : ∀ q, oNd 1 x2 md3 = some (some q) → (1 : Int32) = nI 1 ∧ 1 ≤ q.2.1 := by
  intro q hq
  obtain ⟨-, e2⟩ := oNd_ok hq
  obtain ⟨p, e3, e4, -⟩ := cRel_hd h2 e2
  obtain ⟨-, e5⟩ := oAt_ok e3
  obtain ⟨p2, -, rfl⟩ := oHo_ok e5
  exact ⟨rfl, by rw [e4]; simp⟩
theorem c_readPair (hw : jok w) (hS : cS h0 u t n hs me sg) (hd : 2 ≤ d) (hE' : cSub l w h0 u n me dp d sub) (hc : cAt h0 h u n a md) (hb : cBd a md) (hp : pek t n a = 123) : jM l w yX0_readPair cX0_readPair 2 (some .int) (d + 1) [.ref (jad w 13), .int (nI dp)] h (fun r h' => ∃ a' md', cAt h0 h' u n a' md' ∧ cRel me bs md (pPair t n sub a) a' md' r) := by
  refine jM_of (by decide) hw (Nat.le_of_ble_eq_true rfl) ?_
  intro X C hl hR hnL hrt hE
  subst hl
  have C : jC X w cX0_readPair RX0 := C
  have hm := cAt_ne hc hp (by decide)
  have hn := cS_n hS
  obtain ⟨k3, k4, k5, k6, k7⟩ := jk_unit u hS.u7
  show J X w h 0 [(0, .ref (jad w 13)), (1, .int (nI dp))] []
  refine k_aload_n C dX0_readPair_0 rfl ?_
  refine j_bipush (v := 123) C dX0_readPair_1 (by decide) ?_
  refine k_callV (k := 13) (ci := 0) (As := [.int (nI 123)]) C mX0_68 (t_take hw hS hc (ch := 123) (by decide) (by decide)) jCl0.1 (by first | decide | omega) (by first | assumption | rfl) rfl rfl (Nat.le_of_ble_eq_true rfl) (jroom hR (by first | decide | omega) (by decide)) dX0_readPair_3 ?_
  rintro v9 h9 ⟨rfl, hc⟩
  simp only [oAt, hp, beq_self_eq_true, if_true] at hc
  refine k_aload_n C dX0_readPair_6 rfl ?_
  refine j_iconst (v := 1) C dX0_readPair_7 (by decide) ?_
  refine k_aload_n C dX0_readPair_8 rfl ?_
  refine k_iload_n C dX0_readPair_9 rfl ?_
  refine k_callV (k := 13) (ci := 0) (As := [.int (nI dp)]) C mX0_123 (hE'.2.2 _ (a + 1) bs md hc (fun q e => by have := hb q e; omega)) jCl0.1 (by first | decide | omega) (by first | assumption | rfl) rfl rfl (Nat.le_of_ble_eq_true rfl) (jroom hR (by first | decide | omega) (by decide)) dX0_readPair_10 ?_
  rintro v9 h9 ⟨a1, md1, hc, hr1⟩
  obtain ⟨x1, rfl⟩ := cRel_int hr1
  have hb1 := cRel_bd hE'.1 hE'.2.1 (fun q e => by have := hb q e; omega) hr1
  have ha1 := hc.1
  refine k_callV (k := 13) (ci := 0) (As := [.int 1, .int x1]) C mX0_127 (t_need hw hS hc 1 x1) jCl0.1 (by first | decide | omega) (by first | assumption | rfl) rfl rfl (Nat.le_of_ble_eq_true rfl) (jroom hR (by first | decide | omega) (by decide)) dX0_readPair_13 ?_
  rintro v9 h9 ⟨rfl, hc⟩
  refine k_aload_n C dX0_readPair_16 rfl ?_
  refine j_iconst (v := 1) C dX0_readPair_17 (by decide) ?_
  refine k_callV (k := 13) (ci := 0) (As := [.int 1]) C mX0_138 (t_hold hw hS hc 1 1 (hold_ok hn ha1 hb1)) jCl0.1 (by first | decide | omega) (by first | assumption | rfl) rfl rfl (Nat.le_of_ble_eq_true rfl) (jroom hR (by first | decide | omega) (by decide)) dX0_readPair_18 ?_
  rintro v9 h9 ⟨rfl, hc⟩
  refine k_aload_n C dX0_readPair_21 rfl ?_
  refine j_bipush (v := 44) C dX0_readPair_22 (by decide) ?_
  refine k_callV (k := 13) (ci := 0) (As := [.int (nI 44)]) C mX0_68 (t_take hw hS hc (ch := 44) (by decide) (by decide)) jCl0.1 (by first | decide | omega) (by first | assumption | rfl) rfl rfl (Nat.le_of_ble_eq_true rfl) (jroom hR (by first | decide | omega) (by decide)) dX0_readPair_24 ?_
  rintro v9 h9 ⟨rfl, hc⟩
  refine k_aload_n C dX0_readPair_27 rfl ?_
  refine j_iconst (v := 1) C dX0_readPair_28 (by decide) ?_
  refine k_aload_n C dX0_readPair_29 rfl ?_
  refine k_iload_n C dX0_readPair_30 rfl ?_
  refine k_callV (k := 13) (ci := 0) (As := [.int (nI dp)]) C mX0_123 (hE'.2.2 _ _ (nxt bs md (sub (a + 1))) _ hc (cBd_at (cBd_hold hb1) (by omega))) jCl0.1 (by first | decide | omega) (by first | assumption | rfl) rfl rfl (Nat.le_of_ble_eq_true rfl) (jroom hR (by first | decide | omega) (by decide)) dX0_readPair_31 ?_
  rintro v9 h9 ⟨a3, md3, hc, hr3⟩
  obtain ⟨x2, rfl⟩ := cRel_int hr3
  have hb3 := cRel_bd hE'.1 hE'.2.1 (cBd_at (cBd_hold hb1) (by omega)) hr3
  have ha3 := hc.1
  refine k_callV (k := 13) (ci := 0) (As := [.int 1, .int x2]) C mX0_127 (t_need hw hS hc 1 x2) jCl0.1 (by first | decide | omega) (by first | assumption | rfl) rfl rfl (Nat.le_of_ble_eq_true rfl) (jroom hR (by first | decide | omega) (by decide)) dX0_readPair_34 ?_
  rintro v9 h9 ⟨rfl, hc⟩
  refine k_aload_n C dX0_readPair_37 rfl ?_
  refine j_iconst (v := 1) C dX0_readPair_38 (by decide) ?_
  refine k_callV (k := 13) (ci := 0) (As := [.int 1]) C mX0_142 (t_release hw hS hc 1 1 (rel_ok hr3)) jCl0.1 (by first | decide | omega) (by first | assumption | rfl) rfl rfl (Nat.le_of_ble_eq_true rfl) (jroom hR (by first | decide | omega) (by decide)) dX0_readPair_39 ?_
  rintro v9 h9 ⟨rfl, hc⟩
  refine k_aload_n C dX0_readPair_42 rfl ?_
  refine j_bipush (v := 125) C dX0_readPair_43 (by decide) ?_
  refine k_callV (k := 13) (ci := 0) (As := [.int (nI 125)]) C mX0_68 (t_take hw hS hc (ch := 125) (by decide) (by decide)) jCl0.1 (by first | decide | omega) (by first | assumption | rfl) rfl rfl (Nat.le_of_ble_eq_true rfl) (jroom hR (by first | decide | omega) (by decide)) dX0_readPair_45 ?_
  rintro v9 h9 ⟨rfl, hc⟩
  refine k_aload_n C dX0_readPair_48 rfl ?_
  refine j_getr C fX0_22 rfl (by first | decide | omega) (by first | assumption | rfl) (cAt_un hS hc) dX0_readPair_49 ?_
  refine j_bipush (v := 8) C dX0_readPair_52 (by decide) ?_
  refine j_iconst (v := 0) C dX0_readPair_54 (by decide) ?_
  refine k_callV (k := ub u) (ci := 3) (As := [.int (nI 8), .int (nI 0)]) C mX0_131 (t_emit hw hS hc (nI 8) (nI 0)) jCl3.1 (by first | decide | omega) (by first | assumption | rfl) rfl rfl (Nat.le_of_ble_eq_true rfl) (jroom hR (by first | decide | omega) (by decide)) dX0_readPair_55 ?_
  rintro v9 h9 ⟨⟨c9, -, rfl, -⟩, hc⟩
  refine j_pop C dX0_readPair_58 rfl ?_
  refine j_iconst (v := 2) C dX0_readPair_59 (by decide) ?_
  exact j_iret C hrt hE dX0_readPair_60 (⟨_, _, hc, pairRel hn hE'.1 hE'.2.1 hm hb1 hb3 ha1 ha3 hr1 hr3⟩)
end RD6
