section RDG
variable {l : Launch} {w : jW} {h0 h : jH} {u : Nat} {t : Nat → Nat} {n : Nat} {hs : List (Nat × Nat × Nat)} {me sg bs : Nat} {a a' : Nat} {md md' : cMd} {r : Option Value} {dp d D : Nat} {sub : Nat → PR} {br : Bool}
theorem cRel_bd2 {f : Nat → Nat → TI} {a1 : Nat} (ha : a < a1) (hz : sz a a1 f) (hb : cBd a md) (h : cRel me bs md (some (a1, f)) a1 md' r) : cBe a1 md' := by
  intro q' hq'
  subst hq'
  rcases md with _ | m
  · cases h.1
  · rcases cRel_cases (by simp) h with ⟨e, -⟩ | ⟨f', -, e, -⟩ | ⟨f', q, y, e, m2, F', e1, e2, e3, e4, e5, -⟩
    · cases e
    · cases e
    · cases e1
      have h4 := hb q e2
      obtain ⟨-, h2, -, h3⟩ := hz _ _ _ _ _ e3
      simp only [Option.some.injEq] at e5
      subst e5
      dsimp only
      omega
theorem cRel_r {pr : PR} {x z : Int32} (h : cRel me bs md pr a' md' (some (.int z))) (hx : ∀ q, md' = some (some q) → x = z) : cRel me bs md pr a' md' (some (.int x)) := by
  rcases md with _ | m
  · exact ⟨cRel_n h, _, rfl⟩
  · rcases cRel_cases (by simp) h with ⟨e1, e2⟩ | ⟨f', e1, e2, e3⟩ | ⟨f', q, y, e, m2, F', e1, e2, e3, e4, e5, e6⟩
    · rw [e1]; exact cRel_f e2 (fun _ => rfl)
    · rw [e1]; exact cRel_b (by simp) e2 e3
    · rw [hx _ e5]; exact h
theorem oE_ok {k : Nat} {x2 : Int32} {md3 : cMd} {q : Nat × Nat × Nat × (Nat → Int32)} (h : oEm (nI k) (nI 0) (oRl 1 (oNd 1 x2 md3)) = some (some q)) : x2 = nI 1 := by
  obtain ⟨p, e1, -⟩ := oEm_ok h
  obtain ⟨p2, e2, -⟩ := oRl_ok e1
  obtain ⟨e3, -⟩ := oNd_ok e2
  exact e3.symm
/-- the loop's invariant: a product or a sum, read up to ak -/
def mInv (n me bs a : Nat) (md : cMd) (P : PR) (G : Nat → Nat → (Nat → Nat → TI) → PR) (k ak : Nat) (mk : cMd) (x : Int32) : Prop :=
  (mk = none ∧ (md ≠ none → P = none)) ∨ (md ≠ none ∧ mk ≠ none ∧ k + 1 ≤ ak ∧ a < ak ∧ ∃ f q, cRel me bs md (some (ak, f)) ak mk (some (.int x)) ∧ sz a ak f ∧ n - ak ≤ q ∧ P = G q ak f)
theorem c_readProduct (hw : jok w) (hS : cS h0 u t n hs me sg) {D : Nat} (hD : 2 ≤ D) (hW : cFn l w h0 u n me dp D yX0_readFactor cX0_readFactor 3 (pFac t n hs sg br sub)) (hc : cAt h0 h u n a md) (hb : cBd a md) : jM l w yX0_readProduct cX0_readProduct 4 (some .int) (D + 1) [.ref (jad w 13), .int (nI dp)] h (fun r h' => ∃ a' md', cAt h0 h' u n a' md' ∧ cRel me bs md (pPro t n hs sg br sub a) a' md' r) := by
  refine jM_of (by decide) hw (Nat.le_of_ble_eq_true rfl) ?_
  intro X C hl hR hnL hrt hE
  subst hl
  have C : jC X w cX0_readProduct RX0 := C
  have hn := cS_n hS
  obtain ⟨k3, k4, k5, k6, k7⟩ := jk_unit u hS.u7
  have loop : ∀ (q9 k ak : Nat) (mk : cMd) (h : jH) (x : Int32), n - ak ≤ q9 → cAt h0 h u n ak mk → mInv n me bs a md (pPro t n hs sg br sub a) (pMul t n hs sg br sub) k ak mk x → J X w h 8 [(0, .ref (jad w 13)), (1, .int (nI dp)), (2, .int x), (3, .int (nI k))] [] := by
    intro q9
    induction q9 with
    | zero =>
      intro k ak mk h x hq hc hI
      have hak : ak = n := by have := hc.1; omega
      have c42 : ¬ pek t n ak = 42 := by rw [hak, pek_ge (Nat.le_refl _)]; decide
      have fin : cRel me bs md (pPro t n hs sg br sub a) ak mk (some (.int x)) := by
        rcases hI with ⟨rfl, h2⟩ | ⟨hm, hmk, -, -, f, q, hr, -, -, h2⟩
        · exact cRel_f rfl h2
        · rw [h2]
          have : pMul t n hs sg br sub q ak f = some (ak, f) := by cases q <;> simp [pMul, c42]
          rw [this]; exact hr
      refine k_iload_n C dX0_readProduct_8 rfl ?_
      refine j_bipush (v := 120) C dX0_readProduct_9 (by decide) ?_
      refine j_icmp_ge C 68 dX0_readProduct_11 (by decide) (fun c11 => ?_) (fun c11 => ?_)
      · refine k_iload_n C dX0_readProduct_68 rfl ?_
        exact j_iret C hrt hE dX0_readProduct_69 (⟨_, _, hc, fin⟩)
      · refine k_aload_n C dX0_readProduct_14 rfl ?_
        refine j_bipush (v := 42) C dX0_readProduct_15 (by decide) ?_
        refine k_callV (k := 13) (ci := 0) (As := [.int (nI 42)]) C mX0_82 (t_takeIf hw hS hc (ch := 42) (by decide) (by decide)) jCl0.1 (by first | decide | omega) (by first | assumption | rfl) rfl rfl (Nat.le_of_ble_eq_true rfl) (jroom hR (by first | decide | omega) (by decide)) dX0_readProduct_17 ?_
        rintro v9 h9 ⟨rfl, hc⟩
        rw [if_neg c42] at hc
        refine j_if_eq C 68 dX0_readProduct_20 (by decide) (fun c20 => ?_) (fun c20 => ?_)
        · refine k_iload_n C dX0_readProduct_68 rfl ?_
          exact j_iret C hrt hE dX0_readProduct_69 (⟨_, _, hc, fin⟩)
        · exact absurd (by rw [if_neg c42]) c20 -- stop
    | succ q9 ih =>
      intro k ak mk h x hq hc hI
      by_cases c42 : ¬ pek t n ak = 42
      · have fin : cRel me bs md (pPro t n hs sg br sub a) ak mk (some (.int x)) := by
          rcases hI with ⟨rfl, h2⟩ | ⟨hm, hmk, -, -, f, q, hr, -, -, h2⟩
          · exact cRel_f rfl h2
          · rw [h2]
            have : pMul t n hs sg br sub q ak f = some (ak, f) := by cases q <;> simp [pMul, c42]
            rw [this]; exact hr
        refine k_iload_n C dX0_readProduct_8 rfl ?_
        refine j_bipush (v := 120) C dX0_readProduct_9 (by decide) ?_
        refine j_icmp_ge C 68 dX0_readProduct_11 (by decide) (fun c11 => ?_) (fun c11 => ?_)
        · refine k_iload_n C dX0_readProduct_68 rfl ?_
          exact j_iret C hrt hE dX0_readProduct_69 (⟨_, _, hc, fin⟩)
        · refine k_aload_n C dX0_readProduct_14 rfl ?_
          refine j_bipush (v := 42) C dX0_readProduct_15 (by decide) ?_
          refine k_callV (k := 13) (ci := 0) (As := [.int (nI 42)]) C mX0_82 (t_takeIf hw hS hc (ch := 42) (by decide) (by decide)) jCl0.1 (by first | decide | omega) (by first | assumption | rfl) rfl rfl (Nat.le_of_ble_eq_true rfl) (jroom hR (by first | decide | omega) (by decide)) dX0_readProduct_17 ?_
          rintro v9 h9 ⟨rfl, hc⟩
          rw [if_neg c42] at hc
          refine j_if_eq C 68 dX0_readProduct_20 (by decide) (fun c20 => ?_) (fun c20 => ?_)
          · refine k_iload_n C dX0_readProduct_68 rfl ?_
            exact j_iret C hrt hE dX0_readProduct_69 (⟨_, _, hc, fin⟩)
          · exact absurd (by rw [if_neg c42]) c20 -- stop
      · replace c42 := Classical.not_not.mp c42
        have hlt := pek_in c42 (by decide)
        have hmk := cAt_ne hc c42 (by decide)
        rcases hI with ⟨e, -⟩ | ⟨hm, -, hk, hak, f, q, hr, hsz, hq2, h2⟩
        · exact absurd e hmk
        have hb1 := cRel_bd2 hak hsz hb hr
        have ha1 := hc.1
        refine k_iload_n C dX0_readProduct_8 rfl ?_
        refine j_bipush (v := 120) C dX0_readProduct_9 (by decide) ?_
        refine j_icmp_ge C 68 dX0_readProduct_11 (by decide) (fun c11 => ?_) (fun c11 => ?_)
        · exact absurd c11 (nI_ge (a := k) (b := 120) (by omega) (by omega)) -- stop
        · refine k_aload_n C dX0_readProduct_14 rfl ?_
          refine j_bipush (v := 42) C dX0_readProduct_15 (by decide) ?_
          refine k_callV (k := 13) (ci := 0) (As := [.int (nI 42)]) C mX0_82 (t_takeIf hw hS hc (ch := 42) (by decide) (by decide)) jCl0.1 (by first | decide | omega) (by first | assumption | rfl) rfl rfl (Nat.le_of_ble_eq_true rfl) (jroom hR (by first | decide | omega) (by decide)) dX0_readProduct_17 ?_
          rintro v9 h9 ⟨rfl, hc⟩
          rw [if_pos c42] at hc
          refine j_if_eq C 68 dX0_readProduct_20 (by decide) (fun c20 => ?_) (fun c20 => ?_)
          · exact absurd c20 (by rw [if_pos c42]; decide) -- stop
          · refine k_aload_n C dX0_readProduct_23 rfl ?_
            refine j_iconst (v := 1) C dX0_readProduct_24 (by decide) ?_
            refine k_iload_n C dX0_readProduct_25 rfl ?_
            refine k_callV (k := 13) (ci := 0) (As := [.int 1, .int x]) C mX0_127 (t_need hw hS hc 1 x) jCl0.1 (by first | decide | omega) (by first | assumption | rfl) rfl rfl (Nat.le_of_ble_eq_true rfl) (jroom hR (by first | decide | omega) (by decide)) dX0_readProduct_26 ?_
            rintro v9 h9 ⟨rfl, hc⟩
            refine k_aload_n C dX0_readProduct_29 rfl ?_
            refine j_iconst (v := 1) C dX0_readProduct_30 (by decide) ?_
            refine k_callV (k := 13) (ci := 0) (As := [.int 1]) C mX0_138 (t_hold hw hS hc 1 1 (hold_ok hn ha1 hb1)) jCl0.1 (by first | decide | omega) (by first | assumption | rfl) rfl rfl (Nat.le_of_ble_eq_true rfl) (jroom hR (by first | decide | omega) (by decide)) dX0_readProduct_31 ?_
            rintro v9 h9 ⟨rfl, hc⟩
            refine k_aload_n C dX0_readProduct_34 rfl ?_
            refine k_iload_n C dX0_readProduct_35 rfl ?_
            refine k_callV (k := 13) (ci := 0) (As := [.int (nI dp)]) C mX0_145 (hW.2.2 _ (ak + 1) (nxt bs md (some (ak, f))) _ hc (cBd_up (cBd_hold hb1) (by omega))) jCl0.1 (by first | decide | omega) (by first | assumption | rfl) rfl rfl (Nat.le_of_ble_eq_true rfl) (jroom hR (by first | decide | omega) (by decide)) dX0_readProduct_36 ?_
            rintro v9 h9 ⟨a3, md3, hc, hr3⟩
            obtain ⟨x2, rfl⟩ := cRel_int hr3
            have hb3 := cRel_bd hW.1 hW.2.1 (cBd_up (cBd_hold hb1) (by omega)) hr3
            have ha3 := hc.1
            refine k_istore_n C dX0_readProduct_39 (by rw [hnL]; decide) ?_
            refine k_aload_n C dX0_readProduct_40 rfl ?_
            refine j_iconst (v := 1) C dX0_readProduct_41 (by decide) ?_
            refine k_iload_n C dX0_readProduct_42 rfl ?_
            refine k_callV (k := 13) (ci := 0) (As := [.int 1, .int x2]) C mX0_127 (t_need hw hS hc 1 x2) jCl0.1 (by first | decide | omega) (by first | assumption | rfl) rfl rfl (Nat.le_of_ble_eq_true rfl) (jroom hR (by first | decide | omega) (by decide)) dX0_readProduct_43 ?_
            rintro v9 h9 ⟨rfl, hc⟩
            refine k_aload_n C dX0_readProduct_46 rfl ?_
            refine j_iconst (v := 1) C dX0_readProduct_47 (by decide) ?_
            refine k_callV (k := 13) (ci := 0) (As := [.int 1]) C mX0_142 (t_release hw hS hc 1 1 (rel_ok (b := true) (a1 := 0) (a2 := 0) (n := n) hr3)) jCl0.1 (by first | decide | omega) (by first | assumption | rfl) rfl rfl (Nat.le_of_ble_eq_true rfl) (jroom hR (by first | decide | omega) (by decide)) dX0_readProduct_48 ?_
            rintro v9 h9 ⟨rfl, hc⟩
            refine k_aload_n C dX0_readProduct_51 rfl ?_
            refine j_getr C fX0_22 rfl (by first | decide | omega) (by first | assumption | rfl) (cAt_un hS hc) dX0_readProduct_52 ?_
            refine j_bipush (v := 7) C dX0_readProduct_55 (by decide) ?_
            refine j_iconst (v := 0) C dX0_readProduct_57 (by decide) ?_
            refine k_callV (k := ub u) (ci := 3) (As := [.int (nI 7), .int (nI 0)]) C mX0_131 (t_emit hw hS hc (nI 7) (nI 0)) jCl3.1 (by first | decide | omega) (by first | assumption | rfl) rfl rfl (Nat.le_of_ble_eq_true rfl) (jroom hR (by first | decide | omega) (by decide)) dX0_readProduct_58 ?_
            rintro v9 h9 ⟨⟨c9, -, rfl, -⟩, hc⟩
            refine j_pop C dX0_readProduct_61 rfl ?_
            refine k_iinc C dX0_readProduct_62 rfl rfl (by rw [hnL]; decide) ?_
            refine j_goto C 8 dX0_readProduct_65 (by decide) ?_
            rw [show nI k + Int32.ofInt 1 = nI (k + 1) from nI_1 k]
            refine ih (k + 1) a3 _ _ x2 ?_ hc ?_
            · rcases opRel (k := 7) (v := 1) (by omega) rfl hn hb1 hb3 ha1 ha3 hm (fun f' e hd y ev m z => by cases e; exact (hsz _ _ _ _ _ z).1) hW.2.1 hr hmk hr3 with ⟨-, e⟩ | ⟨f1, f2, e1, e2, e3, e4⟩
              · subst e; have := hc.2.1; omega
              · have := hW.1 _ _ _ e2; omega
            · have hq3 : ∃ q', q = q' + 1 := ⟨q - 1, by omega⟩
              obtain ⟨q', rfl⟩ := hq3
              rcases opRel (k := 7) (v := 1) (by omega) rfl hn hb1 hb3 ha1 ha3 hm (fun f' e hd y ev m z => by cases e; exact (hsz _ _ _ _ _ z).1) hW.2.1 hr hmk hr3 with ⟨e0, e⟩ | ⟨f1, f2, e1, e2, e3, e4⟩
              · subst e; exact Or.inl ⟨rfl, fun _ => by rw [h2]; unfold pMul; rw [if_pos c42, e0]⟩
              · cases e1
                have hp3 := hW.1 _ _ _ e2
                refine Or.inr ⟨hm, ?_, by omega, by omega, _, q', cRel_r e4 (fun z e => oE_ok e), sz_op (by omega) hak hp3.1 hsz (hW.2.1 _ _ _ e2) a3 (Nat.le_refl _), by omega, ?_⟩
                · rcases md3 with _ | _ | z
                  · exact absurd rfl e3
                  · rw [oNd_bad]; simp [oRl, oEm]
                  · by_cases z2 : (1 : Int32) = x2
                    · rw [oNd_t z2]; simp [oRl, oEm]
                    · rw [oNd_b2 z2]; simp [oRl, oEm]
                · rw [h2]; conv => lhs; unfold pMul; rw [if_pos c42, e2]
  show J X w h 0 [(0, .ref (jad w 13)), (1, .int (nI dp))] []
  refine k_aload_n C dX0_readProduct_0 rfl ?_
  refine k_iload_n C dX0_readProduct_1 rfl ?_
  refine k_callV (k := 13) (ci := 0) (As := [.int (nI dp)]) C mX0_145 (hW.2.2 _ a bs md hc hb) jCl0.1 (by first | decide | omega) (by first | assumption | rfl) rfl rfl (Nat.le_of_ble_eq_true rfl) (jroom hR (by first | decide | omega) (by decide)) dX0_readProduct_2 ?_
  rintro v9 h9 ⟨a1, md1, hc, hr1⟩
  obtain ⟨x1, rfl⟩ := cRel_int hr1
  refine k_istore_n C dX0_readProduct_5 (by rw [hnL]; decide) ?_
  refine j_iconst (v := 0) C dX0_readProduct_6 (by decide) ?_
  refine k_istore_n C dX0_readProduct_7 (by rw [hnL]; decide) ?_
  refine loop (n - a1) 0 a1 md1 _ x1 (Nat.le_refl _) hc ?_
  by_cases hm : md = none
  · subst hm; exact Or.inl ⟨cRel_n hr1, fun z => absurd rfl z⟩
  · rcases cRel_syn hm hr1 with ⟨e, e2⟩ | ⟨f, e, hm1⟩
    · exact Or.inl ⟨e2, fun _ => by unfold pPro; rw [e]⟩
    · have hp := hW.1 _ _ _ e
      refine Or.inr ⟨hm, hm1, by omega, hp.1, f, n - a1, by rw [← e]; exact hr1, hW.2.1 _ _ _ e, Nat.le_refl _, by unfold pPro; rw [e]⟩
end RDG
