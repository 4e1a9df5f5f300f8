section RDH
variable {l : Launch} {w : jW} {h0 h : jH} {u : Nat} {t : Nat → Nat} {n : Nat} {hs : List (Nat × Nat × Nat)} {me sg bs : Nat} {a a' : Nat} {md md' : cMd} {r : Option Value} {dp d D : Nat} {sub : Nat → PR} {br : Bool}
theorem cAt_inc (hS : cS h0 u t n hs me sg) (hc : cAt h0 h u n a md) (ha : a < n) : cAt h0 (up2 h.1 13 2 (nI (a + 1)), h.2) u n (a + 1) md := cAt_move hS hc (by omega) (fun e => by subst e; have := hc.2.1; omega) (fun _ _ _ _ _ _ q => cst_at hS.u7 q (a + 1))
theorem c_readExpression (hw : jok w) (hS : cS h0 u t n hs me sg) {D : Nat} (hD : 2 ≤ D) (hW : cFn l w h0 u n me dp D yX0_readProduct cX0_readProduct 4 (pPro t n hs sg br sub)) (hc : cAt h0 h u n a md) (hb : cBd a md) : jM l w yX0_readExpression cX0_readExpression 5 (some .int) (D + 1) [.ref (jad w 13), .int (nI dp)] h (fun r h' => ∃ a' md', cAt h0 h' u n a' md' ∧ cRel me bs md (pSum t n hs sg br sub a) a' md' r) := by
  refine jM_of (by decide) hw (Nat.le_of_ble_eq_true rfl) ?_
  intro X C hl hR hnL hrt hE
  subst hl
  have C : jC X w cX0_readExpression RX0 := C
  have hn := cS_n hS
  obtain ⟨k3, k4, k5, k6, k7⟩ := jk_unit u hS.u7
  have hx9 : ∀ (b k : Nat), k < 2 ^ 31 → (nI (pek t n b) = nI k ↔ pek t n b = k) := fun b k hk => nI_eq (by have := pek_lt (FrTx (cAt_any hc).choose_spec.choose_spec.choose_spec.choose_spec.choose_spec.choose_spec.2.1 hS.u7 hS.2.2.1) b; omega) hk
  have loop : ∀ (q9 k ak : Nat) (mk : cMd) (h : jH) (x : Int32), n - ak ≤ q9 → cAt h0 h u n ak mk → mInv n me bs a md (pSum t n hs sg br sub a) (pAdd t n hs sg br sub) k ak mk x → J X w h 8 [(0, .ref (jad w 13)), (1, .int (nI dp)), (2, .int x), (3, .int (nI k))] [] := by
    intro q9
    induction q9 with
    | zero =>
      intro k ak mk h x hq hc hI
      have hak : ak = n := by have := hc.1; omega
      have c42 : ¬ (pek t n ak = 43 ∨ pek t n ak = 45) := by rw [hak, pek_ge (Nat.le_refl _)]; decide
      have fin : cRel me bs md (pSum t n hs sg br sub a) ak mk (some (.int x)) := by
        rcases hI with ⟨rfl, h2⟩ | ⟨hm, hmk, -, -, f, q, hr, -, -, h2⟩
        · exact cRel_f rfl h2
        · rw [h2]
          have : pAdd t n hs sg br sub q ak f = some (ak, f) := by cases q <;> simp [pAdd, c42]
          rw [this]; exact hr
      refine k_iload_n C dX0_readExpression_8 rfl ?_
      refine j_bipush (v := 120) C dX0_readExpression_9 (by decide) ?_
      refine j_icmp_ge C 104 dX0_readExpression_11 (by decide) (fun c11 => ?_) (fun c11 => ?_)
      · refine k_iload_n C dX0_readExpression_104 rfl ?_
        exact j_iret C hrt hE dX0_readExpression_105 (⟨_, _, hc, fin⟩)
      · refine k_aload_n C dX0_readExpression_14 rfl ?_
        refine k_callV (k := 13) (ci := 0) (As := []) C mX0_64 (t_peek hw hS hc) jCl0.1 (by first | decide | omega) (by first | assumption | rfl) rfl rfl (Nat.le_of_ble_eq_true rfl) (jroom hR (by first | decide | omega) (by decide)) dX0_readExpression_15 ?_
        rintro v9 h9 ⟨rfl, rfl⟩
        refine j_bipush (v := 43) C dX0_readExpression_18 (by decide) ?_
        refine j_icmp_eq C 32 dX0_readExpression_20 (by decide) (fun c20 => ?_) (fun c20 => ?_)
        · exact absurd ((hx9 _ 43 (by decide)).mp c20) (fun e => c42 (Or.inl e)) -- stop
        · refine k_aload_n C dX0_readExpression_23 rfl ?_
          refine k_callV (k := 13) (ci := 0) (As := []) C mX0_64 (t_peek hw hS hc) jCl0.1 (by first | decide | omega) (by first | assumption | rfl) rfl rfl (Nat.le_of_ble_eq_true rfl) (jroom hR (by first | decide | omega) (by decide)) dX0_readExpression_24 ?_
          rintro v9 h9 ⟨rfl, rfl⟩
          refine j_bipush (v := 45) C dX0_readExpression_27 (by decide) ?_
          refine j_icmp_ne C 104 dX0_readExpression_29 (by decide) (fun c29 => ?_) (fun c29 => ?_)
          · refine k_iload_n C dX0_readExpression_104 rfl ?_
            exact j_iret C hrt hE dX0_readExpression_105 (⟨_, _, hc, fin⟩)
          · exact absurd ((hx9 _ 45 (by decide)).mp c29) (fun e => c42 (Or.inr e)) -- stop
    | succ q9 ih =>
      intro k ak mk h x hq hc hI
      by_cases c42 : ¬ (pek t n ak = 43 ∨ pek t n ak = 45)
      · have fin : cRel me bs md (pSum t n hs sg br sub a) ak mk (some (.int x)) := by
          rcases hI with ⟨rfl, h2⟩ | ⟨hm, hmk, -, -, f, q, hr, -, -, h2⟩
          · exact cRel_f rfl h2
          · rw [h2]
            have : pAdd t n hs sg br sub q ak f = some (ak, f) := by cases q <;> simp [pAdd, c42]
            rw [this]; exact hr
        refine k_iload_n C dX0_readExpression_8 rfl ?_
        refine j_bipush (v := 120) C dX0_readExpression_9 (by decide) ?_
        refine j_icmp_ge C 104 dX0_readExpression_11 (by decide) (fun c11 => ?_) (fun c11 => ?_)
        · refine k_iload_n C dX0_readExpression_104 rfl ?_
          exact j_iret C hrt hE dX0_readExpression_105 (⟨_, _, hc, fin⟩)
        · refine k_aload_n C dX0_readExpression_14 rfl ?_
          refine k_callV (k := 13) (ci := 0) (As := []) C mX0_64 (t_peek hw hS hc) jCl0.1 (by first | decide | omega) (by first | assumption | rfl) rfl rfl (Nat.le_of_ble_eq_true rfl) (jroom hR (by first | decide | omega) (by decide)) dX0_readExpression_15 ?_
          rintro v9 h9 ⟨rfl, rfl⟩
          refine j_bipush (v := 43) C dX0_readExpression_18 (by decide) ?_
          refine j_icmp_eq C 32 dX0_readExpression_20 (by decide) (fun c20 => ?_) (fun c20 => ?_)
          · exact absurd ((hx9 _ 43 (by decide)).mp c20) (fun e => c42 (Or.inl e)) -- stop
          · refine k_aload_n C dX0_readExpression_23 rfl ?_
            refine k_callV (k := 13) (ci := 0) (As := []) C mX0_64 (t_peek hw hS hc) jCl0.1 (by first | decide | omega) (by first | assumption | rfl) rfl rfl (Nat.le_of_ble_eq_true rfl) (jroom hR (by first | decide | omega) (by decide)) dX0_readExpression_24 ?_
            rintro v9 h9 ⟨rfl, rfl⟩
            refine j_bipush (v := 45) C dX0_readExpression_27 (by decide) ?_
            refine j_icmp_ne C 104 dX0_readExpression_29 (by decide) (fun c29 => ?_) (fun c29 => ?_)
            · refine k_iload_n C dX0_readExpression_104 rfl ?_
              exact j_iret C hrt hE dX0_readExpression_105 (⟨_, _, hc, fin⟩)
            · exact absurd ((hx9 _ 45 (by decide)).mp c29) (fun e => c42 (Or.inr e)) -- stop
      · replace c42 := Classical.not_not.mp c42
        have hlt : ak < n := by rcases c42 with e | e <;> exact pek_in e (by decide)
        have hmk : mk ≠ none := by rcases c42 with e | e <;> exact cAt_ne hc e (by decide)
        obtain ⟨kd, hkd⟩ : ∃ kd, kd = if pek t n ak = 43 then 5 else 6 := ⟨_, rfl⟩
        have hk8 : kd = 5 ∨ kd = 6 ∨ kd = 7 ∨ kd = 8 := by rw [hkd]; split <;> omega
        have hv8 : 1 = if kd = 8 then 2 else 1 := by rw [if_neg (by rw [hkd]; split <;> omega)]
        rcases hI with ⟨e, -⟩ | ⟨hm, -, hk, hak, f, q, hr, hsz, hq2, h2⟩
        · exact absurd e hmk
        have hb1 := cRel_bd2 hak hsz hb hr
        have ha1 := hc.1
        have go47 : ∀ h : jH, cAt h0 h u n ak mk → J X w h 47 [(0, .ref (jad w 13)), (1, .int (nI dp)), (2, .int x), (3, .int (nI k))] [.int (nI kd)] := by
          intro h hc
          refine k_istore C dX0_readExpression_47 (by rw [hnL]; decide) ?_
          refine k_aload_n C dX0_readExpression_49 rfl ?_
          refine j_dup C dX0_readExpression_50 rfl ?_
          refine j_geti C fX0_19 rfl (by first | decide | omega) (by first | assumption | rfl) dX0_readExpression_51 ?_
          refine j_iconst (v := 1) C dX0_readExpression_54 (by decide) ?_
          refine j_iadd C dX0_readExpression_55 ?_
          rw [cAt_at hc, nI_1]
          refine j_puti C fX0_19 rfl rfl (by decide) rfl dX0_readExpression_56 ?_
          replace hc := cAt_inc hS hc hlt
          refine k_aload_n C dX0_readExpression_59 rfl ?_
          refine j_iconst (v := 1) C dX0_readExpression_60 (by decide) ?_
          refine k_iload_n C dX0_readExpression_61 rfl ?_
          refine k_callV (k := 13) (ci := 0) (As := [.int 1, .int x]) C mX0_127 (t_need hw hS hc 1 x) jCl0.1 (by first | decide | omega) (by first | assumption | rfl) rfl rfl (Nat.le_of_ble_eq_true rfl) (jroom hR (by first | decide | omega) (by decide)) dX0_readExpression_62 ?_
          rintro v9 h9 ⟨rfl, hc⟩
          refine k_aload_n C dX0_readExpression_65 rfl ?_
          refine j_iconst (v := 1) C dX0_readExpression_66 (by decide) ?_
          refine k_callV (k := 13) (ci := 0) (As := [.int 1]) C mX0_138 (t_hold hw hS hc 1 1 (hold_ok hn ha1 hb1)) jCl0.1 (by first | decide | omega) (by first | assumption | rfl) rfl rfl (Nat.le_of_ble_eq_true rfl) (jroom hR (by first | decide | omega) (by decide)) dX0_readExpression_67 ?_
          rintro v9 h9 ⟨rfl, hc⟩
          refine k_aload_n C dX0_readExpression_70 rfl ?_
          refine k_iload_n C dX0_readExpression_71 rfl ?_
          refine k_callV (k := 13) (ci := 0) (As := [.int (nI dp)]) C mX0_135 (hW.2.2 _ (ak + 1) (nxt bs md (some (ak, f))) _ hc (cBd_up (cBd_hold hb1) (by omega))) jCl0.1 (by first | decide | omega) (by first | assumption | rfl) rfl rfl (Nat.le_of_ble_eq_true rfl) (jroom hR (by first | decide | omega) (by decide)) dX0_readExpression_72 ?_
          rintro v9 h9 ⟨a3, md3, hc, hr3⟩
          obtain ⟨x2, rfl⟩ := cRel_int hr3
          have hb3 := cRel_bd hW.1 hW.2.1 (cBd_up (cBd_hold hb1) (by omega)) hr3
          have ha3 := hc.1
          refine k_istore_n C dX0_readExpression_75 (by rw [hnL]; decide) ?_
          refine k_aload_n C dX0_readExpression_76 rfl ?_
          refine j_iconst (v := 1) C dX0_readExpression_77 (by decide) ?_
          refine k_iload_n C dX0_readExpression_78 rfl ?_
          refine k_callV (k := 13) (ci := 0) (As := [.int 1, .int x2]) C mX0_127 (t_need hw hS hc 1 x2) jCl0.1 (by first | decide | omega) (by first | assumption | rfl) rfl rfl (Nat.le_of_ble_eq_true rfl) (jroom hR (by first | decide | omega) (by decide)) dX0_readExpression_79 ?_
          rintro v9 h9 ⟨rfl, hc⟩
          refine k_aload_n C dX0_readExpression_82 rfl ?_
          refine j_iconst (v := 1) C dX0_readExpression_83 (by decide) ?_
          refine k_callV (k := 13) (ci := 0) (As := [.int 1]) C mX0_142 (t_release hw hS hc 1 1 (rel_ok (b := true) (a1 := 0) (a2 := 0) (n := n) hr3)) jCl0.1 (by first | decide | omega) (by first | assumption | rfl) rfl rfl (Nat.le_of_ble_eq_true rfl) (jroom hR (by first | decide | omega) (by decide)) dX0_readExpression_84 ?_
          rintro v9 h9 ⟨rfl, hc⟩
          refine k_aload_n C dX0_readExpression_87 rfl ?_
          refine j_getr C fX0_22 rfl (by first | decide | omega) (by first | assumption | rfl) (cAt_un hS hc) dX0_readExpression_88 ?_
          refine k_iload C dX0_readExpression_91 rfl ?_
          refine j_iconst (v := 0) C dX0_readExpression_93 (by decide) ?_
          refine k_callV (k := ub u) (ci := 3) (As := [.int (nI kd), .int (nI 0)]) C mX0_131 (t_emit hw hS hc (nI kd) (nI 0)) jCl3.1 (by first | decide | omega) (by first | assumption | rfl) rfl rfl (Nat.le_of_ble_eq_true rfl) (jroom hR (by first | decide | omega) (by decide)) dX0_readExpression_94 ?_
          rintro v9 h9 ⟨⟨c9, -, rfl, -⟩, hc⟩
          refine j_pop C dX0_readExpression_97 rfl ?_
          refine k_iinc C dX0_readExpression_98 rfl rfl (by rw [hnL]; decide) ?_
          refine j_goto C 8 dX0_readExpression_101 (by decide) ?_
          rw [show nI k + Int32.ofInt 1 = nI (k + 1) from nI_1 k]
          refine j_drop (lv := [(0, .ref (jad w 13)), (1, .int (nI dp)), (2, .int x2), (3, .int (nI (k + 1)))]) (ex := [(4, .int (nI kd))]) ?_
          refine ih (k + 1) a3 _ _ x2 ?_ hc ?_
          · rcases opRel (k := kd) (v := 1) hk8 hv8 hn hb1 hb3 ha1 ha3 hm (fun f' e hd y ev m z => by cases e; exact (hsz _ _ _ _ _ z).1) hW.2.1 hr hmk hr3 with ⟨-, e⟩ | ⟨f1, f2, e1, e2, e3, e4⟩
            · subst e; have := hc.2.1; omega
            · have := hW.1 _ _ _ e2; omega
          · have hq3 : ∃ q', q = q' + 1 := ⟨q - 1, by omega⟩
            obtain ⟨q', rfl⟩ := hq3
            rcases opRel (k := kd) (v := 1) hk8 hv8 hn hb1 hb3 ha1 ha3 hm (fun f' e hd y ev m z => by cases e; exact (hsz _ _ _ _ _ z).1) hW.2.1 hr hmk hr3 with ⟨e0, e⟩ | ⟨f1, f2, e1, e2, e3, e4⟩
            · subst e; exact Or.inl ⟨rfl, fun _ => by rw [h2]; unfold pAdd; rw [if_pos c42, e0]⟩
            · cases e1
              have hp3 := hW.1 _ _ _ e2
              refine Or.inr ⟨hm, ?_, by omega, by omega, _, q', cRel_r e4 (fun z e => oE_ok e), sz_op hk8 hak hp3.1 hsz (hW.2.1 _ _ _ e2) a3 (Nat.le_refl _), by omega, ?_⟩
              · rcases md3 with _ | _ | z
                · exact absurd rfl e3
                · rw [oNd_bad]; simp [oRl, oEm]
                · by_cases z2 : (1 : Int32) = x2
                  · rw [oNd_t z2]; simp [oRl, oEm]
                  · rw [oNd_b2 z2]; simp [oRl, oEm]
              · rw [h2]; conv => lhs; unfold pAdd; rw [if_pos c42, e2, ← hkd]
        have go32 : ∀ h : jH, cAt h0 h u n ak mk → J X w h 32 [(0, .ref (jad w 13)), (1, .int (nI dp)), (2, .int x), (3, .int (nI k))] [] := by
          intro h hc
          refine k_aload_n C dX0_readExpression_32 rfl ?_
          refine k_callV (k := 13) (ci := 0) (As := []) C mX0_64 (t_peek hw hS hc) jCl0.1 (by first | decide | omega) (by first | assumption | rfl) rfl rfl (Nat.le_of_ble_eq_true rfl) (jroom hR (by first | decide | omega) (by decide)) dX0_readExpression_33 ?_
          rintro v9 h9 ⟨rfl, rfl⟩
          refine j_bipush (v := 43) C dX0_readExpression_36 (by decide) ?_
          refine j_icmp_ne C 45 dX0_readExpression_38 (by decide) (fun c38 => ?_) (fun c38 => ?_)
          · replace c38 := fun e => c38 ((hx9 ak 43 (by decide)).mpr e)
            refine j_bipush (v := 6) C dX0_readExpression_45 (by decide) ?_
            first | (rw [show (5 : Int32) = nI kd by rw [hkd, if_pos c38]; rfl]; exact go47 _ hc) | (rw [show (6 : Int32) = nI kd by rw [hkd, if_neg c38]; rfl]; exact go47 _ hc)
          · replace c38 := (hx9 ak 43 (by decide)).mp c38
            refine j_iconst (v := 5) C dX0_readExpression_41 (by decide) ?_
            refine j_goto C 47 dX0_readExpression_42 (by decide) ?_
            first | (rw [show (5 : Int32) = nI kd by rw [hkd, if_pos c38]; rfl]; exact go47 _ hc) | (rw [show (6 : Int32) = nI kd by rw [hkd, if_neg c38]; rfl]; exact go47 _ hc)
        refine k_iload_n C dX0_readExpression_8 rfl ?_
        refine j_bipush (v := 120) C dX0_readExpression_9 (by decide) ?_
        refine j_icmp_ge C 104 dX0_readExpression_11 (by decide) (fun c11 => ?_) (fun c11 => ?_)
        · exact absurd c11 (nI_ge (a := k) (b := 120) (by omega) (by omega)) -- stop
        · refine k_aload_n C dX0_readExpression_14 rfl ?_
          refine k_callV (k := 13) (ci := 0) (As := []) C mX0_64 (t_peek hw hS hc) jCl0.1 (by first | decide | omega) (by first | assumption | rfl) rfl rfl (Nat.le_of_ble_eq_true rfl) (jroom hR (by first | decide | omega) (by decide)) dX0_readExpression_15 ?_
          rintro v9 h9 ⟨rfl, rfl⟩
          refine j_bipush (v := 43) C dX0_readExpression_18 (by decide) ?_
          refine j_icmp_eq C 32 dX0_readExpression_20 (by decide) (fun c20 => ?_) (fun c20 => ?_)
          · exact go32 _ hc
          · refine k_aload_n C dX0_readExpression_23 rfl ?_
            refine k_callV (k := 13) (ci := 0) (As := []) C mX0_64 (t_peek hw hS hc) jCl0.1 (by first | decide | omega) (by first | assumption | rfl) rfl rfl (Nat.le_of_ble_eq_true rfl) (jroom hR (by first | decide | omega) (by decide)) dX0_readExpression_24 ?_
            rintro v9 h9 ⟨rfl, rfl⟩
            refine j_bipush (v := 45) C dX0_readExpression_27 (by decide) ?_
            refine j_icmp_ne C 104 dX0_readExpression_29 (by decide) (fun c29 => ?_) (fun c29 => ?_)
            · exact absurd (by rcases c42 with e | e; exact absurd ((hx9 ak 43 (by decide)).mpr e) c20; exact (hx9 ak 45 (by decide)).mpr e) c29 -- stop
            · exact go32 _ hc
  show J X w h 0 [(0, .ref (jad w 13)), (1, .int (nI dp))] []
  refine k_aload_n C dX0_readExpression_0 rfl ?_
  refine k_iload_n C dX0_readExpression_1 rfl ?_
  refine k_callV (k := 13) (ci := 0) (As := [.int (nI dp)]) C mX0_135 (hW.2.2 _ a bs md hc hb) jCl0.1 (by first | decide | omega) (by first | assumption | rfl) rfl rfl (Nat.le_of_ble_eq_true rfl) (jroom hR (by first | decide | omega) (by decide)) dX0_readExpression_2 ?_
  rintro v9 h9 ⟨a1, md1, hc, hr1⟩
  obtain ⟨x1, rfl⟩ := cRel_int hr1
  refine k_istore_n C dX0_readExpression_5 (by rw [hnL]; decide) ?_
  refine j_iconst (v := 0) C dX0_readExpression_6 (by decide) ?_
  refine k_istore_n C dX0_readExpression_7 (by rw [hnL]; decide) ?_
  refine loop (n - a1) 0 a1 md1 _ x1 (Nat.le_refl _) hc ?_
  by_cases hm : md = none
  · subst hm; exact Or.inl ⟨cRel_n hr1, fun z => absurd rfl z⟩
  · rcases cRel_syn hm hr1 with ⟨e, e2⟩ | ⟨f, e, hm1⟩
    · exact Or.inl ⟨e2, fun _ => by unfold pSum; rw [e]⟩
    · have hp := hW.1 _ _ _ e
      refine Or.inr ⟨hm, hm1, by omega, hp.1, f, n - a1, by rw [← e]; exact hr1, hW.2.1 _ _ _ e, Nat.le_refl _, by unfold pSum; rw [e]⟩
end RDH
