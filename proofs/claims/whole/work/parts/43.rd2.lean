def oBad (md : cMd) : cMd := match md with
  | none => none
  | some _ => some none
section RD2
variable {l : Launch} {w : jW} {h0 h : jH} {u : Nat} {t : Nat → Nat} {n : Nat} {hs : List (Nat × Nat × Nat)} {me sg bs : Nat} {a a' : Nat} {md md' : cMd} {r : Option Value}
theorem cAt_sg (hS : cS h0 u t n hs me sg) (hc : cAt h0 h u n a md) : h.1 13 6 = nI sg := by
  obtain ⟨_, _, _, _, _, _, _, h2⟩ := cAt_any hc
  have := ub_in hS.u7
  rw [h2.1.2 13 6 (by omega) (by omega) (by omega)]
  exact hS.2.2.2.2.2.2.2.2.1
theorem cAt_un (hS : cS h0 u t n hs me sg) (hc : cAt h0 h u n a md) : h.2.1 13 3 = some (ub u) := by
  obtain ⟨_, _, _, _, _, _, _, h2⟩ := cAt_any hc
  rw [h2.1.1]; exact hS.2.1
theorem cAt_me (hS : cS h0 u t n hs me sg) (hc : cAt h0 h u n a md) : h.1 (ub u) 0 = nI me := by
  obtain ⟨_, _, _, _, _, _, _, h2⟩ := cAt_any hc
  have := ub_in hS.u7
  rw [h2.1.2 (ub u) 0 (by omega) (by omega) (by omega)]
  exact hS.2.2.2.1
theorem cAt_at (hc : cAt h0 h u n a md) : h.1 13 2 = nI a := by
  obtain ⟨_, _, _, _, _, _, _, h2⟩ := cAt_any hc
  exact h2.2.1
theorem cAt_bad (hS : cS h0 u t n hs me sg) (hc : cAt h0 h u n a md) : cAt h0 (up2 h.1 13 5 1, h.2) u n a (oBad md) := by
  obtain ⟨ha, hm⟩ := hc
  refine ⟨ha, ?_⟩
  rcases md with _ | _ | q
  · obtain ⟨e, yw, hd, rm, c, F, h1, h2⟩ := hm
    exact ⟨e, 1, hd, rm, c, F, h1, cst_yw hS.u7 h2 1⟩
  · obtain ⟨hd, rm, c, F, h1, h2⟩ := hm
    exact ⟨hd, rm, c, F, h1, cst_yw hS.u7 h2 1⟩
  · exact ⟨_, _, _, _, hm.1, cst_yw hS.u7 hm.2 1⟩
theorem cS_sg (hS : cS h0 u t n hs me sg) : sg < 256 := hS.2.2.2.2.2.2.2.2.2
theorem wb_le (s : Nat) : ∀ k, wb s k ≤ 3 * k
  | 0 => by simp [wb]
  | k + 1 => by
    have := wb_le s k
    have := ta_le s k
    simp only [wb]
    split <;> omega
theorem parRel {k : Nat} (hn : n ≤ 120) (hsg3 : ∀ k, ta sg k ≠ 3) (hb : cBd a md) (hp : pek t n a = 36) (hk : k = 1 + (if 49 ≤ pek t n (a + 1) ∧ pek t n (a + 1) ≤ 51 then pek t n (a + 1) - 49 else 0)) :
    (ta sg k = 0 → cRel me bs md (pPar t n sg a) (oAt (decide (49 ≤ pek t n (a + 1) ∧ pek t n (a + 1) ≤ 51)) n (a + 1) (a + 1 + 1) md).1 (oBad (oAt (decide (49 ≤ pek t n (a + 1) ∧ pek t n (a + 1) ≤ 51)) n (a + 1) (a + 1 + 1) md).2) (some (.int 1))) ∧
    (ta sg k ≠ 0 → cRel me bs md (pPar t n sg a) (oAt (decide (49 ≤ pek t n (a + 1) ∧ pek t n (a + 1) ≤ 51)) n (a + 1) (a + 1 + 1) md).1 (oEm (nI (ta sg k)) (nI (wb sg k)) (oAt (decide (49 ≤ pek t n (a + 1) ∧ pek t n (a + 1) ≤ 51)) n (a + 1) (a + 1 + 1) md).2) (some (.int (nI (ta sg k))))) := by
  have hlt := pek_in hp (by decide)
  unfold pPar
  by_cases q : 49 ≤ pek t n (a + 1) ∧ pek t n (a + 1) ≤ 51
  · rw [if_pos q] at hk
    have hk' : pek t n (a + 1) - 48 = k := by omega
    rw [if_pos q]
    simp only [oAt, q, and_self, decide_true, if_true, hk']
    have h3 := ta_le sg k
    have h4 := hsg3 k
    have h5 := wb_le sg k
    constructor
    · intro z
      rcases md with _ | _ | p
      · exact ⟨rfl, _, rfl⟩
      · exact ⟨rfl, rfl, _, rfl⟩
      · refine ⟨rfl, ?_⟩
        simp only [z, if_true]
        exact ⟨rfl, _, rfl⟩
    · intro z
      rcases md with _ | _ | p
      · exact ⟨rfl, _, rfl⟩
      · exact ⟨rfl, rfl, _, rfl⟩
      · have h6 := hb p rfl
        refine ⟨rfl, ?_⟩
        simp only [z, if_false]
        refine ⟨trivial, emF p.1 p.2.2.2 (nI (ta sg k)) (nI (wb sg k)), ?_, fun x hx => emF_low hx, fun P hP hcm => ?_⟩
        · simp only [oEm, cpos, kcl]
          rw [emC_lt (by omega), if_neg (by omega)]
          simp
        · refine rep_emit (by omega) (by omega) (by omega) hP ?_
          rcases (show ta sg k = 1 ∨ ta sg k = 2 by omega) with e | e <;> simp only [enc, e]
  · rw [if_neg q]
    have e : decide (49 ≤ pek t n (a + 1) ∧ pek t n (a + 1) ≤ 51) = false := by simp only [q, decide_false]
    simp only [oAt, e]
    constructor
    · intro z
      rcases md with _ | p
      · exact ⟨rfl, _, rfl⟩
      · exact ⟨rfl, _, rfl⟩
    · intro z
      rcases md with _ | p
      · exact ⟨rfl, _, rfl⟩
      · exact ⟨rfl, _, rfl⟩
theorem c_readParameter (hw : jok w) (hS : cS h0 u t n hs me sg) (hsg3 : ∀ k, ta sg k ≠ 3) (hc : cAt h0 h u n a md) (hb : cBd a md) (hp : pek t n a = 36) : jM l w yX0_readParameter cX0_readParameter 3 (some .int) 3 [.ref (jad w 13)] h (fun r h' => ∃ a' md', cAt h0 h' u n a' md' ∧ cRel me bs md (pPar t n sg a) a' md' r) := by
  refine jM_of (by decide) hw (Nat.le_of_ble_eq_true rfl) ?_
  intro X C hl hR hnL hrt hE
  subst hl
  have C : jC X w cX0_readParameter RX0 := C
  obtain ⟨k3, k4, k5, k6, k7⟩ := jk_unit u hS.u7
  have hn := cS_n hS
  have hsg := cS_sg hS
  obtain ⟨k, hk⟩ : ∃ k, k = 1 + (if 49 ≤ pek t n (a + 1) ∧ pek t n (a + 1) ≤ 51 then pek t n (a + 1) - 49 else 0) := ⟨_, rfl⟩
  have hk9 : k < 100 := by rw [hk]; split <;> omega
  obtain ⟨R1, R2⟩ := parRel (me := me) (bs := bs) hn hsg3 hb hp hk
  have h3 := ta_le sg k
  have h4 := hsg3 k
  show J X w h 0 [(0, .ref (jad w 13))] []
  refine k_aload_n C dX0_readParameter_0 rfl ?_
  refine j_bipush (v := 36) C dX0_readParameter_1 (by decide) ?_
  refine k_callV (k := 13) (ci := 0) (As := [.int (nI 36)]) C mX0_68 (t_take hw hS hc (ch := 36) (by decide) (by decide)) jCl0.1 (by first | decide | omega) (by first | assumption | rfl) rfl rfl (Nat.le_of_ble_eq_true rfl) (jroom hR (by first | decide | omega) (by decide)) dX0_readParameter_3 ?_
  rintro v9 h9 ⟨rfl, hc⟩
  simp only [oAt, hp, beq_self_eq_true, if_true] at hc
  refine j_iconst (v := 1) C dX0_readParameter_6 (by decide) ?_
  refine k_aload_n C dX0_readParameter_7 rfl ?_
  refine j_bipush (v := 49) C dX0_readParameter_8 (by decide) ?_
  refine j_bipush (v := 51) C dX0_readParameter_10 (by decide) ?_
  refine k_callV (k := 13) (ci := 0) (As := [.int (nI 49), .int (nI 51)]) C mX0_57 (t_readAmong hw hS hc (lo := 49) (hi := 51) (by omega) (by omega) (by omega)) jCl0.1 (by first | decide | omega) (by first | assumption | rfl) rfl rfl (Nat.le_of_ble_eq_true rfl) (jroom hR (by first | decide | omega) (by decide)) dX0_readParameter_12 ?_
  rintro v9 h9 ⟨rfl, hc⟩
  refine j_iadd C dX0_readParameter_15 ?_
  rw [show (1 : Int32) = nI 1 from rfl, nI_add, ← hk]
  refine k_istore_n C dX0_readParameter_16 (by rw [hnL]; decide) ?_
  refine k_aload_n C dX0_readParameter_17 rfl ?_
  refine j_geti C fX0_113 rfl (by first | decide | omega) (by first | assumption | rfl) dX0_readParameter_18 ?_
  rw [cAt_sg hS hc]
  refine k_iload_n C dX0_readParameter_21 rfl ?_
  refine k_callS (As := [.int (nI sg), .int (nI k)]) C mX0_120 (m_typeAt hw hsg (k := k) (by omega)) rfl rfl (Nat.le_of_ble_eq_true rfl) (jroom hR (by first | decide | omega) (by decide)) dX0_readParameter_22 ?_
  rintro v9 h9 ⟨rfl, rfl⟩
  refine k_istore_n C dX0_readParameter_25 (by rw [hnL]; decide) ?_
  refine k_iload_n C dX0_readParameter_26 rfl ?_
  refine j_if_ne C 37 dX0_readParameter_27 (by decide) (fun c27 => ?_) (fun c27 => ?_)
  · replace c27 : ta sg k ≠ 0 := fun z => c27 (by rw [z]; rfl)
    refine k_aload_n C dX0_readParameter_37 rfl ?_
    refine j_getr C fX0_22 rfl (by first | decide | omega) (by first | assumption | rfl) (cAt_un hS hc) dX0_readParameter_38 ?_
    refine k_iload_n C dX0_readParameter_41 rfl ?_
    refine j_iconst (v := 2) C dX0_readParameter_42 (by decide) ?_
    refine j_icmp_ne C 50 dX0_readParameter_43 (by decide) (fun c43 => ?_) (fun c43 => ?_)
    · replace c43 : ¬ ta sg k = 2 := fun z => c43 (by rw [z]; rfl)
      refine j_iconst (v := 1) C dX0_readParameter_50 (by decide) ?_
      refine k_aload_n C dX0_readParameter_51 rfl ?_
      refine j_geti C fX0_113 rfl (by decide) rfl dX0_readParameter_52 ?_
      rw [cAt_sg hS hc]
      refine k_iload_n C dX0_readParameter_55 rfl ?_
      refine k_callS (As := [.int (nI sg), .int (nI k)]) C mX0_97 (m_wordsBefore hw hsg (k := k) (by omega)) rfl rfl (Nat.le_of_ble_eq_true rfl) (jroom hR (by first | decide | omega) (by decide)) dX0_readParameter_56 ?_
      rintro v9 h9 ⟨rfl, rfl⟩
      refine k_callV (k := ub u) (ci := 3) (As := [.int (nI (ta sg k)), .int (nI (wb sg k))]) C mX0_131 (t_emit hw hS hc (nI (ta sg k)) (nI (wb sg k))) jCl3.1 (by omega) k3 (by first | (rw [show ta sg k = 2 from c43]; rfl) | (rw [show ta sg k = 1 by omega]; rfl)) rfl (Nat.le_of_ble_eq_true rfl) (jroom hR (by decide) (by decide)) dX0_readParameter_59 ?_
      rintro v9 h9 ⟨⟨c9, -, rfl, -⟩, hc⟩
      refine j_pop C dX0_readParameter_62 rfl ?_
      refine k_iload_n C dX0_readParameter_63 rfl ?_
      exact j_iret C hrt hE dX0_readParameter_64 (⟨_, _, hc, R2 c27⟩)
    · replace c43 : ta sg k = 2 := (nI_eq (a := ta sg k) (b := 2) (by omega) (by omega)).mp c43
      refine j_iconst (v := 2) C dX0_readParameter_46 (by decide) ?_
      refine j_goto C 51 dX0_readParameter_47 (by decide) ?_
      refine k_aload_n C dX0_readParameter_51 rfl ?_
      refine j_geti C fX0_113 rfl (by decide) rfl dX0_readParameter_52 ?_
      rw [cAt_sg hS hc]
      refine k_iload_n C dX0_readParameter_55 rfl ?_
      refine k_callS (As := [.int (nI sg), .int (nI k)]) C mX0_97 (m_wordsBefore hw hsg (k := k) (by omega)) rfl rfl (Nat.le_of_ble_eq_true rfl) (jroom hR (by first | decide | omega) (by decide)) dX0_readParameter_56 ?_
      rintro v9 h9 ⟨rfl, rfl⟩
      refine k_callV (k := ub u) (ci := 3) (As := [.int (nI (ta sg k)), .int (nI (wb sg k))]) C mX0_131 (t_emit hw hS hc (nI (ta sg k)) (nI (wb sg k))) jCl3.1 (by omega) k3 (by first | (rw [show ta sg k = 2 from c43]; rfl) | (rw [show ta sg k = 1 by omega]; rfl)) rfl (Nat.le_of_ble_eq_true rfl) (jroom hR (by decide) (by decide)) dX0_readParameter_59 ?_
      rintro v9 h9 ⟨⟨c9, -, rfl, -⟩, hc⟩
      refine j_pop C dX0_readParameter_62 rfl ?_
      refine k_iload_n C dX0_readParameter_63 rfl ?_
      exact j_iret C hrt hE dX0_readParameter_64 (⟨_, _, hc, R2 c27⟩)
  · replace c27 : ta sg k = 0 := (nI_eq (a := ta sg k) (b := 0) (by omega) (by omega)).mp c27
    refine k_aload_n C dX0_readParameter_30 rfl ?_
    refine j_iconst (v := 1) C dX0_readParameter_31 (by decide) ?_
    refine j_putz C fX0_38 rfl rfl (by first | decide | assumption) (by first | decide | omega) (by first | assumption | rfl) dX0_readParameter_32 ?_
    refine j_iconst (v := 1) C dX0_readParameter_35 (by decide) ?_
    exact j_iret C hrt hE dX0_readParameter_36 ⟨_, _, cAt_bad hS hc, R1 c27⟩
end RD2
