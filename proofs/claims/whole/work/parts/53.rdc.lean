section RDE
variable {l : Launch} {w : jW} {h0 h : jH} {u : Nat} {t : Nat → Nat} {n : Nat} {hs : List (Nat × Nat × Nat)} {me sg bs : Nat} {a a' : Nat} {md md' : cMd} {r : Option Value} {dp d D : Nat} {sub : Nat → PR} {br : Bool}
theorem impRel {x : Int32} {a1 : Nat} {md1 : cMd} (c13 : ¬ (48 ≤ pek t n a ∧ pek t n a ≤ 57)) (c24 : ¬ pek t n a = 36) (c35 : br = true) (c51 : ¬ (97 ≤ pek t n a ∧ pek t n a ≤ 122)) (c71 : 65 ≤ pek t n a ∧ pek t n a ≤ 70)
    (h : cRel me bs (oAt (pek t n (a + 1) == 46) n (a + 1) (a + 1 + 1) md).2 (if (97 ≤ pek t n (oAt (pek t n (a + 1) == 46) n (a + 1) (a + 1 + 1) md).1 ∧ pek t n (oAt (pek t n (a + 1) == 46) n (a + 1) (a + 1 + 1) md).1 ≤ 122) ∧ pek t n ((oAt (pek t n (a + 1) == 46) n (a + 1) (a + 1 + 1) md).1 + 1) = 40 then pCall t n hs sub (pek t n a - 64) (pek t n (oAt (pek t n (a + 1) == 46) n (a + 1) (a + 1 + 1) md).1 - 97) ((oAt (pek t n (a + 1) == 46) n (a + 1) (a + 1 + 1) md).1 + 2) else none) a1 md1 (some (.int x))) : cRel me bs md (pWho t n hs sg br sub a) a1 md1 (some (.int x)) := by
  unfold pWho
  rw [if_neg c13, if_neg c24, if_neg (by rw [c35]; decide), if_neg c51, if_pos c71]
  by_cases c : pek t n (a + 1) = 46
  · rw [oAt_t (beq_t c)] at h
    simp only [c, true_and]
    exact h
  · rw [oAt_f (beq_f c)] at h
    rw [if_neg (fun q => c q.1)]
    exact cRel_f (cRel_n h) (fun _ => rfl)
theorem c_readWhole (hw : jok w) (hS : cS h0 u t n hs me sg) (hsg3 : ∀ k, ta sg k ≠ 3) (hd : 2 ≤ d) (hD : 4 ≤ D) (hbr : br = decide (dp < 8)) (hdp : dp ≤ 8) (hE' : br = true → d + 3 ≤ D ∧ cSub l w h0 u n me (dp + 1) d sub) (hc : cAt h0 h u n a md) (hb : cBd a md) : jM l w yX0_readWhole cX0_readWhole 4 (some .int) D [.ref (jad w 13), .int (nI dp)] h (fun r h' => ∃ a' md', cAt h0 h' u n a' md' ∧ cRel me bs md (pWho t n hs sg br sub a) a' md' r) := by
  refine jM_of (by decide) hw (Nat.le_of_ble_eq_true rfl) ?_
  intro X C hl hR hnL hrt hE
  subst hl
  have C : jC X w cX0_readWhole RX0 := C
  have hn := cS_n hS
  have hpk := pek_lt (FrTx (cAt_any hc).choose_spec.choose_spec.choose_spec.choose_spec.choose_spec.choose_spec.2.1 hS.u7 hS.2.2.1) a
  have hx8 : ∀ k : Nat, k < 2 ^ 31 → (nI (pek t n a) = nI k ↔ pek t n a = k) := fun k hk => nI_eq (by omega) hk
  have C8 : ¬ (48 ≤ pek t n a ∧ pek t n a ≤ 57) → ¬ pek t n a = 36 → br = true → ¬ (97 ≤ pek t n a ∧ pek t n a ≤ 122) → ¬ (65 ≤ pek t n a ∧ pek t n a ≤ 70) → ∀ h : jH, cAt h0 h u n a md → J X w h 99 [(0, .ref (jad w 13)), (1, .int (nI dp)), (2, .int (nI (pek t n a)))] [.int (nI (pek t n a))] := by
    intro q1 q2 q3 q4 q5 h hc
    obtain ⟨hD3, hsub⟩ := hE' q3
    have hpw : pWho t n hs sg br sub a = if pek t n a = 40 then pGrp t n sub a else if pek t n a = 123 then pPair t n sub a else if pek t n a = 91 then pCho t n sub a else none := by
      unfold pWho
      rw [if_neg q1, if_neg q2, if_neg (by rw [q3]; decide), if_neg q4, if_neg q5]
    by_cases c40 : pek t n a = 40
    · rw [if_pos c40] at hpw
      refine j_lookup C 132 dX0_readWhole_99 (by decide) (off := 33) (by rw [c40]; decide) (by decide) ?_
      refine k_aload_n C dX0_readWhole_132 rfl ?_
      refine k_iload_n C dX0_readWhole_133 rfl ?_
      refine j_iconst (v := 1) C dX0_readWhole_134 (by decide) ?_
      refine j_iadd C dX0_readWhole_135 ?_
      rw [nI_1]
      refine k_callV (k := 13) (ci := 0) (As := [.int (nI (dp + 1))]) C mX0_164 (c_readGroup (bs := bs) hw hS hd hsub hc hb c40) jCl0.1 (by first | decide | omega) (by first | assumption | rfl) rfl rfl (Nat.le_of_ble_eq_true rfl) (jroom hR (by first | decide | omega) (by decide)) dX0_readWhole_136 ?_
      rintro v9 h9 ⟨a1, md1, hc, hr1⟩
      obtain ⟨x1, rfl⟩ := cRel_int hr1
      exact j_iret C hrt hE dX0_readWhole_139 (⟨_, _, hc, by rw [hpw]; exact hr1⟩)
    by_cases c123 : pek t n a = 123
    · rw [if_neg c40, if_pos c123] at hpw
      refine j_lookup C 140 dX0_readWhole_99 (by decide) (off := 41) (by rw [c123]; decide) (by decide) ?_
      refine k_aload_n C dX0_readWhole_140 rfl ?_
      refine k_iload_n C dX0_readWhole_141 rfl ?_
      refine j_iconst (v := 1) C dX0_readWhole_142 (by decide) ?_
      refine j_iadd C dX0_readWhole_143 ?_
      rw [nI_1]
      refine k_callV (k := 13) (ci := 0) (As := [.int (nI (dp + 1))]) C mX0_167 (c_readPair (bs := bs) hw hS hd hsub hc hb c123) jCl0.1 (by first | decide | omega) (by first | assumption | rfl) rfl rfl (Nat.le_of_ble_eq_true rfl) (jroom hR (by first | decide | omega) (by decide)) dX0_readWhole_144 ?_
      rintro v9 h9 ⟨a1, md1, hc, hr1⟩
      obtain ⟨x1, rfl⟩ := cRel_int hr1
      exact j_iret C hrt hE dX0_readWhole_147 (⟨_, _, hc, by rw [hpw]; exact hr1⟩)
    by_cases c91 : pek t n a = 91
    · rw [if_neg c40, if_neg c123, if_pos c91] at hpw
      refine j_lookup C 148 dX0_readWhole_99 (by decide) (off := 49) (by rw [c91]; decide) (by decide) ?_
      refine k_aload_n C dX0_readWhole_148 rfl ?_
      refine k_iload_n C dX0_readWhole_149 rfl ?_
      refine j_iconst (v := 1) C dX0_readWhole_150 (by decide) ?_
      refine j_iadd C dX0_readWhole_151 ?_
      rw [nI_1]
      refine k_callV (k := 13) (ci := 0) (As := [.int (nI (dp + 1))]) C mX0_170 (c_readChoice (bs := bs) hw hS hd hsub hc hb c91) jCl0.1 (by first | decide | omega) (by first | assumption | rfl) rfl rfl (Nat.le_of_ble_eq_true rfl) (jroom hR (by first | decide | omega) (by decide)) dX0_readWhole_152 ?_
      rintro v9 h9 ⟨a1, md1, hc, hr1⟩
      obtain ⟨x1, rfl⟩ := cRel_int hr1
      exact j_iret C hrt hE dX0_readWhole_155 (⟨_, _, hc, by rw [hpw]; exact hr1⟩)
    · rw [if_neg c40, if_neg c123, if_neg c91] at hpw
      refine j_lookup C 156 dX0_readWhole_99 (by decide) (off := 57) (by
        rw [lv_osw (k := 40) (fun e => c40 ((hx8 40 (by decide)).mp e)) (by decide), lv_osw (k := 91) (fun e => c91 ((hx8 91 (by decide)).mp e)) (by decide), lv_osw (k := 123) (fun e => c123 ((hx8 123 (by decide)).mp e)) (by decide)]
        rfl) (by decide) ?_
      refine k_aload_n C dX0_readWhole_156 rfl ?_
      refine k_callV (k := 13) (ci := 0) (As := []) C mX0_75 (t_refuse hw hS hc) jCl0.1 (by first | decide | omega) (by first | assumption | rfl) rfl rfl (Nat.le_of_ble_eq_true rfl) (jroom hR (by first | decide | omega) (by decide)) dX0_readWhole_157 ?_
      rintro v9 h9 ⟨rfl, hc⟩
      exact j_iret C hrt hE dX0_readWhole_160 (⟨_, _, hc, cRel_f rfl (fun _ => hpw)⟩)
  show J X w h 0 [(0, .ref (jad w 13)), (1, .int (nI dp))] []
  refine k_aload_n C dX0_readWhole_0 rfl ?_
  refine k_callV (k := 13) (ci := 0) (As := []) C mX0_64 (t_peek hw hS hc) jCl0.1 (by first | decide | omega) (by first | assumption | rfl) rfl rfl (Nat.le_of_ble_eq_true rfl) (jroom hR (by first | decide | omega) (by decide)) dX0_readWhole_1 ?_
  rintro v9 h9 ⟨rfl, rfl⟩
  refine k_istore_n C dX0_readWhole_4 (by rw [hnL]; decide) ?_
  refine k_iload_n C dX0_readWhole_5 rfl ?_
  refine j_bipush (v := 48) C dX0_readWhole_6 (by decide) ?_
  refine j_bipush (v := 57) C dX0_readWhole_8 (by decide) ?_
  refine k_callS (As := [.int (nI (pek t n a)), .int (nI 48), .int (nI 57)]) C mX0_151 (m_isIn hw (x := pek t n a) (y := 48) (z := 57) (by omega) (by omega) (by omega)) rfl rfl (Nat.le_of_ble_eq_true rfl) (jroom hR (by first | decide | omega) (by decide)) dX0_readWhole_10 ?_
  rintro v9 h9 ⟨rfl, rfl⟩
  refine j_if_eq C 21 dX0_readWhole_13 (by decide) (fun c13 => ?_) (fun c13 => ?_)
  · rw [i1z] at c13
    refine k_iload_n C dX0_readWhole_21 rfl ?_
    refine j_bipush (v := 36) C dX0_readWhole_22 (by decide) ?_
    refine j_icmp_ne C 32 dX0_readWhole_24 (by decide) (fun c24 => ?_) (fun c24 => ?_)
    · replace c24 := fun e => c24 ((hx8 36 (by decide)).mpr e)
      refine k_iload_n C dX0_readWhole_32 rfl ?_
      refine j_bipush (v := 8) C dX0_readWhole_33 (by decide) ?_
      refine j_icmp_lt C 43 dX0_readWhole_35 (by decide) (fun c35 => ?_) (fun c35 => ?_)
      · replace c35 : br = true := by rw [hbr]; simpa using (nI_ltI (a := dp) (b := 8) (by omega) (by omega)).mp c35
        refine k_iload_n C dX0_readWhole_43 rfl ?_
        refine j_bipush (v := 97) C dX0_readWhole_44 (by decide) ?_
        refine j_bipush (v := 122) C dX0_readWhole_46 (by decide) ?_
        refine k_callS (As := [.int (nI (pek t n a)), .int (nI 97), .int (nI 122)]) C mX0_151 (m_isIn hw (x := pek t n a) (y := 97) (z := 122) (by omega) (by omega) (by omega)) rfl rfl (Nat.le_of_ble_eq_true rfl) (jroom hR (by first | decide | omega) (by decide)) dX0_readWhole_48 ?_
        rintro v9 h9 ⟨rfl, rfl⟩
        refine j_if_eq C 63 dX0_readWhole_51 (by decide) (fun c51 => ?_) (fun c51 => ?_)
        · rw [i1z] at c51
          refine k_iload_n C dX0_readWhole_63 rfl ?_
          refine j_bipush (v := 65) C dX0_readWhole_64 (by decide) ?_
          refine j_bipush (v := 70) C dX0_readWhole_66 (by decide) ?_
          refine k_callS (As := [.int (nI (pek t n a)), .int (nI 65), .int (nI 70)]) C mX0_151 (m_isIn hw (x := pek t n a) (y := 65) (z := 70) (by omega) (by omega) (by omega)) rfl rfl (Nat.le_of_ble_eq_true rfl) (jroom hR (by first | decide | omega) (by decide)) dX0_readWhole_68 ?_
          rintro v9 h9 ⟨rfl, rfl⟩
          refine j_if_eq C 98 dX0_readWhole_71 (by decide) (fun c71 => ?_) (fun c71 => ?_)
          · rw [i1z] at c71
            refine k_iload_n C dX0_readWhole_98 rfl ?_
            exact C8 c13 c24 c35 c51 c71 _ hc
          · rw [i1z, Classical.not_not] at c71; obtain ⟨hD3, hsub⟩ := hE' c35
            refine k_aload_n C dX0_readWhole_74 rfl ?_
            refine j_bipush (v := 65) C dX0_readWhole_75 (by decide) ?_
            refine j_bipush (v := 70) C dX0_readWhole_77 (by decide) ?_
            refine k_callV (k := 13) (ci := 0) (As := [.int (nI 65), .int (nI 70)]) C mX0_57 (t_readAmong hw hS hc (lo := 65) (hi := 70) (by omega) (by omega) (by omega)) jCl0.1 (by first | decide | omega) (by first | assumption | rfl) rfl rfl (Nat.le_of_ble_eq_true rfl) (jroom hR (by first | decide | omega) (by decide)) dX0_readWhole_79 ?_
            rintro v9 h9 ⟨rfl, hc⟩
            simp only [oAt, c71, and_self, decide_true, if_true] at hc
            have eo : nI (if 65 ≤ pek t n a ∧ pek t n a ≤ 70 then pek t n a - 65 else 0) = oI (pek t n a - 64) := by rw [if_pos c71, oI_p (by omega)]; congr 1
            rw [eo]
            refine k_istore_n C dX0_readWhole_82 (by rw [hnL]; decide) ?_
            refine k_aload_n C dX0_readWhole_83 rfl ?_
            refine j_bipush (v := 46) C dX0_readWhole_84 (by decide) ?_
            refine k_callV (k := 13) (ci := 0) (As := [.int (nI 46)]) C mX0_68 (t_take hw hS hc (ch := 46) (by decide) (by decide)) jCl0.1 (by first | decide | omega) (by first | assumption | rfl) rfl rfl (Nat.le_of_ble_eq_true rfl) (jroom hR (by first | decide | omega) (by decide)) dX0_readWhole_86 ?_
            rintro v9 h9 ⟨rfl, hc⟩
            refine k_aload_n C dX0_readWhole_89 rfl ?_
            refine k_iload_n C dX0_readWhole_90 rfl ?_
            refine k_iload_n C dX0_readWhole_91 rfl ?_
            refine j_iconst (v := 1) C dX0_readWhole_92 (by decide) ?_
            refine j_iadd C dX0_readWhole_93 ?_
            rw [nI_1]
            refine k_callV (k := 13) (ci := 0) (As := [.int (oI (pek t n a - 64)), .int (nI (dp + 1))]) C mX0_161 (c_readCall (bs := bs) (o := pek t n a - 64) hw hS hd hsub (by omega) hc (cBd_at (cBd_up hb (by omega)) (by omega))) jCl0.1 (by first | decide | omega) (by first | assumption | rfl) rfl rfl (Nat.le_of_ble_eq_true rfl) (jroom hR (by first | decide | omega) (by decide)) dX0_readWhole_94 ?_
            rintro v9 h9 ⟨a1, md1, hc, hr1⟩
            obtain ⟨x1, rfl⟩ := cRel_int hr1
            exact j_iret C hrt hE dX0_readWhole_97 ⟨_, _, hc, impRel c13 c24 c35 c51 c71 hr1⟩
        · rw [i1z, Classical.not_not] at c51; obtain ⟨hD3, hsub⟩ := hE' c35
          refine k_aload_n C dX0_readWhole_54 rfl ?_
          refine j_iconst (v := -1) C dX0_readWhole_55 (by decide) ?_
          refine k_iload_n C dX0_readWhole_56 rfl ?_
          refine j_iconst (v := 1) C dX0_readWhole_57 (by decide) ?_
          refine j_iadd C dX0_readWhole_58 ?_
          rw [nI_1]
          refine k_callV (k := 13) (ci := 0) (As := [.int (oI 0), .int (nI (dp + 1))]) C mX0_161 (c_readCall (bs := bs) (o := 0) hw hS hd hsub (by omega) hc hb) jCl0.1 (by first | decide | omega) (by first | assumption | rfl) rfl rfl (Nat.le_of_ble_eq_true rfl) (jroom hR (by first | decide | omega) (by decide)) dX0_readWhole_59 ?_
          rintro v9 h9 ⟨a1, md1, hc, hr1⟩
          obtain ⟨x1, rfl⟩ := cRel_int hr1
          exact j_iret C hrt hE dX0_readWhole_62 ⟨_, _, hc, by unfold pWho; rw [if_neg c13, if_neg c24, if_neg (by rw [c35]; decide), if_pos c51]; simp only [c51, and_self, true_and] at hr1; exact hr1⟩
      · replace c35 : br = false := by rw [hbr]; simpa using fun e => c35 (nI_lt (a := dp) (b := 8) e (by omega))
        refine k_aload_n C dX0_readWhole_38 rfl ?_
        refine k_callV (k := 13) (ci := 0) (As := []) C mX0_75 (t_refuse hw hS hc) jCl0.1 (by first | decide | omega) (by first | assumption | rfl) rfl rfl (Nat.le_of_ble_eq_true rfl) (jroom hR (by first | decide | omega) (by decide)) dX0_readWhole_39 ?_
        rintro v9 h9 ⟨rfl, hc⟩
        exact j_iret C hrt hE dX0_readWhole_42 ⟨_, _, hc, cRel_f rfl (fun _ => by unfold pWho; rw [if_neg c13, if_neg c24, if_pos c35])⟩
    · replace c24 := (hx8 36 (by decide)).mp c24
      refine k_aload_n C dX0_readWhole_27 rfl ?_
      refine k_callV (k := 13) (ci := 0) (As := []) C mX0_158 (c_readParameter (bs := bs) hw hS hsg3 hc hb c24) jCl0.1 (by first | decide | omega) (by first | assumption | rfl) rfl rfl (Nat.le_of_ble_eq_true rfl) (jroom hR (by first | decide | omega) (by decide)) dX0_readWhole_28 ?_
      rintro v9 h9 ⟨a1, md1, hc, hr1⟩
      obtain ⟨x1, rfl⟩ := cRel_int hr1
      exact j_iret C hrt hE dX0_readWhole_31 ⟨_, _, hc, by unfold pWho; rw [if_neg c13, if_pos c24]; exact hr1⟩
  · rw [i1z, Classical.not_not] at c13
    refine k_aload_n C dX0_readWhole_16 rfl ?_
    refine k_callV (k := 13) (ci := 0) (As := []) C mX0_155 (c_readNumber (bs := bs) hw hS hc hb c13) jCl0.1 (by first | decide | omega) (by first | assumption | rfl) rfl rfl (Nat.le_of_ble_eq_true rfl) (jroom hR (by first | decide | omega) (by decide)) dX0_readWhole_17 ?_
    rintro v9 h9 ⟨a1, md1, hc, hr1⟩
    obtain ⟨x1, rfl⟩ := cRel_int hr1
    exact j_iret C hrt hE dX0_readWhole_20 ⟨_, _, hc, by unfold pWho; rw [if_pos c13]; exact hr1⟩
end RDE
