section R5
variable {l : Launch} {w : jW} {h h' : jH} {sz : Nat} {G : GS} {PG : Nat → PU} {pr : Nat → Bool} {hs : List HD}
theorem shr_by (x : Int32) {j : Nat} (hj : j ≤ 3) : (x >>> ((8 * nI j) &&& 31)) &&& 255 = nI (byB x j) := by
  have key : ∀ j, j ≤ 3 → (((8 : Int32) * nI j &&& 31).toBitVec.smod 32).toNat = 8 * j := by decide
  have h255 : ∀ i, i < 32 → (255#32).getLsbD i = decide (i < 8) := by decide
  apply Int32.toBitVec_inj.mp
  rw [Int32.toBitVec_and, Int32.toBitVec_shiftRight]
  unfold BitVec.sshiftRight'
  rw [key j hj]
  show (x.toBitVec.sshiftRight (8 * j)) &&& (255#32) = BitVec.ofNat 32 (byB x j)
  apply BitVec.eq_of_getLsbD_eq
  intro i hi
  rw [BitVec.getLsbD_and, BitVec.getLsbD_sshiftRight, h255 i hi, BitVec.getLsbD_ofNat]
  unfold byB
  rw [show (256 : Nat) = 2 ^ 8 from rfl, Nat.testBit_mod_two_pow, Nat.testBit_div_two_pow]
  by_cases h8 : i < 8
  · have h32 : 8 * j + i < 32 := by omega
    have h9 : ¬ 32 ≤ i := by omega
    simp only [h8, h32, h9, hi, decide_true, decide_false, Bool.and_true, Bool.true_and, Bool.not_false, if_true]
    unfold BitVec.getLsbD
    rw [Nat.add_comm]
  · simp [h8]
theorem r_Put (hw : jok w) (H : RI sz G h) (x y : Int32) : jM l w yX5_put cX5_put 4 (some .boolean) 1 [.ref (jad w 70), .int x, .int y] h (fun r h' => r = some (.int (if (gPut G x y).1 then 1 else 0)) ∧ h'.1 70 0 = 0 ∧ RI sz (gPut G x y).2 h' ∧ rF h h') := by
  refine jM_of (by decide) hw (Nat.le_of_ble_eq_true rfl) ?_
  intro X C hl hR hnL hrt hE
  subst hl
  have C : jC X w cX5_put RX5 := C
  have H0 := (RI_code 0 H).1
  have hF0 := (RI_code 0 H).2
  obtain ⟨⟨n, t⟩, G2⟩ := G
  obtain ⟨g, eg⟩ : ∃ g : jH, g = (up2 h.1 70 0 0, h.2) := ⟨_, rfl⟩
  rw [← eg] at H0 hF0
  obtain ⟨hr, ⟨hT1, hT2, hT3⟩, hM, hO⟩ := id H0
  dsimp only at hT1 hT2 hT3 hM
  have g0 : g.1 70 0 = 0 := by rw [eg]; simp [up2]
  show J X w h 0 [(0, .ref (jad w 70)), (1, .int x), (2, .int y)] []
  have no : putN n x y = none → ((some (Value.int 0) : Option Value) = some (.int (if (gPut ((n, t), G2) x y).1 then 1 else 0)) ∧ g.1 70 0 = 0 ∧ RI sz (gPut ((n, t), G2) x y).2 g ∧ rF h g) := by
    intro e
    have eG : gPut ((n, t), G2) x y = (false, ((n, t), G2)) := by unfold gPut; dsimp only; rw [e]
    rw [eG]
    exact ⟨rfl, g0, H0, hF0⟩
  have start : (∀ b : Bool, (b = true ↔ ¬ (1 ≤ y ∧ y ≤ 4)) → J X w g 11 [(0, .ref (jad w 70)), (1, .int x), (2, .int y)] [.int (bI b)]) → J X w h 0 [(0, .ref (jad w 70)), (1, .int x), (2, .int y)] [] := by
    intro kk
    refine k_aload_n C dX5_put_0 rfl ?_
    refine j_iconst (v := 0) C dX5_put_1 (by decide) ?_
    refine j_puti C fX5_103 rfl rfl (by first | decide | omega) (by first | assumption | rfl) dX5_put_2 ?_
    rw [← eg]
    refine k_iload_n C dX5_put_5 rfl ?_
    refine j_iconst (v := 1) C dX5_put_6 (by decide) ?_
    refine j_iconst (v := 4) C dX5_put_7 (by decide) ?_
    refine k_callS (As := [.int y, .int 1, .int 4]) C mX5_106 (r_outside hw y 1 4) rfl rfl (Nat.le_of_ble_eq_true rfl) (jroom hR (by first | decide | omega) (by decide)) dX5_put_8 ?_
    rintro v9 h9 ⟨rfl, e9⟩
    obtain rfl := e9.symm
    refine kk _ ?_
    rw [Bool.or_eq_true, decide_eq_true_eq, decide_eq_true_eq]
    rw [Int32.lt_iff_toInt_lt, Int32.lt_iff_toInt_lt, Int32.le_iff_toInt_le, Int32.le_iff_toInt_le]
    omega
  refine start (fun b hb => ?_)
  cases e : iK 5 y with
  | none =>
    have e9 : putN n x y = none := by unfold putN; rw [e]
    have h9 := iK_none e
    have hbt : b = true := hb.mpr (fun z => h9 (by rw [Int32.le_iff_toInt_le, Int32.le_iff_toInt_le] at z; rw [Int32.le_iff_toInt_le, Int32.lt_iff_toInt_lt]; have e1 : (1 : Int32).toInt = 1 := rfl; have e4 : (4 : Int32).toInt = 4 := rfl; have e0 : (0 : Int32).toInt = 0 := rfl; have e5 : (nI 5).toInt = 5 := rfl; omega))
    subst hbt
    refine j_if_ne C 25 dX5_put_11 (by decide) (fun c11 => ?_) (fun c11 => ?_)
    · refine j_iconst (v := 0) C dX5_put_25 (by decide) ?_
      exact j_zret C hrt (rfl) hE dX5_put_26 (no e9)
    · exact absurd c11 (by decide) -- stop
  | some k =>
    obtain ⟨rfl, hk⟩ := iK_some (by decide) e
    have ep : putN n x (nI k) = if 1 ≤ k ∧ n + k ≤ 120 ∧ (List.range k).all (okB x) = true then some k else none := by unfold putN; rw [e]
    have hbk : b = true ↔ ¬ 1 ≤ k := by
      rw [hb]
      have a1 := nI_leI (a := 1) (b := k) (by omega) (by omega)
      have a2 := nI_leI (a := k) (b := 4) (by omega) (by omega)
      have e1 : (1 : Int32) = nI 1 := rfl
      have e4 : (4 : Int32) = nI 4 := rfl
      rw [e1, e4, a1, a2]
      omega
    by_cases k1 : 1 ≤ k
    · have hbf : b = false := by
        cases b with
        | false => rfl
        | true => exact absurd k1 (hbk.mp rfl)
      subst hbf
      by_cases k2 : n + k ≤ 120
      · have store : (List.range k).all (okB x) = true → ∀ (d j : Nat) (h2 : jH), j + d = k → h2.2 = g.2 → (∀ k' j', ¬ (k' = 70 ∧ j' = 3) → k' ≠ 71 → h2.1 k' j' = g.1 k' j') → h2.1 70 3 = nI (n + d) → (∀ i, i < n + d → h2.1 71 i = nI (putT n t x k i)) → J X w h2 66 [(0, .ref (jad w 70)), (1, .int x), (2, .int (nI k)), (3, .int (nI j - 1))] [] := by
          intro hall d j
          have hok := fun i hi => List.all_eq_true.mp hall i (List.mem_range.mpr hi)
          have epos : putN n x (nI k) = some k := by rw [ep]; exact if_pos ⟨k1, k2, hall⟩
          have eG : gPut ((n, t), G2) x (nI k) = (true, ((n + k, putT n t x k), G2)) := by unfold gPut; dsimp only; rw [epos]
          induction j generalizing d with
          | zero =>
            intro h2 hd e2 hF l2 c2
            refine k_iload_n C dX5_put_66 rfl ?_
            refine j_if_lt C 106 dX5_put_67 (by decide) (fun c67 => ?_) (fun c67 => ?_)
            · refine j_iconst (v := 1) C dX5_put_106 (by decide) ?_
              exact j_zret C hrt (rfl) hE dX5_put_107 (⟨by rw [eG]; rfl, by rw [hF _ _ (by omega) (by omega)]; exact g0, by rw [eG]; exact ⟨by rw [e2]; exact hr, ⟨by dsimp only; rw [l2, show d = k by omega], k2, fun i hi => ⟨c2 i (by dsimp only at hi; omega), by dsimp only at hi ⊢; unfold putT; split; exact (hT3 i (by assumption)).2; (have := hok (n + k - 1 - i) (by omega); simp only [okB, Bool.and_eq_true, decide_eq_true_eq] at this; exact this)⟩⟩, rM_keep (fun k' j' z => hF k' j' (by omega) (by omega)) hM, rO_keep (G := ((n, t), G2)) (fun j' z => hF 70 j' (by omega) (by omega)) hO⟩, by rw [e2]; exact hF0.1, fun k' j' z => by rw [hF k' j' (by omega) (by omega)]; exact hF0.2 k' j' z⟩)
            · exact absurd (show nI 0 - 1 < 0 by decide) c67 -- stop
          | succ j ih =>
            intro h2 hd e2 hF l2 c2
            have ej : nI (j + 1) - 1 = nI j := nI_pred j
            rw [ej]
            have hr2 : h2.2.1 70 = rMap := by rw [e2]; exact hr
            refine k_iload_n C dX5_put_66 rfl ?_
            refine j_if_lt C 106 dX5_put_67 (by decide) (fun c67 => ?_) (fun c67 => ?_)
            · exact absurd c67 (nI_pos (by omega)) -- stop
            · refine k_aload_n C dX5_put_70 rfl ?_
              refine j_getr C fX5_7 rfl (by first | decide | omega) (by first | assumption | rfl) (congrFun hr2 _) dX5_put_71 ?_
              refine k_aload_n C dX5_put_74 rfl ?_
              refine j_geti C fX5_110 rfl (by first | decide | omega) (by first | assumption | rfl) dX5_put_75 ?_
              refine k_iload_n C dX5_put_78 rfl ?_
              refine j_bipush (v := 8) C dX5_put_79 (by decide) ?_
              refine k_iload_n C dX5_put_81 rfl ?_
              refine j_imul C dX5_put_82 ?_
              refine j_ishr C dX5_put_83 ?_
              refine j_sipush (v := 255) C dX5_put_84 (by decide) ?_
              refine j_iand C dX5_put_87 ?_
              rw [shr_by x (show j ≤ 3 by omega)]
              refine j_i2c (v := nI (byB x j)) C dX5_put_88 (by rw [pk_char]; have := byB_lt (x := x) (k := j); have e9 : (nI (byB x j)).toBitVec.toNat = byB x j := (by show (BitVec.ofNat 32 _).toNat = _; rw [BitVec.toNat_ofNat, Nat.mod_eq_of_lt (by omega)]); rw [e9, Nat.mod_eq_of_lt (by omega)]) ?_
              refine j_cast C (by first | decide | omega) (by first | assumption | rfl) (l2) ((by omega)) (by decide) (by have := (pk_charN (q := byB x j) (by have := byB_lt (x := x) (k := j); omega)).1; unfold vp_nar; rw [this]) dX5_put_89 ?_
              refine k_aload_n C dX5_put_90 rfl ?_
              refine j_dup C dX5_put_91 rfl ?_
              refine j_geti C fX5_110 rfl (by first | decide | omega) (by first | assumption | rfl) dX5_put_92 ?_
              refine j_iconst (v := 1) C dX5_put_95 (by decide) ?_
              refine j_iadd C dX5_put_96 ?_
              refine jeq (congrArg (fun z => [Value.int z, Value.ref (jad w 70)]) (show up2 h2.1 71 (n + d) (nI (byB x j)) 70 3 + 1 = nI (n + (d + 1)) from by rw [up2_n (by omega), l2, nI_1]; rfl)) ?_
              refine j_puti C fX5_110 rfl rfl (by first | decide | omega) (by first | assumption | rfl) dX5_put_97 ?_
              refine k_iinc C dX5_put_100 rfl rfl (by rw [hnL]; decide) ?_
              refine j_goto C 66 dX5_put_103 (by decide) ?_
              rw [show nI j + Int32.ofInt (-1) = nI j - 1 from by rw [show Int32.ofInt (-1) = -1 from by decide]; exact (Int32.sub_eq_add_neg _ _).symm]
              refine ih (d + 1) _ (by omega) e2 (fun k' j' z1 z2 => ?_) (by simp [up2]) (fun i hi => ?_)
              · show up2 (up2 h2.1 71 (n + d) (nI (byB x j))) 70 3 (nI (n + (d + 1))) k' j' = _
                rw [up2_n (by omega), up2_n (by omega)]; exact hF k' j' z1 z2
              · show up2 (up2 h2.1 71 (n + d) (nI (byB x j))) 70 3 (nI (n + (d + 1))) 71 i = _
                rw [up2_n (by omega)]
                by_cases z : i = n + d
                · rw [z, up2_s]; unfold putT; rw [if_neg (by omega), show n + k - 1 - (n + d) = j by omega]
                · rw [up2_n (by omega)]; exact c2 i (by omega)
        have chk : ∀ (d j : Nat), j + d = k → (∀ i, i < j → okB x i = true) → J X w g 29 [(0, .ref (jad w 70)), (1, .int x), (2, .int (nI k)), (3, .int (nI j))] [] := by
          intro d
          induction d with
          | zero =>
            intro j hj hok
            have hall : (List.range k).all (okB x) = true := List.all_eq_true.mpr (fun i hi => hok i (by have := List.mem_range.mp hi; omega))
            refine k_iload_n C dX5_put_29 rfl ?_
            refine k_iload_n C dX5_put_30 rfl ?_
            refine j_icmp_ge C 62 dX5_put_31 (by decide) (fun c31 => ?_) (fun c31 => ?_)
            · refine k_iload_n C dX5_put_62 rfl ?_
              refine j_iconst (v := 1) C dX5_put_63 (by decide) ?_
              refine j_isub C dX5_put_64 ?_
              refine k_istore_n C dX5_put_65 (by rw [hnL]; decide) ?_
              exact store hall 0 k g (by omega) rfl (fun _ _ _ _ => rfl) (by rw [hT1]; rfl) (fun i hi => by rw [(hT3 i (by omega)).1]; unfold putT; rw [if_pos (by omega)])
            · exact absurd (nI_le (a := k) (b := j) (by omega) (by omega)) c31 -- stop
          | succ d ih =>
            intro j hj hok
            have hb := byB_lt (x := x) (k := j)
            have bad : ¬ okB x j = true → putN n x (nI k) = none := fun z => by rw [ep, if_neg (fun q => z (List.all_eq_true.mp q.2.2 j (List.mem_range.mpr (by omega))))]
            have e1 := out2 (x := byB x j) (lo := 32) (hi := 126) (by omega) (by omega) (by omega)
            refine k_iload_n C dX5_put_29 rfl ?_
            refine k_iload_n C dX5_put_30 rfl ?_
            refine j_icmp_ge C 62 dX5_put_31 (by decide) (fun c31 => ?_) (fun c31 => ?_)
            · exact absurd c31 (nI_ge (a := j) (b := k) (by omega) (by omega)) -- stop
            · refine k_iload_n C dX5_put_34 rfl ?_
              refine j_bipush (v := 8) C dX5_put_35 (by decide) ?_
              refine k_iload_n C dX5_put_37 rfl ?_
              refine j_imul C dX5_put_38 ?_
              refine j_ishr C dX5_put_39 ?_
              refine j_sipush (v := 255) C dX5_put_40 (by decide) ?_
              refine j_iand C dX5_put_43 ?_
              rw [shr_by x (show j ≤ 3 by omega)]
              refine j_bipush (v := 32) C dX5_put_44 (by decide) ?_
              refine j_bipush (v := 126) C dX5_put_46 (by decide) ?_
              refine k_callS (As := [.int (nI (byB x j)), .int (nI 32), .int (nI 126)]) C mX5_106 (r_outside hw (nI (byB x j)) (nI 32) (nI 126)) rfl rfl (Nat.le_of_ble_eq_true rfl) (jroom hR (by first | decide | omega) (by decide)) dX5_put_48 ?_
              rintro v9 h9 ⟨rfl, e9⟩
              obtain rfl := e9.symm
              rw [e1]
              refine j_if_eq C 56 dX5_put_51 (by decide) (fun c51 => ?_) (fun c51 => ?_)
              · rw [bI_z] at c51
                refine k_iinc C dX5_put_56 rfl rfl (by rw [hnL]; decide) ?_
                refine j_goto C 29 dX5_put_59 (by decide) ?_
                rw [show nI j + Int32.ofInt 1 = nI (j + 1) from nI_1 j]
                refine ih (j + 1) (by omega) (fun i hi => ?_)
                by_cases z : i = j
                · subst z
                  have c9 : 32 ≤ byB x i ∧ byB x i ≤ 126 := by by_cases q : (32 ≤ byB x i ∧ byB x i ≤ 126); exact q; (rw [decide_eq_false q] at c51; cases c51)
                  simp only [okB, Bool.and_eq_true, decide_eq_true_eq]; exact c9
                · exact hok i (by omega)
              · rw [bI_z] at c51
                refine j_iconst (v := 0) C dX5_put_54 (by decide) ?_
                exact j_zret C hrt (rfl) hE dX5_put_55 (no (bad (fun z => c51 (by simp only [okB, Bool.and_eq_true, decide_eq_true_eq] at z; rw [decide_eq_true z]; rfl))))
        refine j_if_ne C 25 dX5_put_11 (by decide) (fun c11 => ?_) (fun c11 => ?_)
        · exact absurd rfl c11 -- stop
        · refine k_aload_n C dX5_put_14 rfl ?_
          refine j_geti C fX5_110 rfl (by first | decide | omega) (by first | assumption | rfl) dX5_put_15 ?_
          refine k_iload_n C dX5_put_18 rfl ?_
          refine j_iadd C dX5_put_19 ?_
          refine j_bipush (v := 120) C dX5_put_20 (by decide) ?_
          refine j_icmp_le C 27 dX5_put_22 (by decide) (fun c22 => ?_) (fun c22 => ?_)
          · refine j_iconst (v := 0) C dX5_put_27 (by decide) ?_
            refine k_istore_n C dX5_put_28 (by rw [hnL]; decide) ?_
            exact chk k 0 (by omega) (fun i hi => absurd hi (Nat.not_lt_zero _))
          · exact absurd (by rw [hT1, nI_add]; exact nI_le (a := n + k) (b := 120) (by omega) (by omega)) c22 -- stop
      · have e9 : putN n x (nI k) = none := by rw [ep, if_neg (fun q => k2 q.2.1)]
        refine j_if_ne C 25 dX5_put_11 (by decide) (fun c11 => ?_) (fun c11 => ?_)
        · exact absurd rfl c11 -- stop
        · refine k_aload_n C dX5_put_14 rfl ?_
          refine j_geti C fX5_110 rfl (by first | decide | omega) (by first | assumption | rfl) dX5_put_15 ?_
          refine k_iload_n C dX5_put_18 rfl ?_
          refine j_iadd C dX5_put_19 ?_
          refine j_bipush (v := 120) C dX5_put_20 (by decide) ?_
          refine j_icmp_le C 27 dX5_put_22 (by decide) (fun c22 => ?_) (fun c22 => ?_)
          · exact absurd c22 (by rw [hT1, nI_add]; exact nI_ge (a := 120) (b := n + k) (by omega) (by omega)) -- stop
          · refine j_iconst (v := 0) C dX5_put_25 (by decide) ?_
            exact j_zret C hrt (rfl) hE dX5_put_26 (no e9)
    · have e9 : putN n x (nI k) = none := by rw [ep, if_neg (fun q => k1 q.1)]
      have hbt := hbk.mpr k1
      subst hbt
      refine j_if_ne C 25 dX5_put_11 (by decide) (fun c11 => ?_) (fun c11 => ?_)
      · refine j_iconst (v := 0) C dX5_put_25 (by decide) ?_
        exact j_zret C hrt (rfl) hE dX5_put_26 (no e9)
      · exact absurd c11 (by decide) -- stop
end R5
