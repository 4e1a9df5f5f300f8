/-- a byte of a word -/
def byB (x : Int32) (k : Nat) : Nat := x.toBitVec.toNat / 2 ^ (8 * k) % 256
def okB (x : Int32) (k : Nat) : Bool := decide (32 ≤ byB x k) && decide (byB x k ≤ 126)
/-- how many characters a put takes, if it takes any -/
def putN (n : Nat) (x y : Int32) : Option Nat := match iK 5 y with
  | none => none
  | some k => if 1 ≤ k ∧ n + k ≤ 120 ∧ (List.range k).all (okB x) = true then some k else none
def putT (n : Nat) (t : Nat → Nat) (x : Int32) (k : Nat) : Nat → Nat := fun i => if i < n then t i else byB x (n + k - 1 - i)
section K3
variable {l : Launch} {w : jW} {h : jH} {PG : Nat → PU} {pr : Nat → Bool} {σ : Nat → Nat} {n : Nat} {t : Nat → Nat}
theorem byB_lt {x : Int32} {k : Nat} : byB x k < 256 := Nat.mod_lt _ (by decide)
theorem m_byteOf (hw : jok w) (x : Int32) {k : Nat} (hk : k ≤ 3) : jM l w yX4_byteOf cX4_byteOf 2 (some .int) 0 [.int x, .int (nI k)] h (fun r h' => r = some (.int (nI (byB x k))) ∧ h' = h) := by
  refine jM_of (by decide) hw (Nat.le_of_ble_eq_true rfl) ?_
  intro X C hl hR hnL hrt hE
  have C : jC X w cX4_byteOf RX4 := C
  have key : ∀ j, j ≤ 3 → ((((8 : Int32) * nI j).toUInt32 &&& Int32.toUInt32 31).toBitVec % 32).toNat = 8 * j := by decide
  show J X w h 0 [(0, .int x), (1, .int (nI k))] []
  refine k_iload_n C dX4_byteOf_0 rfl ?_
  refine j_bipush (v := 8) C dX4_byteOf_1 (by decide) ?_
  refine k_iload_n C dX4_byteOf_3 rfl ?_
  refine j_imul C dX4_byteOf_4 ?_
  refine j_iushr C dX4_byteOf_5 rfl ?_
  refine j_sipush (v := 255) C dX4_byteOf_6 (by decide) ?_
  refine j_iand C dX4_byteOf_9 ?_
  rw [pk_and _ 8 (by decide), pk_ushr x _ (8 * k) (key k hk)]
  exact j_iret C hrt hE dX4_byteOf_10 (⟨rfl, rfl⟩)
theorem c_put (hw : jok w) (hr : kR σ h) (hT : kT n t h) (x y : Int32) : jM l w yX4_put cX4_put 5 (some .boolean) 1 [.ref (jad w 0), .int x, .int y] h (fun r h' => r = some (.int (if (putN n x y).isSome then 1 else 0)) ∧ h'.2 = h.2 ∧ (∀ k j, ¬ (k = 0 ∧ j = 1) → k ≠ 1 → h'.1 k j = h.1 k j) ∧ match putN n x y with
    | none => h' = h
    | some k => kT (n + k) (putT n t x k) h') := by
  refine jM_of (by decide) hw (Nat.le_of_ble_eq_true rfl) ?_
  intro X C hl hR hnL hrt hE
  subst hl
  have C : jC X w cX4_put RX4 := C
  obtain ⟨hT1, hT2, hT3⟩ := id hT
  show J X w h 0 [(0, .ref (jad w 0)), (1, .int x), (2, .int y)] []
  have no : putN n x y = none → (none = (none : Option Nat)) → ((some (Value.int 0) : Option Value) = some (.int (if (putN n x y).isSome then 1 else 0)) ∧ h.2 = h.2 ∧ (∀ k j, ¬ (k = 0 ∧ j = 1) → k ≠ 1 → h.1 k j = h.1 k j) ∧ match putN n x y with
    | none => h = h
    | some k => kT (n + k) (putT n t x k) h) := by
    intro e _
    rw [e]
    exact ⟨rfl, rfl, fun _ _ _ _ => rfl, rfl⟩
  cases e : iK 5 y with
  | none =>
    have e9 : putN n x y = none := by unfold putN; rw [e]
    have h9 := iK_none e
    refine k_iload_n C dX4_put_0 rfl ?_
    refine j_iconst (v := 1) C dX4_put_1 (by decide) ?_
    refine j_icmp_lt C 21 dX4_put_2 (by decide) (fun c2 => ?_) (fun c2 => ?_)
    · skip
      refine j_iconst (v := 0) C dX4_put_21 (by decide) ?_
      exact j_zret C hrt (rfl) hE dX4_put_22 (no e9 rfl)
    · have a1 : ¬ y < 1 := by first | exact c2 | exact Int32.not_lt.mpr c2
      refine k_iload_n C dX4_put_5 rfl ?_
      refine j_iconst (v := 4) C dX4_put_6 (by decide) ?_
      refine j_icmp_gt C 21 dX4_put_7 (by decide) (fun c7 => ?_) (fun c7 => ?_)
      · skip
        refine j_iconst (v := 0) C dX4_put_21 (by decide) ?_
        exact j_zret C hrt (rfl) hE dX4_put_22 (no e9 rfl)
      · exact absurd (by have a2 : ¬ (4 : Int32) < y := (by first | exact c7 | exact Int32.not_lt.mpr c7); have b1 : ¬ y.toInt < 1 := fun z => a1 (Int32.lt_iff_toInt_lt.mpr z); have b2 : ¬ 4 < y.toInt := fun z => a2 (Int32.lt_iff_toInt_lt.mpr z); have e0 : (0 : Int32).toInt = 0 := rfl; have e5 : (nI 5).toInt = 5 := rfl; exact ⟨Int32.le_iff_toInt_le.mpr (by rw [e0]; omega), Int32.lt_iff_toInt_lt.mpr (by rw [e5]; omega)⟩) h9 -- stop
  | some k =>
    obtain ⟨rfl, hk⟩ := iK_some (by decide) e
    have ep : putN n x (nI k) = if 1 ≤ k ∧ n + k ≤ 120 ∧ (List.range k).all (okB x) = true then some k else none := by unfold putN; rw [e]
    by_cases k1 : 1 ≤ k
    · by_cases k2 : n + k ≤ 120
      · have store : (List.range k).all (okB x) = true → ∀ (d j : Nat) (h2 : jH), j + d = k → h2.2 = h.2 → (∀ k' j', ¬ (k' = 0 ∧ j' = 1) → k' ≠ 1 → h2.1 k' j' = h.1 k' j') → h2.1 0 1 = nI (n + d) → (∀ i, i < n + d → h2.1 1 i = nI (putT n t x k i)) → J X w h2 63 [(0, .ref (jad w 0)), (1, .int x), (2, .int (nI k)), (3, .int (nI j - 1))] [] := by
          intro hall d j
          have hok := fun i hi => List.all_eq_true.mp hall i (List.mem_range.mpr hi)
          have epos : putN n x (nI k) = some k := by rw [ep]; exact if_pos ⟨k1, k2, hall⟩
          induction j generalizing d with
          | zero =>
            intro h2 hd e2 hF l2 c2
            refine k_iload_n C dX4_put_63 rfl ?_
            refine j_if_lt C 98 dX4_put_64 (by decide) (fun c64 => ?_) (fun c64 => ?_)
            · refine j_iconst (v := 1) C dX4_put_98 (by decide) ?_
              exact j_zret C hrt (rfl) hE dX4_put_99 (⟨by rw [epos]; rfl, e2, hF, by rw [epos]; exact ⟨by rw [l2, show d = k by omega], k2, fun i hi => ⟨c2 i (by omega), by unfold putT; split; exact (hT3 i (by assumption)).2; (have := hok (n + k - 1 - i) (by omega); simp only [okB, Bool.and_eq_true, decide_eq_true_eq] at this; exact this)⟩⟩⟩)
            · exact absurd (show nI 0 - 1 < 0 by decide) c64 -- stop
          | succ j ih =>
            intro h2 hd e2 hF l2 c2
            have ej : nI (j + 1) - 1 = nI j := nI_pred j
            rw [ej]
            refine k_iload_n C dX4_put_63 rfl ?_
            refine j_if_lt C 98 dX4_put_64 (by decide) (fun c64 => ?_) (fun c64 => ?_)
            · exact absurd c64 (nI_pos (by omega)) -- stop
            · refine k_aload_n C dX4_put_67 rfl ?_
              refine j_getr C fX4_9 rfl (by first | decide | omega) (by first | assumption | rfl) (by rw [e2]; exact hr.1) dX4_put_68 ?_
              refine k_aload_n C dX4_put_71 rfl ?_
              refine j_geti C fX4_63 rfl (by first | decide | omega) (by first | assumption | rfl) dX4_put_72 ?_
              refine k_iload_n C dX4_put_75 rfl ?_
              refine k_iload_n C dX4_put_76 rfl ?_
              refine k_callS (As := [.int x, .int (nI j)]) C mX4_66 (m_byteOf hw x (k := j) (by omega)) rfl rfl (Nat.le_of_ble_eq_true rfl) (jroom hR (by first | decide | omega) (by decide)) dX4_put_77 ?_
              rintro v9 h9 ⟨rfl, e9⟩
              obtain rfl := e9.symm
              refine j_i2c (v := nI (byB x j)) C dX4_put_80 (by rw [pk_char]; have := byB_lt (x := x) (k := j); have e9 : (nI (byB x j)).toBitVec.toNat = byB x j := (by show (BitVec.ofNat 32 _).toNat = _; rw [BitVec.toNat_ofNat, Nat.mod_eq_of_lt (by omega)]); rw [e9, Nat.mod_eq_of_lt (by omega)]) ?_
              refine j_cast C (by first | decide | omega) (by first | assumption | rfl) (l2) ((by omega)) (by decide) (by have := (pk_charN (q := byB x j) (by have := byB_lt (x := x) (k := j); omega)).1; unfold vp_nar; rw [this]) dX4_put_81 ?_
              refine k_aload_n C dX4_put_82 rfl ?_
              refine j_dup C dX4_put_83 rfl ?_
              refine j_geti C fX4_63 rfl (by first | decide | omega) (by first | assumption | rfl) dX4_put_84 ?_
              refine j_iconst (v := 1) C dX4_put_87 (by decide) ?_
              refine j_iadd C dX4_put_88 ?_
              refine jeq (congrArg (fun z => [Value.int z, Value.ref (jad w 0)]) (show up2 h2.1 1 (n + d) (nI (byB x j)) 0 1 + 1 = nI (n + (d + 1)) from by rw [up2_n (by omega), l2, nI_1]; rfl)) ?_
              refine j_puti C fX4_63 rfl rfl (by first | decide | omega) (by first | assumption | rfl) dX4_put_89 ?_
              refine k_iinc C dX4_put_92 rfl rfl (by rw [hnL]; decide) ?_
              refine j_goto C 63 dX4_put_95 (by decide) ?_
              rw [show nI j + Int32.ofInt (-1) = nI j - 1 from by rw [show Int32.ofInt (-1) = -1 from by decide]; exact (Int32.sub_eq_add_neg _ _).symm]
              refine ih (d + 1) _ (by omega) e2 (fun k' j' z1 z2 => ?_) (by simp [up2]) (fun i hi => ?_)
              · show up2 (up2 h2.1 1 (n + d) (nI (byB x j))) 0 1 (nI (n + (d + 1))) k' j' = _
                rw [up2_n (by omega), up2_n (by omega)]; exact hF k' j' z1 z2
              · show up2 (up2 h2.1 1 (n + d) (nI (byB x j))) 0 1 (nI (n + (d + 1))) 1 i = _
                rw [up2_n (by omega)]
                by_cases z : i = n + d
                · rw [z, up2_s]; unfold putT; rw [if_neg (by omega), show n + k - 1 - (n + d) = j by omega]
                · rw [up2_n (by omega)]; exact c2 i (by omega)
        have chk : ∀ (d j : Nat), j + d = k → (∀ i, i < j → okB x i = true) → J X w h 25 [(0, .ref (jad w 0)), (1, .int x), (2, .int (nI k)), (3, .int (nI j))] [] := by
          intro d
          induction d with
          | zero =>
            intro j hj hok
            have hall : (List.range k).all (okB x) = true := List.all_eq_true.mpr (fun i hi => hok i (by have := List.mem_range.mp hi; omega))
            refine k_iload_n C dX4_put_25 rfl ?_
            refine k_iload_n C dX4_put_26 rfl ?_
            refine j_icmp_ge C 59 dX4_put_27 (by decide) (fun c27 => ?_) (fun c27 => ?_)
            · refine k_iload_n C dX4_put_59 rfl ?_
              refine j_iconst (v := 1) C dX4_put_60 (by decide) ?_
              refine j_isub C dX4_put_61 ?_
              refine k_istore_n C dX4_put_62 (by rw [hnL]; decide) ?_
              exact store hall 0 k h (by omega) rfl (fun _ _ _ _ => rfl) (by rw [hT1]; rfl) (fun i hi => by rw [(hT3 i (by omega)).1]; unfold putT; rw [if_pos (by omega)])
            · exact absurd (nI_le (a := k) (b := j) (by omega) (by omega)) c27 -- stop
          | succ d ih =>
            intro j hj hok
            have hb := byB_lt (x := x) (k := j)
            have bad : ¬ okB x j = true → putN n x (nI k) = none := fun z => by rw [ep, if_neg (fun q => z (List.all_eq_true.mp q.2.2 j (List.mem_range.mpr (by omega))))]
            refine k_iload_n C dX4_put_25 rfl ?_
            refine k_iload_n C dX4_put_26 rfl ?_
            refine j_icmp_ge C 59 dX4_put_27 (by decide) (fun c27 => ?_) (fun c27 => ?_)
            · exact absurd c27 (nI_ge (a := j) (b := k) (by omega) (by omega)) -- stop
            · refine k_iload_n C dX4_put_30 rfl ?_
              refine k_iload_n C dX4_put_31 rfl ?_
              refine k_callS (As := [.int x, .int (nI j)]) C mX4_66 (m_byteOf hw x (k := j) (by omega)) rfl rfl (Nat.le_of_ble_eq_true rfl) (jroom hR (by first | decide | omega) (by decide)) dX4_put_32 ?_
              rintro v9 h9 ⟨rfl, e9⟩
              obtain rfl := e9.symm
              refine k_istore C dX4_put_35 (by rw [hnL]; decide) ?_
              refine k_iload C dX4_put_37 rfl ?_
              refine j_bipush (v := 32) C dX4_put_39 (by decide) ?_
              refine j_icmp_lt C 51 dX4_put_41 (by decide) (fun c41 => ?_) (fun c41 => ?_)
              · rw [show (32 : Int32) = nI 32 from rfl, nI_ltI (by omega) (by omega)] at c41
                refine j_iconst (v := 0) C dX4_put_51 (by decide) ?_
                exact j_zret C hrt (rfl) hE dX4_put_52 (no (bad (by simp only [okB, Bool.and_eq_true, decide_eq_true_eq]; omega)) rfl)
              · rw [show (32 : Int32) = nI 32 from rfl, nI_ltI (by omega) (by omega)] at c41
                refine k_iload C dX4_put_44 rfl ?_
                refine j_bipush (v := 126) C dX4_put_46 (by decide) ?_
                refine j_icmp_le C 53 dX4_put_48 (by decide) (fun c48 => ?_) (fun c48 => ?_)
                · rw [show (126 : Int32) = nI 126 from rfl, nI_leI (by omega) (by omega)] at c48
                  refine k_iinc C dX4_put_53 rfl rfl (by rw [hnL]; decide) ?_
                  refine j_goto C 25 dX4_put_56 (by decide) ?_
                  rw [show nI j + Int32.ofInt 1 = nI (j + 1) from nI_1 j]
                  refine j_mono (lv' := [(0, .ref (jad w 0)), (1, .int x), (2, .int (nI k)), (3, .int (nI (j + 1)))]) (fun q hq => show q ∈ [(0, Value.ref (jad w 0)), (1, Value.int x), (2, Value.int (nI k)), (3, Value.int (nI (j + 1))), (4, Value.int (nI (byB x j)))] from List.mem_append_left [(4, Value.int (nI (byB x j)))] hq) ?_
                  exact ih (j + 1) (by omega) (fun i hi => by by_cases z : i = j; (subst z; simp only [okB, Bool.and_eq_true, decide_eq_true_eq]; omega); exact hok i (by omega))
                · rw [show (126 : Int32) = nI 126 from rfl, nI_leI (by omega) (by omega)] at c48
                  refine j_iconst (v := 0) C dX4_put_51 (by decide) ?_
                  exact j_zret C hrt (rfl) hE dX4_put_52 (no (bad (by simp only [okB, Bool.and_eq_true, decide_eq_true_eq]; omega)) rfl)
        refine k_iload_n C dX4_put_0 rfl ?_
        refine j_iconst (v := 1) C dX4_put_1 (by decide) ?_
        refine j_icmp_lt C 21 dX4_put_2 (by decide) (fun c2 => ?_) (fun c2 => ?_)
        · exact absurd c2 (nI_nlt (a := k) (b := 1) (by omega) (by omega)) -- stop
        · refine k_iload_n C dX4_put_5 rfl ?_
          refine j_iconst (v := 4) C dX4_put_6 (by decide) ?_
          refine j_icmp_gt C 21 dX4_put_7 (by decide) (fun c7 => ?_) (fun c7 => ?_)
          · exact absurd c7 (nI_nlt (a := 4) (b := k) (by omega) (by omega)) -- stop
          · refine k_aload_n C dX4_put_10 rfl ?_
            refine j_geti C fX4_63 rfl (by first | decide | omega) (by first | assumption | rfl) dX4_put_11 ?_
            refine k_iload_n C dX4_put_14 rfl ?_
            refine j_iadd C dX4_put_15 ?_
            refine j_bipush (v := 120) C dX4_put_16 (by decide) ?_
            refine j_icmp_le C 23 dX4_put_18 (by decide) (fun c18 => ?_) (fun c18 => ?_)
            · refine j_iconst (v := 0) C dX4_put_23 (by decide) ?_
              refine k_istore_n C dX4_put_24 (by rw [hnL]; decide) ?_
              exact chk k 0 (by omega) (fun i hi => absurd hi (Nat.not_lt_zero _))
            · exact absurd (by rw [hT1, nI_add]; exact nI_le (a := n + k) (b := 120) (by omega) (by omega)) c18 -- stop
      · have e9 : putN n x (nI k) = none := by rw [ep, if_neg (fun q => k2 q.2.1)]
        refine k_iload_n C dX4_put_0 rfl ?_
        refine j_iconst (v := 1) C dX4_put_1 (by decide) ?_
        refine j_icmp_lt C 21 dX4_put_2 (by decide) (fun c2 => ?_) (fun c2 => ?_)
        · exact absurd c2 (nI_nlt (a := k) (b := 1) (by omega) (by omega)) -- stop
        · refine k_iload_n C dX4_put_5 rfl ?_
          refine j_iconst (v := 4) C dX4_put_6 (by decide) ?_
          refine j_icmp_gt C 21 dX4_put_7 (by decide) (fun c7 => ?_) (fun c7 => ?_)
          · exact absurd c7 (nI_nlt (a := 4) (b := k) (by omega) (by omega)) -- stop
          · refine k_aload_n C dX4_put_10 rfl ?_
            refine j_geti C fX4_63 rfl (by first | decide | omega) (by first | assumption | rfl) dX4_put_11 ?_
            refine k_iload_n C dX4_put_14 rfl ?_
            refine j_iadd C dX4_put_15 ?_
            refine j_bipush (v := 120) C dX4_put_16 (by decide) ?_
            refine j_icmp_le C 23 dX4_put_18 (by decide) (fun c18 => ?_) (fun c18 => ?_)
            · exact absurd c18 (by rw [hT1, nI_add]; exact nI_ge (a := 120) (b := n + k) (by omega) (by omega)) -- stop
            · refine j_iconst (v := 0) C dX4_put_21 (by decide) ?_
              exact j_zret C hrt (rfl) hE dX4_put_22 (no e9 rfl)
    · have e9 : putN n x (nI k) = none := by rw [ep, if_neg (fun q => k1 q.1)]
      refine k_iload_n C dX4_put_0 rfl ?_
      refine j_iconst (v := 1) C dX4_put_1 (by decide) ?_
      refine j_icmp_lt C 21 dX4_put_2 (by decide) (fun c2 => ?_) (fun c2 => ?_)
      · refine j_iconst (v := 0) C dX4_put_21 (by decide) ?_
        exact j_zret C hrt (rfl) hE dX4_put_22 (no e9 rfl)
      · exact absurd (nI_lt (a := k) (b := 1) (by omega) (by omega)) c2 -- stop
end K3
