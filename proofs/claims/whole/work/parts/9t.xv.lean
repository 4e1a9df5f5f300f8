/-! THE REFERENCE'S MACHINE -/
def psH (h : jH) (n : Nat) (v : Int32) : jH := (up2 (up2 h.1 92 n v) 70 38 (nI (n + 1)), h.2)
def ppH (h : jH) (n : Nat) : jH := (up2 h.1 70 38 (nI n), h.2)
section XV
variable {l : Launch} {w : jW} {h h' g : jH} {n m i s : Nat} {PG : Nat → PU} {pr : Nat → Bool} {x y v : Int32}
theorem r_push (hw : jok w) (hr : h.2.1 70 = rMap) (h38 : h.1 70 38 = nI n) (hn : n < 1600) (v : Int32) : jM l w yX5_push cX5_push 2 none 0 [.ref (jad w 70), .int v] h (fun r h' => r = none ∧ h' = psH h n v) := by
  refine jM_of (by decide) hw (Nat.le_of_ble_eq_true rfl) ?_
  intro X C hl hR hnL hrt hE
  have C : jC X w cX5_push RX5 := C
  show J X w h 0 [(0, .ref (jad w 70)), (1, .int v)] []
  have e38 : up2 h.1 92 n v 70 38 = nI n := by rw [up2_n (by omega)]; exact h38
  refine k_aload_n C dX5_push_0 rfl ?_
  refine j_getr C fX5_82 rfl (by first | decide | omega) (by first | assumption | rfl) (congrFun hr _) dX5_push_1 ?_
  refine k_aload_n C dX5_push_4 rfl ?_
  refine j_geti C fX5_266 rfl (by first | decide | omega) (by first | assumption | rfl) dX5_push_5 ?_
  refine k_iload_n C dX5_push_8 rfl ?_
  refine j_iast C (by first | decide | omega) (by first | assumption | rfl) (h38) (hn) (by decide) dX5_push_9 ?_
  refine k_aload_n C dX5_push_10 rfl ?_
  refine j_dup C dX5_push_11 rfl ?_
  refine j_geti C fX5_266 rfl (by first | decide | omega) (by first | assumption | rfl) dX5_push_12 ?_
  refine j_iconst (v := 1) C dX5_push_15 (by decide) ?_
  refine j_iadd C dX5_push_16 ?_
  refine jeq (congrArg (fun z => [Value.int z, Value.ref (jad w 70)]) (show up2 h.1 92 n v 70 38 + 1 = nI (n + 1) from by rw [e38, nI_1])) ?_
  refine j_puti C fX5_266 rfl rfl (by first | decide | omega) (by first | assumption | rfl) dX5_push_17 ?_
  exact j_vret C hrt hE dX5_push_20 (⟨rfl, rfl⟩)
theorem r_pop (hw : jok w) (hr : h.2.1 70 = rMap) (h38 : h.1 70 38 = nI (n + 1)) (hn : n < 1600) : jM l w yX5_pop cX5_pop 1 (some .int) 0 [.ref (jad w 70)] h (fun r h' => r = some (.int (h.1 92 n)) ∧ h' = ppH h n) := by
  refine jM_of (by decide) hw (Nat.le_of_ble_eq_true rfl) ?_
  intro X C hl hR hnL hrt hE
  have C : jC X w cX5_pop RX5 := C
  show J X w h 0 [(0, .ref (jad w 70))] []
  have hr2 : (ppH h n).2.1 70 = rMap := hr
  have e38 : (ppH h n).1 70 38 = nI n := by unfold ppH; dsimp only; rw [up2_s]
  have e92 : (ppH h n).1 92 n = h.1 92 n := by unfold ppH; dsimp only; rw [up2_n (by omega)]
  refine k_aload_n C dX5_pop_0 rfl ?_
  refine j_dup C dX5_pop_1 rfl ?_
  refine j_geti C fX5_266 rfl (by first | decide | omega) (by first | assumption | rfl) dX5_pop_2 ?_
  refine j_iconst (v := 1) C dX5_pop_5 (by decide) ?_
  refine j_isub C dX5_pop_6 ?_
  rw [h38, nI_pred]
  refine j_puti C fX5_266 rfl rfl (by first | decide | omega) (by first | assumption | rfl) dX5_pop_7 ?_
  refine jeqh (show _ = ppH h n from rfl) ?_
  refine k_aload_n C dX5_pop_10 rfl ?_
  refine j_getr C fX5_82 rfl (by first | decide | omega) (by first | assumption | rfl) (congrFun hr2 _) dX5_pop_11 ?_
  refine k_aload_n C dX5_pop_14 rfl ?_
  refine j_geti C fX5_266 rfl (by first | decide | omega) (by first | assumption | rfl) dX5_pop_15 ?_
  refine j_iald C (by first | decide | omega) (by first | assumption | rfl) (e38) (hn) (by decide) dX5_pop_18 ?_
  rw [e92]
  exact j_iret C hrt hE dX5_pop_19 (⟨rfl, rfl⟩)
theorem psH_o {k j : Nat} (h1 : ¬ (k = 92 ∧ j = n)) (h2 : ¬ (k = 70 ∧ j = 38)) : (psH h n v).1 k j = h.1 k j := by unfold psH; dsimp only; rw [up2_n (by omega), up2_n (by omega)]
theorem psH_38 : (psH h n v).1 70 38 = nI (n + 1) := by unfold psH; dsimp only; rw [up2_s]
theorem psH_92 : (psH h n v).1 92 n = v := by unfold psH; dsimp only; rw [up2_n (by omega), up2_s]
theorem ppH_o {k j : Nat} (h2 : ¬ (k = 70 ∧ j = 38)) : (ppH h n).1 k j = h.1 k j := by unfold ppH; dsimp only; rw [up2_n (by omega)]
theorem ppH_38 : (ppH h n).1 70 38 = nI n := by unfold ppH; dsimp only; rw [up2_s]
/-- the worker, by its sign -/
def wkH (h : jH) (n k : Nat) (y : Int32) (b o : Nat) : jH := match k with
  | 0 => psH h n y
  | 1 => psH h n (h.1 92 (b + o))
  | 2 => psH (psH h n (h.1 92 (b + o))) (n + 1) (h.1 92 (b + o + 1))
  | 3 => psH (ppH (ppH h (n - 1)) (n - 2)) (n - 2) (h.1 92 (n - 2) + h.1 92 (n - 1))
  | 4 => psH (ppH (ppH h (n - 1)) (n - 2)) (n - 2) (h.1 92 (n - 2) - h.1 92 (n - 1))
  | 5 => psH (ppH (ppH h (n - 1)) (n - 2)) (n - 2) (h.1 92 (n - 2) * h.1 92 (n - 1))
  | 6 => ppH h (n - 1)
  | _ => ppH (up2 h.1 92 (n - 2) (h.1 92 (n - 1)), h.2) (n - 1)
theorem r_work (hw : jok w) (hr : h.2.1 70 = rMap) (h38 : h.1 70 38 = nI n) (hn : n < 1000) {k b o : Nat} (hk : k ≤ 7) (hk2 : 3 ≤ k → 2 ≤ n) (hbo : k = 1 ∨ k = 2 → y = nI o ∧ b + o + 1 < 1000) (hb2 : k = 2 → b + o + 1 < n) : jM l w yX5_work cX5_work 5 none 1 [.ref (jad w 70), .int (nI k), .int y, .int (nI b)] h (fun r h' => r = none ∧ h' = wkH h n k y b o) := by
  refine jM_of (by decide) hw (Nat.le_of_ble_eq_true rfl) ?_
  intro X C hl hR hnL hrt hE
  subst hl
  have C : jC X w cX5_work RX5 := C
  have hk8 : k = 0 ∨ k = 1 ∨ k = 2 ∨ k = 3 ∨ k = 4 ∨ k = 5 ∨ k = 6 ∨ k = 7 := by omega
  have rp : ∀ {h : jH} {n : Nat} {v : Int32}, h.2.1 70 = rMap → (psH h n v).2.1 70 = rMap := fun z => z
  have rq : ∀ {h : jH} {n : Nat}, h.2.1 70 = rMap → (ppH h n).2.1 70 = rMap := fun z => z
  show J X w h 0 [(0, .ref (jad w 70)), (1, .int (nI k)), (2, .int y), (3, .int (nI b))] []
  rcases hk8 with rfl | rfl | rfl | rfl | rfl | rfl | rfl | rfl
  · have fin : J X w h 64 [(0, .ref (jad w 70)), (1, .int (nI 0)), (2, .int y), (3, .int (nI b)), (4, .int 0)] [] := by
      refine k_aload_n C dX5_work_64 rfl ?_
      refine k_iload_n C dX5_work_65 rfl ?_
      refine k_callV (k := 70) (ci := 5) (As := [.int y]) C mX5_284 (r_push hw hr h38 (by omega) y) jCl5.1 (by first | decide | omega) (by first | assumption | rfl) rfl rfl (Nat.le_of_ble_eq_true rfl) (jroom hR (by first | decide | omega) (by decide)) dX5_work_66 ?_
      rintro v9 h9 ⟨rfl, rfl⟩
      refine j_goto C 203 dX5_work_69 (by decide) ?_
      exact j_vret C hrt hE dX5_work_203 (⟨rfl, rfl⟩)
    refine k_iload_n C dX5_work_0 rfl ?_
    refine j_iconst (v := 3) C dX5_work_1 (by decide) ?_
    refine j_icmp_lt C 10 dX5_work_2 (by decide) (fun c2 => ?_) (fun c2 => ?_)
    · refine j_iconst (v := 0) C dX5_work_10 (by decide) ?_
      refine j_goto C 18 dX5_work_11 (by decide) ?_
      refine k_istore C dX5_work_18 (by rw [hnL]; decide) ?_
      refine k_iload_n C dX5_work_20 rfl ?_
      exact j_tableIn (off := 43) C 64 dX5_work_21 (by decide) (by decide) rfl (by decide) fin
    · exact absurd (show nI 0 < 3 by decide) c2 -- stop
  · obtain ⟨rfl, ho⟩ := hbo (Or.inl rfl)
    have ei : nI b + nI o = nI (b + o) := nI_add b o
    have fin : J X w h 72 [(0, .ref (jad w 70)), (1, .int (nI 1)), (2, .int (nI o)), (3, .int (nI b)), (4, .int 0)] [] := by
      refine k_aload_n C dX5_work_72 rfl ?_
      refine k_aload_n C dX5_work_73 rfl ?_
      refine j_getr C fX5_82 rfl (by first | decide | omega) (by first | assumption | rfl) (congrFun hr _) dX5_work_74 ?_
      refine k_iload_n C dX5_work_77 rfl ?_
      refine k_iload_n C dX5_work_78 rfl ?_
      refine j_iadd C dX5_work_79 ?_
      refine j_iald C (by first | decide | omega) (by first | assumption | rfl) (ei) ((by omega)) (by decide) dX5_work_80 ?_
      refine k_callV (k := 70) (ci := 5) (As := [.int (h.1 92 (b + o))]) C mX5_284 (r_push hw hr h38 (by omega) (h.1 92 (b + o))) jCl5.1 (by first | decide | omega) (by first | assumption | rfl) rfl rfl (Nat.le_of_ble_eq_true rfl) (jroom hR (by first | decide | omega) (by decide)) dX5_work_81 ?_
      rintro v9 h9 ⟨rfl, rfl⟩
      refine j_goto C 203 dX5_work_84 (by decide) ?_
      exact j_vret C hrt hE dX5_work_203 (⟨rfl, rfl⟩)
    refine k_iload_n C dX5_work_0 rfl ?_
    refine j_iconst (v := 3) C dX5_work_1 (by decide) ?_
    refine j_icmp_lt C 10 dX5_work_2 (by decide) (fun c2 => ?_) (fun c2 => ?_)
    · refine j_iconst (v := 0) C dX5_work_10 (by decide) ?_
      refine j_goto C 18 dX5_work_11 (by decide) ?_
      refine k_istore C dX5_work_18 (by rw [hnL]; decide) ?_
      refine k_iload_n C dX5_work_20 rfl ?_
      exact j_tableIn (off := 51) C 72 dX5_work_21 (by decide) (by decide) rfl (by decide) fin
    · exact absurd (show nI 1 < 3 by decide) c2 -- stop
  · obtain ⟨rfl, ho⟩ := hbo (Or.inr rfl)
    have hbn := hb2 rfl
    have ei : nI b + nI o = nI (b + o) := nI_add b o
    have ej : nI (b + o) + 1 = nI (b + o + 1) := nI_1 _
    have e92 : (psH h n (h.1 92 (b + o))).1 92 (b + o + 1) = h.1 92 (b + o + 1) := psH_o (by omega) (by omega)
    have fin : J X w h 87 [(0, .ref (jad w 70)), (1, .int (nI 2)), (2, .int (nI o)), (3, .int (nI b)), (4, .int 0)] [] := by
      refine k_aload_n C dX5_work_87 rfl ?_
      refine k_aload_n C dX5_work_88 rfl ?_
      refine j_getr C fX5_82 rfl (by first | decide | omega) (by first | assumption | rfl) (congrFun hr _) dX5_work_89 ?_
      refine k_iload_n C dX5_work_92 rfl ?_
      refine k_iload_n C dX5_work_93 rfl ?_
      refine j_iadd C dX5_work_94 ?_
      refine j_iald C (by first | decide | omega) (by first | assumption | rfl) (ei) ((by omega)) (by decide) dX5_work_95 ?_
      refine k_callV (k := 70) (ci := 5) (As := [.int (h.1 92 (b + o))]) C mX5_284 (r_push hw hr h38 (by omega) (h.1 92 (b + o))) jCl5.1 (by first | decide | omega) (by first | assumption | rfl) rfl rfl (Nat.le_of_ble_eq_true rfl) (jroom hR (by first | decide | omega) (by decide)) dX5_work_96 ?_
      rintro v9 h9 ⟨rfl, rfl⟩
      refine k_aload_n C dX5_work_99 rfl ?_
      refine k_aload_n C dX5_work_100 rfl ?_
      refine j_getr C fX5_82 rfl (by first | decide | omega) (by first | assumption | rfl) (congrFun (rp hr) _) dX5_work_101 ?_
      refine k_iload_n C dX5_work_104 rfl ?_
      refine k_iload_n C dX5_work_105 rfl ?_
      refine j_iadd C dX5_work_106 ?_
      rw [ei]
      refine j_iconst (v := 1) C dX5_work_107 (by decide) ?_
      refine j_iadd C dX5_work_108 ?_
      refine j_iald C (by first | decide | omega) (by first | assumption | rfl) (ej) ((by omega)) (by decide) dX5_work_109 ?_
      rw [e92]
      refine k_callV (k := 70) (ci := 5) (As := [.int (h.1 92 (b + o + 1))]) C mX5_284 (r_push hw (rp hr) psH_38 (by omega) (h.1 92 (b + o + 1))) jCl5.1 (by first | decide | omega) (by first | assumption | rfl) rfl rfl (Nat.le_of_ble_eq_true rfl) (jroom hR (by first | decide | omega) (by decide)) dX5_work_110 ?_
      rintro v9 h9 ⟨rfl, rfl⟩
      refine j_goto C 203 dX5_work_113 (by decide) ?_
      exact j_vret C hrt hE dX5_work_203 (⟨rfl, rfl⟩)
    refine k_iload_n C dX5_work_0 rfl ?_
    refine j_iconst (v := 3) C dX5_work_1 (by decide) ?_
    refine j_icmp_lt C 10 dX5_work_2 (by decide) (fun c2 => ?_) (fun c2 => ?_)
    · refine j_iconst (v := 0) C dX5_work_10 (by decide) ?_
      refine j_goto C 18 dX5_work_11 (by decide) ?_
      refine k_istore C dX5_work_18 (by rw [hnL]; decide) ?_
      refine k_iload_n C dX5_work_20 rfl ?_
      exact j_tableIn (off := 66) C 87 dX5_work_21 (by decide) (by decide) rfl (by decide) fin
    · exact absurd (show nI 2 < 3 by decide) c2 -- stop
  · obtain ⟨n', rfl⟩ : ∃ n', n = n' + 2 := ⟨n - 2, by have := hk2 (by omega); omega⟩
    have e1 : (ppH h (n' + 1)).1 92 n' = h.1 92 n' := ppH_o (by omega)
    have fin : J X w (ppH h (n' + 1)) 116 [(0, .ref (jad w 70)), (1, .int (nI 3)), (2, .int y), (3, .int (nI b)), (4, .int (h.1 92 (n' + 1)))] [] := by
      refine k_aload_n C dX5_work_116 rfl ?_
      refine k_aload_n C dX5_work_117 rfl ?_
      refine k_callV (k := 70) (ci := 5) (As := []) C mX5_281 (r_pop hw (rq hr) ppH_38 (by omega)) jCl5.1 (by first | decide | omega) (by first | assumption | rfl) rfl rfl (Nat.le_of_ble_eq_true rfl) (jroom hR (by first | decide | omega) (by decide)) dX5_work_118 ?_
      rintro v9 h9 ⟨rfl, rfl⟩
      rw [e1]
      refine k_iload C dX5_work_121 rfl ?_
      refine j_iadd C dX5_work_123 ?_
      refine k_callV (k := 70) (ci := 5) (As := [.int (h.1 92 n' + h.1 92 (n' + 1))]) C mX5_284 (r_push hw (rq (rq hr)) ppH_38 (by omega) (h.1 92 n' + h.1 92 (n' + 1))) jCl5.1 (by first | decide | omega) (by first | assumption | rfl) rfl rfl (Nat.le_of_ble_eq_true rfl) (jroom hR (by first | decide | omega) (by decide)) dX5_work_124 ?_
      rintro v9 h9 ⟨rfl, rfl⟩
      refine j_goto C 203 dX5_work_127 (by decide) ?_
      exact j_vret C hrt hE dX5_work_203 (⟨rfl, rfl⟩)
    refine k_iload_n C dX5_work_0 rfl ?_
    refine j_iconst (v := 3) C dX5_work_1 (by decide) ?_
    refine j_icmp_lt C 10 dX5_work_2 (by decide) (fun c2 => ?_) (fun c2 => ?_)
    · exact absurd c2 (by decide) -- stop
    · refine k_iload_n C dX5_work_5 rfl ?_
      refine j_iconst (v := 5) C dX5_work_6 (by decide) ?_
      refine j_icmp_le C 14 dX5_work_7 (by decide) (fun c7 => ?_) (fun c7 => ?_)
      · refine k_aload_n C dX5_work_14 rfl ?_
        refine k_callV (k := 70) (ci := 5) (As := []) C mX5_281 (r_pop hw hr h38 (by omega)) jCl5.1 (by first | decide | omega) (by first | assumption | rfl) rfl rfl (Nat.le_of_ble_eq_true rfl) (jroom hR (by first | decide | omega) (by decide)) dX5_work_15 ?_
        rintro v9 h9 ⟨rfl, rfl⟩
        refine k_istore C dX5_work_18 (by rw [hnL]; decide) ?_
        refine k_iload_n C dX5_work_20 rfl ?_
        exact j_tableIn (off := 95) C 116 dX5_work_21 (by decide) (by decide) rfl (by decide) fin
      · exact absurd (show nI 3 ≤ 5 by decide) c7 -- stop
  · obtain ⟨n', rfl⟩ : ∃ n', n = n' + 2 := ⟨n - 2, by have := hk2 (by omega); omega⟩
    have e1 : (ppH h (n' + 1)).1 92 n' = h.1 92 n' := ppH_o (by omega)
    have fin : J X w (ppH h (n' + 1)) 130 [(0, .ref (jad w 70)), (1, .int (nI 4)), (2, .int y), (3, .int (nI b)), (4, .int (h.1 92 (n' + 1)))] [] := by
      refine k_aload_n C dX5_work_130 rfl ?_
      refine k_aload_n C dX5_work_131 rfl ?_
      refine k_callV (k := 70) (ci := 5) (As := []) C mX5_281 (r_pop hw (rq hr) ppH_38 (by omega)) jCl5.1 (by first | decide | omega) (by first | assumption | rfl) rfl rfl (Nat.le_of_ble_eq_true rfl) (jroom hR (by first | decide | omega) (by decide)) dX5_work_132 ?_
      rintro v9 h9 ⟨rfl, rfl⟩
      rw [e1]
      refine k_iload C dX5_work_135 rfl ?_
      refine j_isub C dX5_work_137 ?_
      refine k_callV (k := 70) (ci := 5) (As := [.int (h.1 92 n' - h.1 92 (n' + 1))]) C mX5_284 (r_push hw (rq (rq hr)) ppH_38 (by omega) (h.1 92 n' - h.1 92 (n' + 1))) jCl5.1 (by first | decide | omega) (by first | assumption | rfl) rfl rfl (Nat.le_of_ble_eq_true rfl) (jroom hR (by first | decide | omega) (by decide)) dX5_work_138 ?_
      rintro v9 h9 ⟨rfl, rfl⟩
      refine j_goto C 203 dX5_work_141 (by decide) ?_
      exact j_vret C hrt hE dX5_work_203 (⟨rfl, rfl⟩)
    refine k_iload_n C dX5_work_0 rfl ?_
    refine j_iconst (v := 3) C dX5_work_1 (by decide) ?_
    refine j_icmp_lt C 10 dX5_work_2 (by decide) (fun c2 => ?_) (fun c2 => ?_)
    · exact absurd c2 (by decide) -- stop
    · refine k_iload_n C dX5_work_5 rfl ?_
      refine j_iconst (v := 5) C dX5_work_6 (by decide) ?_
      refine j_icmp_le C 14 dX5_work_7 (by decide) (fun c7 => ?_) (fun c7 => ?_)
      · refine k_aload_n C dX5_work_14 rfl ?_
        refine k_callV (k := 70) (ci := 5) (As := []) C mX5_281 (r_pop hw hr h38 (by omega)) jCl5.1 (by first | decide | omega) (by first | assumption | rfl) rfl rfl (Nat.le_of_ble_eq_true rfl) (jroom hR (by first | decide | omega) (by decide)) dX5_work_15 ?_
        rintro v9 h9 ⟨rfl, rfl⟩
        refine k_istore C dX5_work_18 (by rw [hnL]; decide) ?_
        refine k_iload_n C dX5_work_20 rfl ?_
        exact j_tableIn (off := 109) C 130 dX5_work_21 (by decide) (by decide) rfl (by decide) fin
      · exact absurd (show nI 4 ≤ 5 by decide) c7 -- stop
  · obtain ⟨n', rfl⟩ : ∃ n', n = n' + 2 := ⟨n - 2, by have := hk2 (by omega); omega⟩
    have e1 : (ppH h (n' + 1)).1 92 n' = h.1 92 n' := ppH_o (by omega)
    have fin : J X w (ppH h (n' + 1)) 144 [(0, .ref (jad w 70)), (1, .int (nI 5)), (2, .int y), (3, .int (nI b)), (4, .int (h.1 92 (n' + 1)))] [] := by
      refine k_aload_n C dX5_work_144 rfl ?_
      refine k_aload_n C dX5_work_145 rfl ?_
      refine k_callV (k := 70) (ci := 5) (As := []) C mX5_281 (r_pop hw (rq hr) ppH_38 (by omega)) jCl5.1 (by first | decide | omega) (by first | assumption | rfl) rfl rfl (Nat.le_of_ble_eq_true rfl) (jroom hR (by first | decide | omega) (by decide)) dX5_work_146 ?_
      rintro v9 h9 ⟨rfl, rfl⟩
      rw [e1]
      refine k_iload C dX5_work_149 rfl ?_
      refine j_imul C dX5_work_151 ?_
      refine k_callV (k := 70) (ci := 5) (As := [.int (h.1 92 n' * h.1 92 (n' + 1))]) C mX5_284 (r_push hw (rq (rq hr)) ppH_38 (by omega) (h.1 92 n' * h.1 92 (n' + 1))) jCl5.1 (by first | decide | omega) (by first | assumption | rfl) rfl rfl (Nat.le_of_ble_eq_true rfl) (jroom hR (by first | decide | omega) (by decide)) dX5_work_152 ?_
      rintro v9 h9 ⟨rfl, rfl⟩
      refine j_goto C 203 dX5_work_155 (by decide) ?_
      exact j_vret C hrt hE dX5_work_203 (⟨rfl, rfl⟩)
    refine k_iload_n C dX5_work_0 rfl ?_
    refine j_iconst (v := 3) C dX5_work_1 (by decide) ?_
    refine j_icmp_lt C 10 dX5_work_2 (by decide) (fun c2 => ?_) (fun c2 => ?_)
    · exact absurd c2 (by decide) -- stop
    · refine k_iload_n C dX5_work_5 rfl ?_
      refine j_iconst (v := 5) C dX5_work_6 (by decide) ?_
      refine j_icmp_le C 14 dX5_work_7 (by decide) (fun c7 => ?_) (fun c7 => ?_)
      · refine k_aload_n C dX5_work_14 rfl ?_
        refine k_callV (k := 70) (ci := 5) (As := []) C mX5_281 (r_pop hw hr h38 (by omega)) jCl5.1 (by first | decide | omega) (by first | assumption | rfl) rfl rfl (Nat.le_of_ble_eq_true rfl) (jroom hR (by first | decide | omega) (by decide)) dX5_work_15 ?_
        rintro v9 h9 ⟨rfl, rfl⟩
        refine k_istore C dX5_work_18 (by rw [hnL]; decide) ?_
        refine k_iload_n C dX5_work_20 rfl ?_
        exact j_tableIn (off := 123) C 144 dX5_work_21 (by decide) (by decide) rfl (by decide) fin
      · exact absurd (show nI 5 ≤ 5 by decide) c7 -- stop
  · obtain ⟨n', rfl⟩ : ∃ n', n = n' + 2 := ⟨n - 2, by have := hk2 (by omega); omega⟩
    have fin : J X w h 158 [(0, .ref (jad w 70)), (1, .int (nI 6)), (2, .int y), (3, .int (nI b)), (4, .int 0)] [] := by
      refine k_aload_n C dX5_work_158 rfl ?_
      refine j_dup C dX5_work_159 rfl ?_
      refine j_geti C fX5_266 rfl (by first | decide | omega) (by first | assumption | rfl) dX5_work_160 ?_
      refine j_iconst (v := 1) C dX5_work_163 (by decide) ?_
      refine j_isub C dX5_work_164 ?_
      rw [h38, nI_pred]
      refine j_puti C fX5_266 rfl rfl (by first | decide | omega) (by first | assumption | rfl) dX5_work_165 ?_
      refine j_goto C 203 dX5_work_168 (by decide) ?_
      exact j_vret C hrt hE dX5_work_203 (⟨rfl, rfl⟩)
    refine k_iload_n C dX5_work_0 rfl ?_
    refine j_iconst (v := 3) C dX5_work_1 (by decide) ?_
    refine j_icmp_lt C 10 dX5_work_2 (by decide) (fun c2 => ?_) (fun c2 => ?_)
    · exact absurd c2 (by decide) -- stop
    · refine k_iload_n C dX5_work_5 rfl ?_
      refine j_iconst (v := 5) C dX5_work_6 (by decide) ?_
      refine j_icmp_le C 14 dX5_work_7 (by decide) (fun c7 => ?_) (fun c7 => ?_)
      · exact absurd c7 (by decide) -- stop
      · refine j_iconst (v := 0) C dX5_work_10 (by decide) ?_
        refine j_goto C 18 dX5_work_11 (by decide) ?_
        refine k_istore C dX5_work_18 (by rw [hnL]; decide) ?_
        refine k_iload_n C dX5_work_20 rfl ?_
        exact j_tableIn (off := 137) C 158 dX5_work_21 (by decide) (by decide) rfl (by decide) fin
  · obtain ⟨n', rfl⟩ : ∃ n', n = n' + 2 := ⟨n - 2, by have := hk2 (by omega); omega⟩
    have e2 : h.1 70 38 - 2 = nI n' := by rw [h38, show (2 : Int32) = nI 2 from rfl, pk_sub (by omega)]; rfl
    have e1 : h.1 70 38 - 1 = nI (n' + 1) := by rw [h38]; exact nI_pred _
    have e3 : up2 h.1 92 n' (h.1 92 (n' + 1)) 70 38 - 1 = nI (n' + 1) := by rw [up2_n (by omega)]; exact e1
    have fin : J X w h 171 [(0, .ref (jad w 70)), (1, .int (nI 7)), (2, .int y), (3, .int (nI b)), (4, .int 0)] [] := by
      refine k_aload_n C dX5_work_171 rfl ?_
      refine j_getr C fX5_82 rfl (by first | decide | omega) (by first | assumption | rfl) (congrFun hr _) dX5_work_172 ?_
      refine k_aload_n C dX5_work_175 rfl ?_
      refine j_geti C fX5_266 rfl (by first | decide | omega) (by first | assumption | rfl) dX5_work_176 ?_
      refine j_iconst (v := 2) C dX5_work_179 (by decide) ?_
      refine j_isub C dX5_work_180 ?_
      refine k_aload_n C dX5_work_181 rfl ?_
      refine j_getr C fX5_82 rfl (by first | decide | omega) (by first | assumption | rfl) (congrFun hr _) dX5_work_182 ?_
      refine k_aload_n C dX5_work_185 rfl ?_
      refine j_geti C fX5_266 rfl (by first | decide | omega) (by first | assumption | rfl) dX5_work_186 ?_
      refine j_iconst (v := 1) C dX5_work_189 (by decide) ?_
      refine j_isub C dX5_work_190 ?_
      refine j_iald C (by first | decide | omega) (by first | assumption | rfl) (e1) ((by omega)) (by decide) dX5_work_191 ?_
      refine j_iast C (by first | decide | omega) (by first | assumption | rfl) (e2) ((by omega)) (by decide) dX5_work_192 ?_
      refine k_aload_n C dX5_work_193 rfl ?_
      refine j_dup C dX5_work_194 rfl ?_
      refine j_geti C fX5_266 rfl (by first | decide | omega) (by first | assumption | rfl) dX5_work_195 ?_
      refine j_iconst (v := 1) C dX5_work_198 (by decide) ?_
      refine j_isub C dX5_work_199 ?_
      refine jeq (congrArg (fun z => [Value.int z, Value.ref (jad w 70)]) e3) ?_
      refine j_puti C fX5_266 rfl rfl (by first | decide | omega) (by first | assumption | rfl) dX5_work_200 ?_
      exact j_vret C hrt hE dX5_work_203 (⟨rfl, rfl⟩)
    refine k_iload_n C dX5_work_0 rfl ?_
    refine j_iconst (v := 3) C dX5_work_1 (by decide) ?_
    refine j_icmp_lt C 10 dX5_work_2 (by decide) (fun c2 => ?_) (fun c2 => ?_)
    · exact absurd c2 (by decide) -- stop
    · refine k_iload_n C dX5_work_5 rfl ?_
      refine j_iconst (v := 5) C dX5_work_6 (by decide) ?_
      refine j_icmp_le C 14 dX5_work_7 (by decide) (fun c7 => ?_) (fun c7 => ?_)
      · exact absurd c7 (by decide) -- stop
      · refine j_iconst (v := 0) C dX5_work_10 (by decide) ?_
        refine j_goto C 18 dX5_work_11 (by decide) ?_
        refine k_istore C dX5_work_18 (by rw [hnL]; decide) ?_
        refine k_iload_n C dX5_work_20 rfl ?_
        exact j_tableOut C 171 dX5_work_21 (by decide) (by decide) fin
end XV
