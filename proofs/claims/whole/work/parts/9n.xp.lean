section XP
variable {l : Launch} {w : jW} {h g g' : jH} {t : Nat → Nat} {n a : Nat} {gd ty : Bool} {x s : Nat}
theorem ta_step {k y : Nat} (hk : 1 ≤ k) (hk3 : k ≤ 3) (hs : s < 4 ^ k) (hy : y < 4) : ta (s + y * 4 ^ k) k = y ∧ ∀ j, j < k → ta (s + y * 4 ^ k) j = ta s j := by
  have hk' : k = 1 ∨ k = 2 ∨ k = 3 := by omega
  rcases hk' with rfl | rfl | rfl
  · refine ⟨by simp [ta] <;> omega, fun j hj => ?_⟩
    have : j = 0 := by omega
    subst this
    simp [ta] <;> omega
  · refine ⟨by simp [ta] <;> omega, fun j hj => ?_⟩
    have : j = 0 ∨ j = 1 := by omega
    rcases this with rfl | rfl <;> simp [ta] <;> omega
  · refine ⟨by simp [ta] <;> omega, fun j hj => ?_⟩
    have : j = 0 ∨ j = 1 ∨ j = 2 := by omega
    rcases this with rfl | rfl | rfl <;> simp [ta] <;> omega
theorem ta_low {y : Nat} (h4 : s % 4 = 0) (hy : y < 4) : ta (s + y) 0 = y ∧ ∀ j, 1 ≤ j → ta (s + y) j = ta s j := by
  refine ⟨by simp [ta] <;> omega, fun j hj => ?_⟩
  unfold ta
  split
  · rfl
  · have : j = 1 ∨ j = 2 ∨ j = 3 := by omega
    rcases this with rfl | rfl | rfl <;> simp <;> omega
theorem nTk_eq {k : Nat} (hk : k ≤ 3) (h1 : ∀ j, j < k → ta s (j + 1) ≠ 0) (h2 : ta s (k + 1) = 0) : nTk s = k := by
  unfold nTk
  have hk' : k = 0 ∨ k = 1 ∨ k = 2 ∨ k = 3 := by omega
  rcases hk' with rfl | rfl | rfl | rfl
  · rw [if_pos h2]
  · rw [if_neg (h1 0 (by omega)), if_pos h2]
  · rw [if_neg (h1 0 (by omega)), if_neg (h1 1 (by omega)), if_pos h2]
  · rw [if_neg (h1 0 (by omega)), if_neg (h1 1 (by omega)), if_neg (h1 2 (by omega))]
def tyG (t : Nat → Nat) (n a : Nat) : Bool := pek t n a == 80 || pek t n a == 73
def tyA (t : Nat → Nat) (n a : Nat) : Nat := if pek t n a = 80 ∨ pek t n a = 73 then a + 1 else a
theorem r_readType (hw : jok w) (hr : g.2.1 70 = rMap) (ht : rtx g t n) (ha : a < 1000) : jM l w yX5_readType cX5_readType 2 (some .boolean) 3 [.ref (jad w 70)] (pv g a gd ty) (fun r h' => r = some (.int (bI (pek t n a == 80))) ∧ h' = pv g (tyA t n a) (gd && tyG t n a) ty) := by
  refine jM_of (by decide) hw (Nat.le_of_ble_eq_true rfl) ?_
  intro X C hl hR hnL hrt hE
  subst hl
  have C : jC X w cX5_readType RX5 := C
  show J X w (pv g a gd ty) 0 [(0, .ref (jad w 70))] []
  by_cases c80 : pek t n a = 80
  · have b80 : (pek t n a == 80) = true := by simp [c80]
    refine k_aload_n C dX5_readType_0 rfl ?_
    refine j_bipush (v := 80) C dX5_readType_1 (by decide) ?_
    refine k_callV (k := 70) (ci := 5) (As := [.int (nI 80)]) C mX5_127 (r_pass hw hr ht (by omega) (ch := 80) (by decide)) jCl5.1 (by first | decide | omega) (by first | assumption | rfl) rfl rfl (Nat.le_of_ble_eq_true rfl) (jroom hR (by first | decide | omega) (by decide)) dX5_readType_3 ?_
    rintro v9 h9 ⟨rfl, rfl⟩
    rw [b80, if_pos c80]
    refine k_istore_n C dX5_readType_6 (by rw [hnL]; decide) ?_
    refine k_iload_n C dX5_readType_7 rfl ?_
    refine j_if_ne C 17 dX5_readType_8 (by decide) (fun c8 => ?_) (fun c8 => ?_)
    · refine k_iload_n C dX5_readType_17 rfl ?_
      exact j_zret C hrt (rfl) hE dX5_readType_18 (⟨by rw [b80], by unfold tyA tyG; rw [if_pos (Or.inl c80), b80]; simp⟩)
    · exact absurd (by first | exact c8 | exact Classical.not_not.mp c8) (by decide) -- stop
  · have b80 : (pek t n a == 80) = false := by simp [c80]
    by_cases c73 : pek t n a = 73
    · have b73 : (pek t n a == 73) = true := by simp [c73]
      refine k_aload_n C dX5_readType_0 rfl ?_
      refine j_bipush (v := 80) C dX5_readType_1 (by decide) ?_
      refine k_callV (k := 70) (ci := 5) (As := [.int (nI 80)]) C mX5_127 (r_pass hw hr ht (by omega) (ch := 80) (by decide)) jCl5.1 (by first | decide | omega) (by first | assumption | rfl) rfl rfl (Nat.le_of_ble_eq_true rfl) (jroom hR (by first | decide | omega) (by decide)) dX5_readType_3 ?_
      rintro v9 h9 ⟨rfl, rfl⟩
      rw [b80, if_neg c80]
      refine k_istore_n C dX5_readType_6 (by rw [hnL]; decide) ?_
      refine k_iload_n C dX5_readType_7 rfl ?_
      refine j_if_ne C 17 dX5_readType_8 (by decide) (fun c8 => ?_) (fun c8 => ?_)
      · exact absurd rfl c8 -- stop
      · refine k_aload_n C dX5_readType_11 rfl ?_
        refine j_bipush (v := 73) C dX5_readType_12 (by decide) ?_
        refine k_callV (k := 70) (ci := 5) (As := [.int (nI 73)]) C mX5_175 (r_expect hw hr ht (by omega) (ch := 73) (by decide)) jCl5.1 (by first | decide | omega) (by first | assumption | rfl) rfl rfl (Nat.le_of_ble_eq_true rfl) (jroom hR (by first | decide | omega) (by decide)) dX5_readType_14 ?_
        rintro v9 h9 ⟨rfl, rfl⟩
        rw [b73, if_pos c73]
        refine k_iload_n C dX5_readType_17 rfl ?_
        exact j_zret C hrt (rfl) hE dX5_readType_18 (⟨by rw [b80], by unfold tyA tyG; rw [if_pos (Or.inr c73), b80, b73]; simp⟩)
    · have b73 : (pek t n a == 73) = false := by simp [c73]
      refine k_aload_n C dX5_readType_0 rfl ?_
      refine j_bipush (v := 80) C dX5_readType_1 (by decide) ?_
      refine k_callV (k := 70) (ci := 5) (As := [.int (nI 80)]) C mX5_127 (r_pass hw hr ht (by omega) (ch := 80) (by decide)) jCl5.1 (by first | decide | omega) (by first | assumption | rfl) rfl rfl (Nat.le_of_ble_eq_true rfl) (jroom hR (by first | decide | omega) (by decide)) dX5_readType_3 ?_
      rintro v9 h9 ⟨rfl, rfl⟩
      rw [b80, if_neg c80]
      refine k_istore_n C dX5_readType_6 (by rw [hnL]; decide) ?_
      refine k_iload_n C dX5_readType_7 rfl ?_
      refine j_if_ne C 17 dX5_readType_8 (by decide) (fun c8 => ?_) (fun c8 => ?_)
      · exact absurd rfl c8 -- stop
      · refine k_aload_n C dX5_readType_11 rfl ?_
        refine j_bipush (v := 73) C dX5_readType_12 (by decide) ?_
        refine k_callV (k := 70) (ci := 5) (As := [.int (nI 73)]) C mX5_175 (r_expect hw hr ht (by omega) (ch := 73) (by decide)) jCl5.1 (by first | decide | omega) (by first | assumption | rfl) rfl rfl (Nat.le_of_ble_eq_true rfl) (jroom hR (by first | decide | omega) (by decide)) dX5_readType_14 ?_
        rintro v9 h9 ⟨rfl, rfl⟩
        rw [b73, if_neg c73]
        refine k_iload_n C dX5_readType_17 rfl ?_
        exact j_zret C hrt (rfl) hE dX5_readType_18 (⟨by rw [b80], by unfold tyA tyG; rw [if_neg (fun z => by rcases z with z | z; exact c80 z; exact c73 z), b80, b73]; simp⟩)
/-- what reading a signature may change -/
def sF (x : Nat) (g g' : jH) : Prop := g'.2 = g.2 ∧ ∀ k j, ¬ ((k = 77 ∨ k = 79) ∧ j = x) → ¬ (k = 78 ∧ 3 * x ≤ j ∧ j < 3 * x + 3) → g'.1 k j = g.1 k j
theorem sF_up (F : sF x g g') {k j : Nat} {v : Int32} (hk : ((k = 77 ∨ k = 79) ∧ j = x) ∨ (k = 78 ∧ 3 * x ≤ j ∧ j < 3 * x + 3)) : sF x g (up2 g'.1 k j v, g'.2) := ⟨F.1, fun k' j' z1 z2 => by dsimp only; rw [up2_n (by omega)]; exact F.2 k' j' z1 z2⟩
theorem tyP_some {b : Nat} (hb : b ≤ n) : tyP t n (some b) = if tyG t n b then some (b + 1) else none := by
  unfold tyP tyG tk pkO
  simp only [Option.getD_some, Option.map_some]
  by_cases c80 : pek t n b = 80
  · simp [c80]
  · by_cases c73 : pek t n b = 73
    · simp [c73]
    · simp [c80, c73]
theorem sgL_s {f k s : Nat} {p : Option Nat} : sgL t n (f + 1) k s p = if pkO t n p = 41 then (s, p) else sgL t n f (k + 1) (s + tyV t n p * 4 ^ k) (tyP t n p) := rfl
/-- what readSignature does -/
def sgP (g : jH) (t : Nat → Nat) (n x a : Nat) (ty : Bool) (r : Option Value) (h' : jH) : Prop := r = none ∧ ∃ (g' : jH) (a' : Nat) (gd' : Bool), h' = pv g' a' gd' ty ∧ sF x g g' ∧ a' ≤ 200 ∧ match (sgF t n (some a)).2 with
  | none => gd' = false
  | some b => gd' = true ∧ a' = b ∧ rSg g' x (sgF t n (some a)).1
theorem r_readSignature (hw : jok w) (hr : g.2.1 70 = rMap) (ht : rtx g t n) (hn : n ≤ 120) (han : a ≤ n + 2) (hx : x < 42) : jM l w yX5_readSignature cX5_readSignature 2 none 4 [.ref (jad w 70), .int (nI x)] (pv g a true ty) (sgP g t n x a ty) := by
  refine jM_of (by decide) hw (Nat.le_of_ble_eq_true rfl) ?_
  intro X C hl hR hnL hrt hE
  subst hl
  have C : jC X w cX5_readSignature RX5 := C
  have rt : ∀ {g' : jH}, sF x g g' → g'.2.1 70 = rMap ∧ rtx g' t n := fun {g'} F => ⟨by rw [F.1]; exact hr, rtx_keep (F.2 70 3 (by omega) (by omega)) (fun j => F.2 71 j (by omega) (by omega)) ht⟩
  have ei : ∀ k : Nat, (3 : Int32) * nI x + nI k = nI (3 * x + k) := fun k => by rw [show (3 : Int32) = nI 3 from rfl, pk_mul, nI_add]
  -- the text is wrong
  have bad : ∀ (g' : jH) (b : Nat), sF x g g' → b ≤ 200 → (sgF t n (some a)).2 = none → J X w (pv g' b false ty) 87 [(0, .ref (jad w 70)), (1, .int (nI x))] [] := by
    intro g' b F hb hsg
    obtain ⟨hr', ht'⟩ := rt F
    refine k_aload_n C dX5_readSignature_87 rfl ?_
    refine j_getr C fX5_36 rfl (by first | decide | omega) (by first | assumption | rfl) (congrFun hr' _) dX5_readSignature_88 ?_
    refine k_iload_n C dX5_readSignature_91 rfl ?_
    refine k_aload_n C dX5_readSignature_92 rfl ?_
    refine j_geti C fX5_116 rfl (by first | decide | omega) (by first | assumption | rfl) dX5_readSignature_93 ?_
    refine j_if_eq C 110 dX5_readSignature_96 (by decide) (fun c96 => ?_) (fun c96 => ?_)
    · refine j_iconst (v := 0) C dX5_readSignature_110 (by decide) ?_
      refine j_zast C (by first | decide | omega) (by first | assumption | rfl) (rfl) (hx) (by decide) (by first | decide | assumption) dX5_readSignature_111 ?_
      refine jeqh (pv_put (by omega)) ?_
      exact j_vret C hrt hE dX5_readSignature_112 (⟨rfl, _, b, false, rfl, sF_up F (by omega), hb, by rw [hsg]⟩)
    · exact absurd pv_5 c96 -- stop
  have fin : ∀ (k b s : Nat) (g' : jH), k ≤ 3 → b < n → sF x g g' → g'.1 77 x = nI k → s < 4 ^ (k + 1) → s % 4 = 0 → (∀ j, j < k → g'.1 78 (3 * x + j) = bI (ta s (j + 1) == 2) ∧ (ta s (j + 1) = 1 ∨ ta s (j + 1) = 2)) → sgL t n 3 1 0 (tk t n 40 (some a)) = (s, some b) → pek t n b = 41 → J X w (pv g' (b + 1) true ty) 87 [(0, .ref (jad w 70)), (1, .int (nI x))] [] := by
    intro k b s g' hk hb F h77 hs hs4 hj he e41
    obtain ⟨hr', ht'⟩ := rt F
    have hp1 := pek_le ht (b + 1)
    have e2 : tk t n 41 (some b) = some (b + 1) := by unfold tk pkO; simp [e41]
    have esg : sgF t n (some a) = (s + tyV t n (some (b + 1)), tyP t n (some (b + 1))) := by unfold sgF; rw [he]; simp only; rw [e2]
    have etv : tyV t n (some (b + 1)) = if pek t n (b + 1) = 80 then 2 else 1 := rfl
    have hle : tyA t n (b + 1) ≤ 200 := by unfold tyA; split <;> omega
    have post : ∀ v : Bool, v = (pek t n (b + 1) == 80) → sgP g t n x a ty none (pv (up2 g'.1 79 x (bI v), g'.2) (tyA t n (b + 1)) (true && tyG t n (b + 1)) ty) := by
      intro v hv
      refine ⟨rfl, _, _, _, rfl, sF_up F (by omega), hle, ?_⟩
      rw [esg]
      simp only
      rw [tyP_some (by omega)]
      by_cases hG : tyG t n (b + 1) = true
      · rw [if_pos hG, hG]
        refine ⟨rfl, ?_, ?_⟩
        · unfold tyA
          unfold tyG at hG
          simp only [Bool.or_eq_true, beq_iff_eq] at hG
          rw [if_pos hG]
        · have hy4 : tyV t n (some (b + 1)) < 4 := by rw [etv]; split <;> omega
          obtain ⟨l0, l1⟩ := ta_low hs4 hy4
          have hz : ta s (k + 1) = 0 := ta_hi hs (Nat.le_refl _)
          have hnt : nTk (s + tyV t n (some (b + 1))) = k := nTk_eq hk (fun j hjk => by rw [l1 (j + 1) (by omega)]; have := (hj j hjk).2; omega) (by rw [l1 (k + 1) (by omega)]; exact hz)
          refine ⟨?_, fun q hq => ?_, ?_⟩
          · dsimp only; rw [up2_n (by omega), hnt]; exact h77
          · rw [hnt] at hq
            dsimp only
            rw [up2_n (by omega), (hj q hq).1, l1 (q + 1) (by omega)]
          · dsimp only
            rw [up2_s, l0, hv, etv]
            by_cases c80 : pek t n (b + 1) = 80
            · simp [c80]
            · rw [if_neg c80, show (pek t n (b + 1) == 80) = false from by simp [c80]]; rfl
      · rw [if_neg hG]
        simp only [Bool.true_and]
        simpa using hG
    by_cases c80 : pek t n (b + 1) = 80
    · have b80 : (pek t n (b + 1) == 80) = true := by simp [c80]
      refine k_aload_n C dX5_readSignature_87 rfl ?_
      refine j_getr C fX5_36 rfl (by first | decide | omega) (by first | assumption | rfl) (congrFun hr' _) dX5_readSignature_88 ?_
      refine k_iload_n C dX5_readSignature_91 rfl ?_
      refine k_aload_n C dX5_readSignature_92 rfl ?_
      refine j_geti C fX5_116 rfl (by first | decide | omega) (by first | assumption | rfl) dX5_readSignature_93 ?_
      refine j_if_eq C 110 dX5_readSignature_96 (by decide) (fun c96 => ?_) (fun c96 => ?_)
      · exact absurd ((show (pv g' (b + 1) true ty).1 70 5 = 1 from pv_5).symm.trans c96) (by decide) -- stop
      · refine k_aload_n C dX5_readSignature_99 rfl ?_
        refine k_callV (k := 70) (ci := 5) (As := []) C mX5_228 (r_readType hw hr' ht' (by omega)) jCl5.1 (by first | decide | omega) (by first | assumption | rfl) rfl rfl (Nat.le_of_ble_eq_true rfl) (jroom hR (by first | decide | omega) (by decide)) dX5_readSignature_100 ?_
        rintro v9 h9 ⟨rfl, rfl⟩
        rw [b80]
        refine j_if_eq C 110 dX5_readSignature_103 (by decide) (fun c103 => ?_) (fun c103 => ?_)
        · exact absurd c103 (by decide) -- stop
        · refine j_iconst (v := 1) C dX5_readSignature_106 (by decide) ?_
          refine j_goto C 111 dX5_readSignature_107 (by decide) ?_
          refine j_zast C (by first | decide | omega) (by first | assumption | rfl) (rfl) (hx) (by decide) (by first | decide | assumption) dX5_readSignature_111 ?_
          refine jeqh (pv_put (by omega)) ?_
          exact j_vret C hrt hE dX5_readSignature_112 (post true b80.symm)
    · have b80 : (pek t n (b + 1) == 80) = false := by simp [c80]
      refine k_aload_n C dX5_readSignature_87 rfl ?_
      refine j_getr C fX5_36 rfl (by first | decide | omega) (by first | assumption | rfl) (congrFun hr' _) dX5_readSignature_88 ?_
      refine k_iload_n C dX5_readSignature_91 rfl ?_
      refine k_aload_n C dX5_readSignature_92 rfl ?_
      refine j_geti C fX5_116 rfl (by first | decide | omega) (by first | assumption | rfl) dX5_readSignature_93 ?_
      refine j_if_eq C 110 dX5_readSignature_96 (by decide) (fun c96 => ?_) (fun c96 => ?_)
      · exact absurd ((show (pv g' (b + 1) true ty).1 70 5 = 1 from pv_5).symm.trans c96) (by decide) -- stop
      · refine k_aload_n C dX5_readSignature_99 rfl ?_
        refine k_callV (k := 70) (ci := 5) (As := []) C mX5_228 (r_readType hw hr' ht' (by omega)) jCl5.1 (by first | decide | omega) (by first | assumption | rfl) rfl rfl (Nat.le_of_ble_eq_true rfl) (jroom hR (by first | decide | omega) (by decide)) dX5_readSignature_100 ?_
        rintro v9 h9 ⟨rfl, rfl⟩
        rw [b80]
        refine j_if_eq C 110 dX5_readSignature_103 (by decide) (fun c103 => ?_) (fun c103 => ?_)
        · refine j_iconst (v := 0) C dX5_readSignature_110 (by decide) ?_
          refine j_zast C (by first | decide | omega) (by first | assumption | rfl) (rfl) (hx) (by decide) (by first | decide | assumption) dX5_readSignature_111 ?_
          refine jeqh (pv_put (by omega)) ?_
          exact j_vret C hrt hE dX5_readSignature_112 (post false b80.symm)
        · exact absurd rfl c103 -- stop
  have out : ∀ (g' : jH) (b : Nat), sF x g g' → b ≤ 200 → (sgF t n (some a)).2 = none → J X w (pv g' b false ty) 13 [(0, .ref (jad w 70)), (1, .int (nI x))] [] := by
    intro g' b F hb hsg
    refine k_aload_n C dX5_readSignature_13 rfl ?_
    refine j_geti C fX5_116 rfl (by first | decide | omega) (by first | assumption | rfl) dX5_readSignature_14 ?_
    refine j_if_eq C 87 dX5_readSignature_17 (by decide) (fun c17 => ?_) (fun c17 => ?_)
    · exact bad g' b F hb hsg
    · exact absurd pv_5 c17 -- stop
  have snone : ∀ {f k s : Nat}, sgL t n 3 1 0 (tk t n 40 (some a)) = sgL t n f k s none → (sgF t n (some a)).2 = none := by
    intro f k s he
    unfold sgF
    rw [he, sgL_none, tk_none, tyP_none]
  have loop : ∀ (f k b s : Nat) (g' : jH), k + f = 3 → b ≤ n → sF x g g' → g'.1 77 x = nI k → s < 4 ^ (k + 1) → s % 4 = 0 → (∀ j, j < k → g'.1 78 (3 * x + j) = bI (ta s (j + 1) == 2) ∧ (ta s (j + 1) = 1 ∨ ta s (j + 1) = 2)) → sgL t n 3 1 0 (tk t n 40 (some a)) = sgL t n f (k + 1) s (some b) → J X w (pv g' b true ty) 13 [(0, .ref (jad w 70)), (1, .int (nI x))] [] := by
    intro f
    induction f with
    | zero =>
      intro k b s g' hk hb F h77 hs hs4 hj he
      obtain ⟨hr', ht'⟩ := rt F
      have n0 : ¬ (pv g' b true ty).1 70 5 = 0 := by rw [pv_5]; decide
      by_cases e41 : pek t n b = 41
      · have b41 : (pek t n b == 41) = true := by simp [e41]
        refine k_aload_n C dX5_readSignature_13 rfl ?_
        refine j_geti C fX5_116 rfl (by first | decide | omega) (by first | assumption | rfl) dX5_readSignature_14 ?_
        refine j_if_eq C 87 dX5_readSignature_17 (by decide) (fun c17 => ?_) (fun c17 => ?_)
        · exact absurd c17 n0 -- stop
        · refine k_aload_n C dX5_readSignature_20 rfl ?_
          refine j_bipush (v := 41) C dX5_readSignature_21 (by decide) ?_
          refine k_callV (k := 70) (ci := 5) (As := [.int (nI 41)]) C mX5_127 (r_pass hw hr' ht' (by omega) (ch := 41) (by decide)) jCl5.1 (by first | decide | omega) (by first | assumption | rfl) rfl rfl (Nat.le_of_ble_eq_true rfl) (jroom hR (by first | decide | omega) (by decide)) dX5_readSignature_23 ?_
          rintro v9 h9 ⟨rfl, rfl⟩
          rw [b41, if_pos e41]
          refine j_if_ne C 87 dX5_readSignature_26 (by decide) (fun c26 => ?_) (fun c26 => ?_)
          · exact fin k b s g' (by omega) (pek_in e41 (by decide)) F h77 hs hs4 hj he e41
          · exact absurd (by first | exact c26 | exact Classical.not_not.mp c26) (by decide) -- stop
      · have b41 : (pek t n b == 41) = false := by simp [e41]
        have e77 : ∀ {gd : Bool}, (pv g' b gd ty).1 77 x = nI k := fun {gd} => by rw [pv_o (by omega)]; exact h77
        have hsg : (sgF t n (some a)).2 = none := by
          unfold sgF
          rw [he]
          show tyP t n (tk t n 41 (some b)) = none
          rw [show tk t n 41 (some b) = none from by unfold tk pkO; simp [e41], tyP_none]
        refine k_aload_n C dX5_readSignature_13 rfl ?_
        refine j_geti C fX5_116 rfl (by first | decide | omega) (by first | assumption | rfl) dX5_readSignature_14 ?_
        refine j_if_eq C 87 dX5_readSignature_17 (by decide) (fun c17 => ?_) (fun c17 => ?_)
        · exact absurd c17 n0 -- stop
        · refine k_aload_n C dX5_readSignature_20 rfl ?_
          refine j_bipush (v := 41) C dX5_readSignature_21 (by decide) ?_
          refine k_callV (k := 70) (ci := 5) (As := [.int (nI 41)]) C mX5_127 (r_pass hw hr' ht' (by omega) (ch := 41) (by decide)) jCl5.1 (by first | decide | omega) (by first | assumption | rfl) rfl rfl (Nat.le_of_ble_eq_true rfl) (jroom hR (by first | decide | omega) (by decide)) dX5_readSignature_23 ?_
          rintro v9 h9 ⟨rfl, rfl⟩
          rw [b41, if_neg e41]
          refine j_if_ne C 87 dX5_readSignature_26 (by decide) (fun c26 => ?_) (fun c26 => ?_)
          · exact absurd rfl c26 -- stop
          · refine k_aload_n C dX5_readSignature_29 rfl ?_
            refine k_aload_n C dX5_readSignature_30 rfl ?_
            refine j_getr C fX5_30 rfl (by first | decide | omega) (by first | assumption | rfl) (congrFun hr' _) dX5_readSignature_31 ?_
            refine k_iload_n C dX5_readSignature_34 rfl ?_
            refine j_iald C (by first | decide | omega) (by first | assumption | rfl) (rfl) (hx) (by decide) dX5_readSignature_35 ?_
            refine j_iconst (v := 3) C dX5_readSignature_36 (by decide) ?_
            refine j_icmp_ge C 44 dX5_readSignature_37 (by decide) (fun c37 => ?_) (fun c37 => ?_)
            · refine j_iconst (v := 0) C dX5_readSignature_44 (by decide) ?_
              refine k_callV (k := 70) (ci := 5) (As := [.int (bI false)]) C mX5_131 (r_must hw false) jCl5.1 (by first | decide | omega) (by first | assumption | rfl) rfl rfl (Nat.le_of_ble_eq_true rfl) (jroom hR (by first | decide | omega) (by decide)) dX5_readSignature_45 ?_
              rintro v9 h9 ⟨rfl, rfl⟩
              rw [Bool.and_false]
              refine k_aload_n C dX5_readSignature_48 rfl ?_
              refine j_geti C fX5_116 rfl (by first | decide | omega) (by first | assumption | rfl) dX5_readSignature_49 ?_
              refine j_if_eq C 74 dX5_readSignature_52 (by decide) (fun c52 => ?_) (fun c52 => ?_)
              · refine k_aload_n C dX5_readSignature_74 rfl ?_
                refine j_getr C fX5_30 rfl (by first | decide | omega) (by first | assumption | rfl) (congrFun hr' _) dX5_readSignature_75 ?_
                refine k_iload_n C dX5_readSignature_78 rfl ?_
                refine j_dup2 C dX5_readSignature_79 rfl rfl ?_
                refine j_iald C (by first | decide | omega) (by first | assumption | rfl) (rfl) (hx) (by decide) dX5_readSignature_80 ?_
                refine j_iconst (v := 1) C dX5_readSignature_81 (by decide) ?_
                refine j_iadd C dX5_readSignature_82 ?_
                refine j_iast C (by first | decide | omega) (by first | assumption | rfl) (rfl) (hx) (by decide) dX5_readSignature_83 ?_
                refine jeqh (pv_put (by omega)) ?_
                refine j_goto C 13 dX5_readSignature_84 (by decide) ?_
                exact out _ b (sF_up F (by omega)) (by omega) hsg
              · exact absurd pv_5 c52 -- stop
            · exact absurd (by rw [e77]; exact nI_le (a := 3) (b := k) (by omega) (by omega)) c37 -- stop
    | succ f ih =>
      intro k b s g' hk hb F h77 hs hs4 hj he
      obtain ⟨hr', ht'⟩ := rt F
      have n0 : ∀ {b : Nat}, ¬ (pv g' b true ty).1 70 5 = 0 := fun {b} => by rw [pv_5]; decide
      rw [sgL_s (f := f) (k := k + 1) (s := s) (p := some b)] at he
      by_cases e41 : pek t n b = 41
      · have b41 : (pek t n b == 41) = true := by simp [e41]
        rw [if_pos (show pkO t n (some b) = 41 from e41)] at he
        refine k_aload_n C dX5_readSignature_13 rfl ?_
        refine j_geti C fX5_116 rfl (by first | decide | omega) (by first | assumption | rfl) dX5_readSignature_14 ?_
        refine j_if_eq C 87 dX5_readSignature_17 (by decide) (fun c17 => ?_) (fun c17 => ?_)
        · exact absurd c17 n0 -- stop
        · refine k_aload_n C dX5_readSignature_20 rfl ?_
          refine j_bipush (v := 41) C dX5_readSignature_21 (by decide) ?_
          refine k_callV (k := 70) (ci := 5) (As := [.int (nI 41)]) C mX5_127 (r_pass hw hr' ht' (by omega) (ch := 41) (by decide)) jCl5.1 (by first | decide | omega) (by first | assumption | rfl) rfl rfl (Nat.le_of_ble_eq_true rfl) (jroom hR (by first | decide | omega) (by decide)) dX5_readSignature_23 ?_
          rintro v9 h9 ⟨rfl, rfl⟩
          rw [b41, if_pos e41]
          refine j_if_ne C 87 dX5_readSignature_26 (by decide) (fun c26 => ?_) (fun c26 => ?_)
          · exact fin k b s g' (by omega) (pek_in e41 (by decide)) F h77 hs hs4 hj he e41
          · exact absurd (by first | exact c26 | exact Classical.not_not.mp c26) (by decide) -- stop
      · have b41 : (pek t n b == 41) = false := by simp [e41]
        rw [if_neg (show ¬ pkO t n (some b) = 41 from e41), tyP_some hb] at he
        have e77 : ∀ {b : Nat} {gd : Bool}, (pv g' b gd ty).1 77 x = nI k := fun {b gd} => by rw [pv_o (by omega)]; exact h77
        obtain ⟨g2, eg2⟩ : ∃ g2 : jH, g2 = (up2 (up2 g'.1 78 (3 * x + k) (bI (pek t n b == 80))) 77 x (nI (k + 1)), g'.2) := ⟨_, rfl⟩
        have F2 : sF x g g2 := by rw [eg2]; exact sF_up (g' := (up2 g'.1 78 (3 * x + k) (bI (pek t n b == 80)), g'.2)) (sF_up F (by omega)) (by omega)
        have hty : tyV t n (some b) = if pek t n b = 80 then 2 else 1 := rfl
        have hy4 : tyV t n (some b) < 4 := by rw [hty]; split <;> omega
        obtain ⟨m1, m2⟩ := ta_step (k := k + 1) (by omega) (by omega) hs hy4
        have nxt : J X w (pv g2 (tyA t n b) (true && tyG t n b) ty) 13 [(0, .ref (jad w 70)), (1, .int (nI x))] [] := by
          by_cases hG : tyG t n b = true
          · rw [if_pos hG] at he
            rw [hG]
            have hbn : b < n := by
              unfold tyG at hG
              simp only [Bool.or_eq_true, beq_iff_eq] at hG
              exact pek_gt (t := t) (c := 0) (by omega)
            have eA : tyA t n b = b + 1 := by
              unfold tyA
              unfold tyG at hG
              simp only [Bool.or_eq_true, beq_iff_eq] at hG
              rw [if_pos hG]
            rw [eA]
            refine ih (k + 1) (b + 1) _ g2 (by omega) (by omega) F2 (by rw [eg2]; dsimp only; rw [up2_s]) ?_ ?_ ?_ he
            · have h3 : tyV t n (some b) * 4 ^ (k + 1) ≤ 3 * 4 ^ (k + 1) := Nat.mul_le_mul_right _ (by omega)
              have h4 : 4 ^ (k + 1 + 1) = 4 ^ (k + 1) * 4 := Nat.pow_succ _ _
              omega
            · have : 4 ^ (k + 1) % 4 = 0 := by rw [Nat.pow_succ]; exact Nat.mul_mod_left _ _
              rw [Nat.add_mod, Nat.mul_mod, this, hs4]
              simp
            · intro j hjk
              rw [eg2]
              dsimp only
              rw [up2_n (by omega)]
              by_cases cj : j = k
              · rw [cj, up2_s, m1, hty]
                by_cases c80 : pek t n b = 80
                · simp [c80]
                · rw [if_neg c80, show (pek t n b == 80) = false from by simp [c80]]; exact ⟨rfl, Or.inl rfl⟩
              · rw [up2_n (by omega), m2 (j + 1) (by omega)]
                exact hj j (by omega)
          · rw [if_neg hG] at he
            have hGf : tyG t n b = false := by simpa using hG
            rw [hGf]
            exact out g2 _ F2 (by unfold tyA; split <;> omega) (snone he)
        refine k_aload_n C dX5_readSignature_13 rfl ?_
        refine j_geti C fX5_116 rfl (by first | decide | omega) (by first | assumption | rfl) dX5_readSignature_14 ?_
        refine j_if_eq C 87 dX5_readSignature_17 (by decide) (fun c17 => ?_) (fun c17 => ?_)
        · exact absurd c17 n0 -- stop
        · refine k_aload_n C dX5_readSignature_20 rfl ?_
          refine j_bipush (v := 41) C dX5_readSignature_21 (by decide) ?_
          refine k_callV (k := 70) (ci := 5) (As := [.int (nI 41)]) C mX5_127 (r_pass hw hr' ht' (by omega) (ch := 41) (by decide)) jCl5.1 (by first | decide | omega) (by first | assumption | rfl) rfl rfl (Nat.le_of_ble_eq_true rfl) (jroom hR (by first | decide | omega) (by decide)) dX5_readSignature_23 ?_
          rintro v9 h9 ⟨rfl, rfl⟩
          rw [b41, if_neg e41]
          refine j_if_ne C 87 dX5_readSignature_26 (by decide) (fun c26 => ?_) (fun c26 => ?_)
          · exact absurd rfl c26 -- stop
          · refine k_aload_n C dX5_readSignature_29 rfl ?_
            refine k_aload_n C dX5_readSignature_30 rfl ?_
            refine j_getr C fX5_30 rfl (by first | decide | omega) (by first | assumption | rfl) (congrFun hr' _) dX5_readSignature_31 ?_
            refine k_iload_n C dX5_readSignature_34 rfl ?_
            refine j_iald C (by first | decide | omega) (by first | assumption | rfl) (rfl) (hx) (by decide) dX5_readSignature_35 ?_
            refine j_iconst (v := 3) C dX5_readSignature_36 (by decide) ?_
            refine j_icmp_ge C 44 dX5_readSignature_37 (by decide) (fun c37 => ?_) (fun c37 => ?_)
            · exact absurd c37 (by rw [e77]; exact nI_ge (a := k) (b := 3) (by omega) (by omega)) -- stop
            · refine j_iconst (v := 1) C dX5_readSignature_40 (by decide) ?_
              refine j_goto C 45 dX5_readSignature_41 (by decide) ?_
              refine k_callV (k := 70) (ci := 5) (As := [.int (bI true)]) C mX5_131 (r_must hw true) jCl5.1 (by first | decide | omega) (by first | assumption | rfl) rfl rfl (Nat.le_of_ble_eq_true rfl) (jroom hR (by first | decide | omega) (by decide)) dX5_readSignature_45 ?_
              rintro v9 h9 ⟨rfl, rfl⟩
              rw [Bool.and_true]
              refine k_aload_n C dX5_readSignature_48 rfl ?_
              refine j_geti C fX5_116 rfl (by first | decide | omega) (by first | assumption | rfl) dX5_readSignature_49 ?_
              refine j_if_eq C 74 dX5_readSignature_52 (by decide) (fun c52 => ?_) (fun c52 => ?_)
              · exact absurd c52 n0 -- stop
              · refine k_aload_n C dX5_readSignature_55 rfl ?_
                refine j_getr C fX5_33 rfl (by first | decide | omega) (by first | assumption | rfl) (congrFun hr' _) dX5_readSignature_56 ?_
                refine j_iconst (v := 3) C dX5_readSignature_59 (by decide) ?_
                refine k_iload_n C dX5_readSignature_60 rfl ?_
                refine j_imul C dX5_readSignature_61 ?_
                refine k_aload_n C dX5_readSignature_62 rfl ?_
                refine j_getr C fX5_30 rfl (by first | decide | omega) (by first | assumption | rfl) (congrFun hr' _) dX5_readSignature_63 ?_
                refine k_iload_n C dX5_readSignature_66 rfl ?_
                refine j_iald C (by first | decide | omega) (by first | assumption | rfl) (rfl) (hx) (by decide) dX5_readSignature_67 ?_
                rw [e77]
                refine j_iadd C dX5_readSignature_68 ?_
                rw [ei]
                refine k_aload_n C dX5_readSignature_69 rfl ?_
                refine k_callV (k := 70) (ci := 5) (As := []) C mX5_228 (r_readType hw hr' ht' (by omega)) jCl5.1 (by first | decide | omega) (by first | assumption | rfl) rfl rfl (Nat.le_of_ble_eq_true rfl) (jroom hR (by first | decide | omega) (by decide)) dX5_readSignature_70 ?_
                rintro v9 h9 ⟨rfl, rfl⟩
                refine j_zast C (by first | decide | omega) (by first | assumption | rfl) (rfl) ((by omega)) (by decide) (bI_01 _) dX5_readSignature_73 ?_
                refine jeqh (pv_put (by omega)) ?_
                refine k_aload_n C dX5_readSignature_74 rfl ?_
                refine j_getr C fX5_30 rfl (by first | decide | omega) (by first | assumption | rfl) (congrFun hr' _) dX5_readSignature_75 ?_
                refine k_iload_n C dX5_readSignature_78 rfl ?_
                refine j_dup2 C dX5_readSignature_79 rfl rfl ?_
                refine j_iald C (by first | decide | omega) (by first | assumption | rfl) (rfl) (hx) (by decide) dX5_readSignature_80 ?_
                rw [show (pv (up2 g'.1 78 (3 * x + k) (bI (pek t n b == 80)), g'.2) (tyA t n b) (true && tyG t n b) ty).1 77 x = nI k from by rw [pv_o (by omega)]; dsimp only; rw [up2_n (by omega)]; exact h77]
                refine j_iconst (v := 1) C dX5_readSignature_81 (by decide) ?_
                refine j_iadd C dX5_readSignature_82 ?_
                rw [nI_1]
                refine j_iast C (by first | decide | omega) (by first | assumption | rfl) (rfl) (hx) (by decide) dX5_readSignature_83 ?_
                refine jeqh (show _ = pv g2 (tyA t n b) (true && tyG t n b) ty from by rw [pv_put (by omega), eg2]) ?_
                refine j_goto C 13 dX5_readSignature_84 (by decide) ?_
                exact nxt
  show J X w (pv g a true ty) 0 [(0, .ref (jad w 70)), (1, .int (nI x))] []
  have F1 : sF x g (up2 g.1 77 x 0, g.2) := sF_up ⟨rfl, fun _ _ _ _ => rfl⟩ (by omega)
  obtain ⟨hr1, ht1⟩ := rt F1
  by_cases e40 : pek t n a = 40
  · have b40 : (true && pek t n a == 40) = true := by simp [e40]
    have ha2 := pek_in e40 (by decide)
    refine k_aload_n C dX5_readSignature_0 rfl ?_
    refine j_getr C fX5_30 rfl (by first | decide | omega) (by first | assumption | rfl) (congrFun hr _) dX5_readSignature_1 ?_
    refine k_iload_n C dX5_readSignature_4 rfl ?_
    refine j_iconst (v := 0) C dX5_readSignature_5 (by decide) ?_
    refine j_iast C (by first | decide | omega) (by first | assumption | rfl) (rfl) (hx) (by decide) dX5_readSignature_6 ?_
    refine jeqh (pv_put (by omega)) ?_
    refine k_aload_n C dX5_readSignature_7 rfl ?_
    refine j_bipush (v := 40) C dX5_readSignature_8 (by decide) ?_
    refine k_callV (k := 70) (ci := 5) (As := [.int (nI 40)]) C mX5_175 (r_expect hw hr1 ht1 (by omega) (ch := 40) (by decide)) jCl5.1 (by first | decide | omega) (by first | assumption | rfl) rfl rfl (Nat.le_of_ble_eq_true rfl) (jroom hR (by first | decide | omega) (by decide)) dX5_readSignature_10 ?_
    rintro v9 h9 ⟨rfl, rfl⟩
    rw [b40, if_pos e40]
    exact loop 3 0 (a + 1) 0 _ rfl (by omega) F1 (by dsimp only; rw [up2_s]; rfl) (by decide) rfl (fun j hj => absurd hj (Nat.not_lt_zero _)) (by rw [show tk t n 40 (some a) = some (a + 1) from by unfold tk pkO; simp [e40]])
  · have b40 : (true && pek t n a == 40) = false := by simp [e40]
    refine k_aload_n C dX5_readSignature_0 rfl ?_
    refine j_getr C fX5_30 rfl (by first | decide | omega) (by first | assumption | rfl) (congrFun hr _) dX5_readSignature_1 ?_
    refine k_iload_n C dX5_readSignature_4 rfl ?_
    refine j_iconst (v := 0) C dX5_readSignature_5 (by decide) ?_
    refine j_iast C (by first | decide | omega) (by first | assumption | rfl) (rfl) (hx) (by decide) dX5_readSignature_6 ?_
    refine jeqh (pv_put (by omega)) ?_
    refine k_aload_n C dX5_readSignature_7 rfl ?_
    refine j_bipush (v := 40) C dX5_readSignature_8 (by decide) ?_
    refine k_callV (k := 70) (ci := 5) (As := [.int (nI 40)]) C mX5_175 (r_expect hw hr1 ht1 (by omega) (ch := 40) (by decide)) jCl5.1 (by first | decide | omega) (by first | assumption | rfl) rfl rfl (Nat.le_of_ble_eq_true rfl) (jroom hR (by first | decide | omega) (by decide)) dX5_readSignature_10 ?_
    rintro v9 h9 ⟨rfl, rfl⟩
    rw [b40, if_neg e40]
    exact out _ a F1 (by omega) (snone (f := 3) (k := 1) (s := 0) (by rw [show tk t n 40 (some a) = none from by unfold tk pkO; simp [e40]]))
end XP
