def vrf (w : jW) (o : Option Nat) : Value := match o with
  | none => .null
  | some k => .ref (jad w k)
/-- where the definition with that module and name stands -/
def dfO (PG : Nat → PU) (pr : Nat → Bool) (m f : Int32) : Option (Nat × Nat) := match prs pr m with
  | none => none
  | some k => (dfn (PG k).1 f).map (fun i => (k, i))
def cntM (pr : Nat → Bool) : Nat → Nat
  | 0 => 0
  | k + 1 => cntM pr k + (if pr k then 1 else 0)
def nDf (hs : List HD) : Nat → Nat
  | 0 => 0
  | k + 1 => nDf hs k + (if (hs.getD k (0, 0, 0, 0, 0)).1 = 0 then 1 else 0)
def cntD (PG : Nat → PU) (pr : Nat → Bool) : Nat → Nat
  | 0 => 0
  | k + 1 => cntD PG pr k + (if pr k then nDf (PG k).1 (PG k).1.length else 0)
def fitP (PG : Nat → PU) (pr : Nat → Bool) (d : HD) : Bool := pr (d.1 - 1) && (match dfx (PG (d.1 - 1)).1 d.2.1 with
  | none => false
  | some j => ((PG (d.1 - 1)).1.getD j (0, 0, 0, 0, 0)).2.2.2.1 == 1 && ((PG (d.1 - 1)).1.getD j (0, 0, 0, 0, 0)).2.2.1 == d.2.2.1)
def unfI (PG : Nat → PU) (pr : Nat → Bool) : List HD → Nat → Option Nat
  | [], _ => none
  | d :: l, i => if d.1 ≠ 0 ∧ fitP PG pr d = false then some i else unfI PG pr l (i + 1)
def unfM (PG : Nat → PU) (pr : Nat → Bool) : Nat → Nat → Option (Nat × Nat)
  | 0, _ => none
  | f + 1, m => if pr m then (match unfI PG pr (PG m).1 0 with
    | some i => some (m, i)
    | none => unfM PG pr f (m + 1)) else unfM PG pr f (m + 1)
section K2
variable {l : Launch} {w : jW} {h : jH} {PG : Nat → PU} {pr : Nat → Bool} {σ : Nat → Nat} {n : Nat} {t : Nat → Nat}
theorem iz (b : Bool) : ((if b = true then (1 : Int32) else 0) = 0) ↔ b = false := by cases b <;> simp
theorem m_isPresent (hw : jok w) (hr : kR σ h) (hM : kM PG pr σ h) (m : Int32) : jM l w yX4_isPresent cX4_isPresent 2 (some .boolean) 0 [.ref (jad w 0), .int m] h (fun r h' => r = some (.int (if (prs pr m).isSome then 1 else 0)) ∧ h' = h) := by
  refine jM_of (by decide) hw (Nat.le_of_ble_eq_true rfl) ?_
  intro X C hl hR hnL hrt hE
  have C : jC X w cX4_isPresent RX4 := C
  show J X w h 0 [(0, .ref (jad w 0)), (1, .int m)] []
  cases e : iK 6 m with
  | none =>
    have h9 := iK_none e
    have e2 : prs pr m = none := by unfold prs; rw [e]; rfl
    refine k_iload_n C dX4_isPresent_0 rfl ?_
    refine j_if_lt C 23 dX4_isPresent_1 (by decide) (fun c1 => ?_) (fun c1 => ?_)
    · refine j_iconst (v := 0) C dX4_isPresent_23 (by decide) ?_
      exact j_zret C hrt (rfl) hE dX4_isPresent_24 (⟨by rw [e2]; rfl, rfl⟩)
    · refine k_iload_n C dX4_isPresent_4 rfl ?_
      refine j_bipush (v := 6) C dX4_isPresent_5 (by decide) ?_
      refine j_icmp_ge C 23 dX4_isPresent_7 (by decide) (fun c7 => ?_) (fun c7 => ?_)
      · refine j_iconst (v := 0) C dX4_isPresent_23 (by decide) ?_
        exact j_zret C hrt (rfl) hE dX4_isPresent_24 (⟨by rw [e2]; rfl, rfl⟩)
      · exact absurd ⟨Classical.not_not.mp (fun z => c1 (by first | exact Int32.not_le.mp z | exact z)), Int32.not_le.mp c7⟩ h9 -- stop
  | some k =>
    obtain ⟨rfl, hk⟩ := iK_some (by decide) e
    have hp := (hM k hk).1
    refine k_iload_n C dX4_isPresent_0 rfl ?_
    refine j_if_lt C 23 dX4_isPresent_1 (by decide) (fun c1 => ?_) (fun c1 => ?_)
    · exact absurd c1 (nI_pos (by omega)) -- stop
    · refine k_iload_n C dX4_isPresent_4 rfl ?_
      refine j_bipush (v := 6) C dX4_isPresent_5 (by decide) ?_
      refine j_icmp_ge C 23 dX4_isPresent_7 (by decide) (fun c7 => ?_) (fun c7 => ?_)
      · exact absurd c7 (nI_ge (a := k) (b := 6) (by omega) (by omega)) -- stop
      · refine k_aload_n C dX4_isPresent_10 rfl ?_
        refine j_getr C fX4_19 rfl (by first | decide | omega) (by first | assumption | rfl) (hr.2.2.1) dX4_isPresent_11 ?_
        refine k_iload_n C dX4_isPresent_14 rfl ?_
        refine j_zald C (by first | decide | omega) (by first | assumption | rfl) (rfl) (hk) (by decide) dX4_isPresent_15 ?_
        refine j_if_eq C 23 dX4_isPresent_16 (by decide) (fun c16 => ?_) (fun c16 => ?_)
        · rw [hp, iz] at c16
          refine j_iconst (v := 0) C dX4_isPresent_23 (by decide) ?_
          exact j_zret C hrt (rfl) hE dX4_isPresent_24 (by first | exact ⟨by unfold prs; rw [e]; simp [c16], rfl⟩ | exact ⟨by unfold prs; rw [e]; simp [eq_true_of_ne_false c16], rfl⟩)
        · rw [hp, iz] at c16
          refine j_iconst (v := 1) C dX4_isPresent_19 (by decide) ?_
          refine j_goto C 24 dX4_isPresent_20 (by decide) ?_
          exact j_zret C hrt (rfl) hE dX4_isPresent_24 (by first | exact ⟨by unfold prs; rw [e]; simp [c16], rfl⟩ | exact ⟨by unfold prs; rw [e]; simp [eq_true_of_ne_false c16], rfl⟩)
theorem prs_some {m : Int32} {k : Nat} (h : prs pr m = some k) : m = nI k ∧ k < 6 ∧ pr k = true := by
  unfold prs at h
  cases e : iK 6 m with
  | none => rw [e] at h; cases h
  | some j =>
    rw [e] at h
    obtain ⟨h1, h2⟩ := iK_some (by decide) e
    simp only [Option.filter] at h
    split at h
    · next hp => simp only [Option.some.injEq] at h; subst h; exact ⟨h1, h2, hp⟩
    · cases h
theorem m_definitionOf (hw : jok w) (hr : kR σ h) (hM : kM PG pr σ h) (m f : Int32) : jM l w yX4_definitionOf cX4_definitionOf 3 (some (.object "ModuleLinker$Item")) 1 [.ref (jad w 0), .int m, .int f] h (fun r h' => r = some (vrf w ((dfO PG pr m f).map (fun q => ub (σ q.1) + 3 + q.2))) ∧ h' = h) := by
  refine jM_of (by decide) hw (Nat.le_of_ble_eq_true rfl) ?_
  intro X C hl hR hnL hrt hE
  subst hl
  have C : jC X w cX4_definitionOf RX4 := C
  show J X w h 0 [(0, .ref (jad w 0)), (1, .int m), (2, .int f)] []
  cases e : prs pr m with
  | none =>
    refine k_aload_n C dX4_definitionOf_0 rfl ?_
    refine k_iload_n C dX4_definitionOf_1 rfl ?_
    refine k_callV (k := 0) (ci := 4) (As := [.int m]) C mX4_83 (m_isPresent hw hr hM m) jCl4.1 (by first | decide | omega) (by first | assumption | rfl) rfl rfl (Nat.le_of_ble_eq_true rfl) (jroom hR (by first | decide | omega) (by decide)) dX4_definitionOf_2 ?_
    rintro v9 h9 ⟨rfl, rfl⟩
    rw [e]
    refine j_if_eq C 22 dX4_definitionOf_5 (by decide) (fun c5 => ?_) (fun c5 => ?_)
    · refine j_null C dX4_definitionOf_22 ?_
      exact j_aret C hrt (Or.inl rfl) hE dX4_definitionOf_23 (⟨by unfold dfO; rw [e]; rfl, rfl⟩)
    · exact absurd rfl c5 -- stop
  | some k =>
    obtain ⟨rfl, hk, hp⟩ := prs_some e
    obtain ⟨cu, U⟩ := (hM k hk).2 hp
    have hu := hr.2.2.2.2.2.2.2.2.1 k (by omega)
    obtain ⟨k3, k4, k5, k6, k7⟩ := jk_unit (σ k) hu.1
    have hub := ub_in hu.1
    have fit9 : ∀ i (hi : i < (PG k).1.length), fitI h (σ k) (-1) f i ↔ (((PG k).1[i]).1 = 0 ∧ nI ((PG k).1[i]).2.1 = f) := by
      intro i hi
      have c7 := cu.2.2.2.2.2.2.1 i hi
      have u4 := (U.2.2.2.1 i hi).1.1
      unfold fitI
      rw [c7.1, c7.2.1, ← oI_0, oI_eq (by omega) (by omega)]
    have fin : ∀ (r : Option Value), ((∃ i, i < (PG k).1.length ∧ fitI h (σ k) (-1) f i ∧ (∀ j, j < i → ¬ fitI h (σ k) (-1) f j) ∧ r = some (.ref (jad w (ub (σ k) + 3 + i)))) ∨ ((∀ j, j < (PG k).1.length → ¬ fitI h (σ k) (-1) f j) ∧ r = some .null)) → r = some (vrf w ((dfO PG pr (nI k) f).map (fun q => ub (σ q.1) + 3 + q.2))) := by
      intro r hh
      have ed : dfO PG pr (nI k) f = (dfn (PG k).1 f).map (fun i => (k, i)) := by unfold dfO; rw [e]
      rw [ed]
      rcases hh with ⟨i, hi, h1, h2, rfl⟩ | ⟨h1, rfl⟩
      · obtain ⟨q1, q2⟩ := (fit9 i hi).mp h1
        have hn := (U.2.2.2.1 i hi).1.2.1
        have : dfn (PG k).1 f = some i := by
          unfold dfn
          rw [← q2, iK_of (by decide) hn]
          exact dfx_dst U.2.2.1 hi q1 rfl
        rw [this]; rfl
      · have : dfn (PG k).1 f = none := by
          unfold dfn
          cases e9 : iK 26 f with
          | none => rfl
          | some nm =>
            obtain ⟨rfl, -⟩ := iK_some (by decide) e9
            show dfx (PG k).1 nm = none
            cases ex : dfx (PG k).1 nm with
            | none => rfl
            | some i =>
              obtain ⟨hi, q1, q2⟩ := dfx_some _ _ _ ex
              exact absurd ((fit9 i hi).mpr ⟨q1, by rw [q2]⟩) (h1 i hi)
        rw [this]; rfl
    refine k_aload_n C dX4_definitionOf_0 rfl ?_
    refine k_iload_n C dX4_definitionOf_1 rfl ?_
    refine k_callV (k := 0) (ci := 4) (As := [.int (nI k)]) C mX4_83 (m_isPresent hw hr hM (nI k)) jCl4.1 (by first | decide | omega) (by first | assumption | rfl) rfl rfl (Nat.le_of_ble_eq_true rfl) (jroom hR (by first | decide | omega) (by decide)) dX4_definitionOf_2 ?_
    rintro v9 h9 ⟨rfl, rfl⟩
    rw [e]
    refine j_if_eq C 22 dX4_definitionOf_5 (by decide) (fun c5 => ?_) (fun c5 => ?_)
    · exact absurd c5 (by simp) -- stop
    · refine k_aload_n C dX4_definitionOf_8 rfl ?_
      refine j_getr C fX4_15 rfl (by first | decide | omega) (by first | assumption | rfl) (hr.2.1) dX4_definitionOf_9 ?_
      refine k_iload_n C dX4_definitionOf_12 rfl ?_
      refine j_aald C (t := 3) (by decide) rfl (by first | decide | omega) (by first | assumption | rfl) (rfl) (hk) (by decide) (hr.2.2.2.2.2.2.2.1 k hk) dX4_definitionOf_13 ?_
      refine j_iconst (v := -1) C dX4_definitionOf_14 (by decide) ?_
      refine k_iload_n C dX4_definitionOf_15 rfl ?_
      refine k_callV (k := ub (σ k)) (ci := 3) (As := [.int (-1), .int f]) C mX4_148 (m_find hw hu cu.2.2.2.2.2.1 cu.2.1 (-1) f) jCl3.1 (by first | decide | omega) (by first | assumption | rfl) rfl rfl (Nat.le_of_ble_eq_true rfl) (jroom hR (by first | decide | omega) (by decide)) dX4_definitionOf_16 ?_
      rintro v9 h9 ⟨rfl, hh⟩
      have hv9 := fin v9 hh
      subst hv9
      refine j_goto C 23 dX4_definitionOf_19 (by decide) ?_
      exact j_aret C hrt (by cases (dfO PG pr (nI k) f).map (fun q => ub (σ q.1) + 3 + q.2); exact Or.inl rfl; exact Or.inr ⟨_, rfl⟩) hE dX4_definitionOf_23 (⟨rfl, rfl⟩)
theorem cntM_nz {m : Nat} (hp : pr m = true) : ∀ k, m < k → ¬ cntM pr k = 0 := by
  intro k
  induction k with
  | zero => intro h; omega
  | succ k ih =>
    intro h
    simp only [cntM]
    by_cases e : m = k
    · subst e; rw [hp]; simp
    · have := ih (by omega); omega
theorem m_hasModules (hw : jok w) (hr : kR σ h) (hM : kM PG pr σ h) : jM l w yX4_hasModules cX4_hasModules 2 (some .boolean) 0 [.ref (jad w 0)] h (fun r h' => r = some (.int (if cntM pr 6 = 0 then 0 else 1)) ∧ h' = h) := by
  refine jM_of (by decide) hw (Nat.le_of_ble_eq_true rfl) ?_
  intro X C hl hR hnL hrt hE
  have C : jC X w cX4_hasModules RX4 := C
  have loop : ∀ (f m : Nat), m + f = 6 → cntM pr m = 0 → J X w h 2 [(0, .ref (jad w 0)), (1, .int (nI m))] [] := by
    intro f
    induction f with
    | zero =>
      intro m hm h0
      have h6 : cntM pr 6 = 0 := by
        have e : m = 6 := by omega
        subst e
        exact h0
      refine k_iload_n C dX4_hasModules_2 rfl ?_
      refine j_bipush (v := 6) C dX4_hasModules_3 (by decide) ?_
      refine j_icmp_ge C 25 dX4_hasModules_5 (by decide) (fun c5 => ?_) (fun c5 => ?_)
      · refine j_iconst (v := 0) C dX4_hasModules_25 (by decide) ?_
        exact j_zret C hrt (rfl) hE dX4_hasModules_26 (⟨by rw [if_pos h6], rfl⟩)
      · exact absurd (nI_le (a := 6) (b := m) (by omega) (by omega)) c5 -- stop
    | succ f ih =>
      intro m hm h0
      have hp := (hM m (by omega)).1
      refine k_iload_n C dX4_hasModules_2 rfl ?_
      refine j_bipush (v := 6) C dX4_hasModules_3 (by decide) ?_
      refine j_icmp_ge C 25 dX4_hasModules_5 (by decide) (fun c5 => ?_) (fun c5 => ?_)
      · exact absurd c5 (nI_ge (a := m) (b := 6) (by omega) (by omega)) -- stop
      · refine k_aload_n C dX4_hasModules_8 rfl ?_
        refine j_getr C fX4_19 rfl (by first | decide | omega) (by first | assumption | rfl) (hr.2.2.1) dX4_hasModules_9 ?_
        refine k_iload_n C dX4_hasModules_12 rfl ?_
        refine j_zald C (by first | decide | omega) (by first | assumption | rfl) (rfl) ((by omega)) (by decide) dX4_hasModules_13 ?_
        refine j_if_eq C 19 dX4_hasModules_14 (by decide) (fun c14 => ?_) (fun c14 => ?_)
        · rw [hp, iz] at c14
          refine k_iinc C dX4_hasModules_19 rfl rfl (by rw [hnL]; decide) ?_
          refine j_goto C 2 dX4_hasModules_22 (by decide) ?_
          rw [show nI m + Int32.ofInt 1 = nI (m + 1) from nI_1 m]
          exact ih (m + 1) (by omega) (by simp [cntM, h0, c14])
        · rw [hp, iz] at c14
          refine j_iconst (v := 1) C dX4_hasModules_17 (by decide) ?_
          exact j_zret C hrt (rfl) hE dX4_hasModules_18 (⟨by rw [if_neg (cntM_nz (eq_true_of_ne_false c14) 6 (by omega))], rfl⟩)
  show J X w h 0 [(0, .ref (jad w 0))] []
  refine j_iconst (v := 0) C dX4_hasModules_0 (by decide) ?_
  refine k_istore_n C dX4_hasModules_1 (by rw [hnL]; decide) ?_
  exact loop 6 0 rfl rfl
theorem m_uCount (hw : jok w) {u : Nat} {hs : List HD} (hu : ur h u) (hc : h.1 (ub u) 1 = nI hs.length) (h6 : hs.length ≤ 6) (ho : ∀ i (hi : i < hs.length), h.1 (ub u + 3 + i) 0 = oI (hs[i]).1 ∧ (hs[i]).1 ≤ 6) : jM l w yX3_countDefinitions cX3_countDefinitions 3 (some .int) 0 [.ref (jad w (ub u))] h (fun r h' => r = some (.int (nI (nDf hs hs.length))) ∧ h' = h) := by
  refine jM_of (by decide) hw (Nat.le_of_ble_eq_true rfl) ?_
  intro X C hl hR hnL hrt hE
  have C : jC X w cX3_countDefinitions RX3 := C
  obtain ⟨k3, k4, k5, k6, k7⟩ := jk_unit u hu.1
  have loop : ∀ (f m : Nat), m + f = hs.length → J X w h 4 [(0, .ref (jad w (ub u))), (1, .int (nI (nDf hs m))), (2, .int (nI m))] [] := by
    intro f
    induction f with
    | zero =>
      intro m hm
      refine k_iload_n C dX3_countDefinitions_4 rfl ?_
      refine k_aload_n C dX3_countDefinitions_5 rfl ?_
      refine j_geti C fX3_22 rfl (by first | decide | omega) (by first | assumption | rfl) dX3_countDefinitions_6 ?_
      refine j_icmp_ge C 34 dX3_countDefinitions_9 (by decide) (fun c9 => ?_) (fun c9 => ?_)
      · refine k_iload_n C dX3_countDefinitions_34 rfl ?_
        exact j_iret C hrt hE dX3_countDefinitions_35 (⟨by rw [show m = hs.length by omega], rfl⟩)
      · exact absurd (by rw [hc]; exact nI_le (a := hs.length) (b := m) (by omega) (by omega)) c9 -- stop
    | succ f ih =>
      intro m hm
      have k8 := k7 m (by omega)
      obtain ⟨ho1, ho2⟩ := ho m (by omega)
      have eg := gtD (l := hs) (i := m) (by omega)
      refine k_iload_n C dX3_countDefinitions_4 rfl ?_
      refine k_aload_n C dX3_countDefinitions_5 rfl ?_
      refine j_geti C fX3_22 rfl (by first | decide | omega) (by first | assumption | rfl) dX3_countDefinitions_6 ?_
      refine j_icmp_ge C 34 dX3_countDefinitions_9 (by decide) (fun c9 => ?_) (fun c9 => ?_)
      · exact absurd c9 (by rw [hc]; exact nI_ge (a := m) (b := hs.length) (by omega) (by omega)) -- stop
      · refine k_aload_n C dX3_countDefinitions_12 rfl ?_
        refine j_getr C fX3_11 rfl (by first | decide | omega) (by first | assumption | rfl) (hu.2.1) dX3_countDefinitions_13 ?_
        refine k_iload_n C dX3_countDefinitions_16 rfl ?_
        refine j_aald C (t := 4) (by decide) rfl (by first | decide | omega) (by first | assumption | rfl) (rfl) ((by omega)) (by decide) (hu.2.2.2 m (by omega)) dX3_countDefinitions_17 ?_
        refine j_geti C fX3_26 rfl (by first | decide | omega) (by first | assumption | rfl) dX3_countDefinitions_18 ?_
        refine j_iconst (v := -1) C dX3_countDefinitions_21 (by decide) ?_
        refine j_icmp_ne C 28 dX3_countDefinitions_22 (by decide) (fun c22 => ?_) (fun c22 => ?_)
        · have c22' : ¬ (hs.getD m (0, 0, 0, 0, 0)).1 = 0 := fun z => c22 (by rw [ho1, ← eg, z]; exact oI_0)
          refine k_iinc C dX3_countDefinitions_28 rfl rfl (by rw [hnL]; decide) ?_
          refine j_goto C 4 dX3_countDefinitions_31 (by decide) ?_
          first | (have e : nI (nDf hs m) = nI (nDf hs (m + 1)) := by simp only [nDf, c22', if_false, Nat.add_zero]); rw [e, show nI m + Int32.ofInt 1 = nI (m + 1) from nI_1 m]; exact ih (m + 1) (by omega) | (have e : nI (nDf hs m) + Int32.ofInt 1 = nI (nDf hs (m + 1)) := by (simp only [nDf, c22', if_true]; exact nI_1 _)); rw [e, show nI m + Int32.ofInt 1 = nI (m + 1) from nI_1 m]; exact ih (m + 1) (by omega)
        · have c22' : (hs.getD m (0, 0, 0, 0, 0)).1 = 0 := by rw [eg]; exact (oI_eq (by omega) (by omega)).mp (by rw [← ho1, oI_0]; exact c22)
          refine k_iinc C dX3_countDefinitions_25 rfl rfl (by rw [hnL]; decide) ?_
          refine k_iinc C dX3_countDefinitions_28 rfl rfl (by rw [hnL]; decide) ?_
          refine j_goto C 4 dX3_countDefinitions_31 (by decide) ?_
          first | (have e : nI (nDf hs m) = nI (nDf hs (m + 1)) := by simp only [nDf, c22', if_false, Nat.add_zero]); rw [e, show nI m + Int32.ofInt 1 = nI (m + 1) from nI_1 m]; exact ih (m + 1) (by omega) | (have e : nI (nDf hs m) + Int32.ofInt 1 = nI (nDf hs (m + 1)) := by (simp only [nDf, c22', if_true]; exact nI_1 _)); rw [e, show nI m + Int32.ofInt 1 = nI (m + 1) from nI_1 m]; exact ih (m + 1) (by omega)
  show J X w h 0 [(0, .ref (jad w (ub u)))] []
  refine j_iconst (v := 0) C dX3_countDefinitions_0 (by decide) ?_
  refine k_istore_n C dX3_countDefinitions_1 (by rw [hnL]; decide) ?_
  refine j_iconst (v := 0) C dX3_countDefinitions_2 (by decide) ?_
  refine k_istore_n C dX3_countDefinitions_3 (by rw [hnL]; decide) ?_
  exact loop hs.length 0 (by omega)
theorem m_countDefinitions (hw : jok w) (hr : kR σ h) (hM : kM PG pr σ h) : jM l w yX4_countDefinitions cX4_countDefinitions 3 (some .int) 1 [.ref (jad w 0)] h (fun r h' => r = some (.int (nI (cntD PG pr 6))) ∧ h' = h) := by
  refine jM_of (by decide) hw (Nat.le_of_ble_eq_true rfl) ?_
  intro X C hl hR hnL hrt hE
  subst hl
  have C : jC X w cX4_countDefinitions RX4 := C
  have loop : ∀ (f m : Nat), m + f = 6 → J X w h 4 [(0, .ref (jad w 0)), (1, .int (nI (cntD PG pr m))), (2, .int (nI m))] [] := by
    intro f
    induction f with
    | zero =>
      intro m hm
      refine k_iload_n C dX4_countDefinitions_4 rfl ?_
      refine j_bipush (v := 6) C dX4_countDefinitions_5 (by decide) ?_
      refine j_icmp_ge C 37 dX4_countDefinitions_7 (by decide) (fun c7 => ?_) (fun c7 => ?_)
      · refine k_iload_n C dX4_countDefinitions_37 rfl ?_
        exact j_iret C hrt hE dX4_countDefinitions_38 (⟨by rw [show m = 6 by omega], rfl⟩)
      · exact absurd (nI_le (a := 6) (b := m) (by omega) (by omega)) c7 -- stop
    | succ f ih =>
      intro m hm
      have hp := (hM m (by omega)).1
      have hu := hr.2.2.2.2.2.2.2.2.1 m (by omega)
      obtain ⟨k3, k4, k5, k6, k7⟩ := jk_unit (σ m) hu.1
      cases hpm : pr m with
      | false =>
        rw [hpm] at hp
        have e : nI (cntD PG pr m) = nI (cntD PG pr (m + 1)) := by simp [cntD, hpm]
        refine k_iload_n C dX4_countDefinitions_4 rfl ?_
        refine j_bipush (v := 6) C dX4_countDefinitions_5 (by decide) ?_
        refine j_icmp_ge C 37 dX4_countDefinitions_7 (by decide) (fun c7 => ?_) (fun c7 => ?_)
        · exact absurd c7 (nI_ge (a := m) (b := 6) (by omega) (by omega)) -- stop
        · refine k_aload_n C dX4_countDefinitions_10 rfl ?_
          refine j_getr C fX4_19 rfl (by first | decide | omega) (by first | assumption | rfl) (hr.2.2.1) dX4_countDefinitions_11 ?_
          refine k_iload_n C dX4_countDefinitions_14 rfl ?_
          refine j_zald C (by first | decide | omega) (by first | assumption | rfl) (rfl) ((by omega)) (by decide) dX4_countDefinitions_15 ?_
          refine j_if_eq C 31 dX4_countDefinitions_16 (by decide) (fun c16 => ?_) (fun c16 => ?_)
          · refine k_iinc C dX4_countDefinitions_31 rfl rfl (by rw [hnL]; decide) ?_
            refine j_goto C 4 dX4_countDefinitions_34 (by decide) ?_
            rw [e, show nI m + Int32.ofInt 1 = nI (m + 1) from nI_1 m]
            exact ih (m + 1) (by omega)
          · exact absurd hp c16 -- stop
      | true =>
        rw [hpm] at hp
        obtain ⟨cu, U⟩ := (hM m (by omega)).2 hpm
        have e : nI (cntD PG pr m) + nI (nDf (PG m).1 (PG m).1.length) = nI (cntD PG pr (m + 1)) := by simp only [cntD, hpm, if_true]; exact nI_add _ _
        refine k_iload_n C dX4_countDefinitions_4 rfl ?_
        refine j_bipush (v := 6) C dX4_countDefinitions_5 (by decide) ?_
        refine j_icmp_ge C 37 dX4_countDefinitions_7 (by decide) (fun c7 => ?_) (fun c7 => ?_)
        · exact absurd c7 (nI_ge (a := m) (b := 6) (by omega) (by omega)) -- stop
        · refine k_aload_n C dX4_countDefinitions_10 rfl ?_
          refine j_getr C fX4_19 rfl (by first | decide | omega) (by first | assumption | rfl) (hr.2.2.1) dX4_countDefinitions_11 ?_
          refine k_iload_n C dX4_countDefinitions_14 rfl ?_
          refine j_zald C (by first | decide | omega) (by first | assumption | rfl) (rfl) ((by omega)) (by decide) dX4_countDefinitions_15 ?_
          refine j_if_eq C 31 dX4_countDefinitions_16 (by decide) (fun c16 => ?_) (fun c16 => ?_)
          · rw [hp] at c16; exact absurd c16 (by decide) -- stop
          · refine k_iload_n C dX4_countDefinitions_19 rfl ?_
            refine k_aload_n C dX4_countDefinitions_20 rfl ?_
            refine j_getr C fX4_15 rfl (by first | decide | omega) (by first | assumption | rfl) (hr.2.1) dX4_countDefinitions_21 ?_
            refine k_iload_n C dX4_countDefinitions_24 rfl ?_
            refine j_aald C (t := 3) (by decide) rfl (by first | decide | omega) (by first | assumption | rfl) (rfl) ((by omega)) (by decide) (hr.2.2.2.2.2.2.2.1 m (by omega)) dX4_countDefinitions_25 ?_
            refine k_callV (k := ub (σ m)) (ci := 3) (As := []) C mX4_151 (m_uCount hw hu cu.2.2.2.2.2.1 cu.2.1 (fun i hi => ⟨(cu.2.2.2.2.2.2.1 i hi).1, (U.2.2.2.1 i hi).1.1⟩)) jCl3.1 (by first | decide | omega) (by first | assumption | rfl) rfl rfl (Nat.le_of_ble_eq_true rfl) (jroom hR (by first | decide | omega) (by decide)) dX4_countDefinitions_26 ?_
            rintro v9 h9 ⟨rfl, rfl⟩
            refine j_iadd C dX4_countDefinitions_29 ?_
            rw [e]
            refine k_istore_n C dX4_countDefinitions_30 (by rw [hnL]; decide) ?_
            refine k_iinc C dX4_countDefinitions_31 rfl rfl (by rw [hnL]; decide) ?_
            refine j_goto C 4 dX4_countDefinitions_34 (by decide) ?_
            rw [show nI m + Int32.ofInt 1 = nI (m + 1) from nI_1 m]
            exact ih (m + 1) (by omega)
  show J X w h 0 [(0, .ref (jad w 0))] []
  refine j_iconst (v := 0) C dX4_countDefinitions_0 (by decide) ?_
  refine k_istore_n C dX4_countDefinitions_1 (by rw [hnL]; decide) ?_
  refine j_iconst (v := 0) C dX4_countDefinitions_2 (by decide) ?_
  refine k_istore_n C dX4_countDefinitions_3 (by rw [hnL]; decide) ?_
  exact loop 6 0 rfl
end K2
