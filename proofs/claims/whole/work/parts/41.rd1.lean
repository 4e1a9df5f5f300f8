section RD1
variable {l : Launch} {w : jW} {h0 h : jH} {u : Nat} {t : Nat → Nat} {n : Nat} {hs : List (Nat × Nat × Nat)} {me sg : Nat} {a : Nat} {md : cMd}
theorem ta_sh {s k : Nat} (hs : s < 256) (hk : k ≤ 3) : nI s >>> (((2 : Int32) * nI k) &&& 31) &&& 3 = nI (ta s k) := by
  have h3 : (3 : Int32).toBitVec.toNat = 2 ^ 2 - 1 := by decide
  have key : ∀ j, j ≤ 3 → (((2 : Int32) * nI j) &&& 31).toBitVec.smod 32 = BitVec.ofNat 32 (2 * j) := by decide
  have key2 : ∀ j, j ≤ 3 → (BitVec.ofNat 32 (2 * j)).toNat = 2 * j := by decide
  rw [pk_shrN (by omega) _ (2 * k) (by rw [key k hk, key2 k hk]), pk_andN (by have := Nat.div_le_self s (2 ^ (2 * k)); omega) 2 h3]
  unfold ta
  rw [if_neg (by omega), Nat.pow_mul]
theorem m_typeAt (hw : jok w) {s k : Nat} (hs : s < 256) (hk : k < 1000) : jM l w yX4_typeAt cX4_typeAt 2 (some .int) 0 [.int (nI s), .int (nI k)] h (fun r h' => r = some (.int (nI (ta s k))) ∧ h' = h) := by
  refine jM_of (by decide) hw (Nat.le_of_ble_eq_true rfl) ?_
  intro X C hl hR hnL hrt hE
  have C : jC X w cX4_typeAt RX4 := C
  show J X w h 0 [(0, .int (nI s)), (1, .int (nI k))] []
  refine k_iload_n C dX4_typeAt_0 rfl ?_
  refine j_iconst (v := 3) C dX4_typeAt_1 (by decide) ?_
  refine j_icmp_le C 9 dX4_typeAt_2 (by decide) (fun c2 => ?_) (fun c2 => ?_)
  · rw [show (3 : Int32) = nI 3 from rfl, nI_leI (by omega) (by omega)] at c2
    refine k_iload_n C dX4_typeAt_9 rfl ?_
    refine j_iconst (v := 2) C dX4_typeAt_10 (by decide) ?_
    refine k_iload_n C dX4_typeAt_11 rfl ?_
    refine j_imul C dX4_typeAt_12 ?_
    refine j_ishr C dX4_typeAt_13 ?_
    refine j_iconst (v := 3) C dX4_typeAt_14 (by decide) ?_
    refine j_iand C dX4_typeAt_15 ?_
    first | exact j_iret C hrt hE dX4_typeAt_16 ⟨by unfold ta; rw [if_pos (by omega)]; rfl, rfl⟩ | exact j_iret C hrt hE dX4_typeAt_16 ⟨by rw [ta_sh hs c2], rfl⟩
  · rw [show (3 : Int32) = nI 3 from rfl, nI_leI (by omega) (by omega)] at c2
    refine j_iconst (v := 0) C dX4_typeAt_5 (by decide) ?_
    refine j_goto C 16 dX4_typeAt_6 (by decide) ?_
    first | exact j_iret C hrt hE dX4_typeAt_16 ⟨by unfold ta; rw [if_pos (by omega)]; rfl, rfl⟩ | exact j_iret C hrt hE dX4_typeAt_16 ⟨by rw [ta_sh hs c2], rfl⟩
theorem m_wordsBefore (hw : jok w) {s k : Nat} (hs : s < 256) (hk : k < 100) : jM l w yX4_wordsBefore cX4_wordsBefore 4 (some .int) 1 [.int (nI s), .int (nI k)] h (fun r h' => r = some (.int (nI (wb s k))) ∧ h' = h) := by
  refine jM_of (by decide) hw (Nat.le_of_ble_eq_true rfl) ?_
  intro X C hl hR hnL hrt hE
  subst hl
  have C : jC X w cX4_wordsBefore RX4 := C
  show J X w h 0 [(0, .int (nI s)), (1, .int (nI k))] []
  have loop : ∀ (m i : Nat), i + m = max k 1 → 1 ≤ i → J X w h 4 [(0, .int (nI s)), (1, .int (nI k)), (2, .int (nI (wb s i))), (3, .int (nI i))] [] := by
    intro m
    induction m with
    | zero =>
      intro i hi h1
      have e : wb s i = wb s k := by
        rcases Nat.lt_or_ge k 1 with z | z
        · rw [show k = 0 by omega, show i = 1 by omega]; rfl
        · rw [show i = k by omega]
      refine k_iload_n C dX4_wordsBefore_4 rfl ?_
      refine k_iload_n C dX4_wordsBefore_5 rfl ?_
      refine j_icmp_ge C 23 dX4_wordsBefore_6 (by decide) (fun c6 => ?_) (fun c6 => ?_)
      · refine k_iload_n C dX4_wordsBefore_23 rfl ?_
        exact j_iret C hrt hE dX4_wordsBefore_24 (⟨by rw [e], rfl⟩)
      · exact absurd (nI_le (by omega) (by omega)) c6 -- stop
    | succ m ih =>
      intro i hi h1
      refine k_iload_n C dX4_wordsBefore_4 rfl ?_
      refine k_iload_n C dX4_wordsBefore_5 rfl ?_
      refine j_icmp_ge C 23 dX4_wordsBefore_6 (by decide) (fun c6 => ?_) (fun c6 => ?_)
      · exact absurd c6 (nI_ge (by omega) (by omega)) -- stop
      · refine k_iload_n C dX4_wordsBefore_9 rfl ?_
        refine k_iload_n C dX4_wordsBefore_10 rfl ?_
        refine k_iload_n C dX4_wordsBefore_11 rfl ?_
        refine k_callS (As := [.int (nI s), .int (nI i)]) C mX4_125 (m_typeAt hw hs (k := i) (by omega)) rfl rfl (Nat.le_of_ble_eq_true rfl) (jroom hR (by first | decide | omega) (by decide)) dX4_wordsBefore_12 ?_
        rintro v9 h9 ⟨rfl, rfl⟩
        refine j_iadd C dX4_wordsBefore_15 ?_
        refine k_istore_n C dX4_wordsBefore_16 (by rw [hnL]; decide) ?_
        refine k_iinc C dX4_wordsBefore_17 rfl rfl (by rw [hnL]; decide) ?_
        refine j_goto C 4 dX4_wordsBefore_20 (by decide) ?_
        rw [nI_add, show nI i + Int32.ofInt 1 = nI (i + 1) from nI_1 i]
        have e : wb s (i + 1) = wb s i + ta s i := by simp only [wb]; rw [if_neg (by omega)]
        rw [← e]
        exact ih (i + 1) (by omega) (by omega)
  refine j_iconst (v := 0) C dX4_wordsBefore_0 (by decide) ?_
  refine k_istore_n C dX4_wordsBefore_1 (by rw [hnL]; decide) ?_
  refine j_iconst (v := 1) C dX4_wordsBefore_2 (by decide) ?_
  refine k_istore_n C dX4_wordsBefore_3 (by rw [hnL]; decide) ?_
  exact loop (max k 1 - 1) 1 (by omega) (Nat.le_refl _)
theorem oI_eq {a b : Nat} (ha : a < 1000) (hb : b < 1000) : oI a = oI b ↔ a = b := by
  unfold oI
  constructor
  · intro q
    have : nI a = nI b := by
      have := congrArg (fun z : Int32 => z + 1) q
      simpa using this
    exact (nI_eq (by omega) (by omega)).mp this
  · intro q; rw [q]
/-- the compiler looks a call's head up -/
theorem lkp_find : ∀ (l : List (Nat × Nat × Nat)) (o m : Nat), (lkp l o m = none ∧ ∀ i (hi : i < l.length), ¬ ((l[i]).1 = o ∧ (l[i]).2.1 = m)) ∨ ∃ i, ∃ hi : i < l.length, ((l[i]).1 = o ∧ (l[i]).2.1 = m) ∧ lkp l o m = some (l[i]).2.2 ∧ ∀ k (hk : k < i), ¬ ((l[k]'(by omega)).1 = o ∧ (l[k]'(by omega)).2.1 = m)
  | [], o, m => Or.inl ⟨rfl, fun i hi => absurd hi (Nat.not_lt_zero _)⟩
  | q :: l, o, m => by
    unfold lkp
    by_cases c : q.1 = o ∧ q.2.1 = m
    · refine Or.inr ⟨0, by simp, by simpa using c, by simp [c], fun k hk => absurd hk (Nat.not_lt_zero _)⟩
    · rw [if_neg c]
      rcases lkp_find l o m with ⟨h1, h2⟩ | ⟨i, hi, h1, h2, h3⟩
      · refine Or.inl ⟨h1, fun i hi => ?_⟩
        cases i with
        | zero => simpa using c
        | succ i => simpa using h2 i (by simpa using hi)
      · refine Or.inr ⟨i + 1, by simpa using hi, by simpa using h1, by simpa using h2, fun k hk => ?_⟩
        cases k with
        | zero => simpa using c
        | succ k => simpa using h3 k (by omega)
theorem t_find (hw : jok w) (hS : cS h0 u t n hs me sg) (hc : cAt h0 h u n a md) {o m : Nat} (ho : o ≤ 6) (hm : m < 26) : jM l w yX3_find cX3_find 4 (some (.object "ModuleLinker$Item")) 0 [.ref (jad w (ub u)), .int (oI o), .int (nI m)] h (fun r h' => h' = h ∧ ((lkp hs o m = none ∧ r = some .null) ∨ ∃ i s, i < 6 ∧ lkp hs o m = some s ∧ s < 256 ∧ h.1 (ub u + 3 + i) 2 = nI s ∧ r = some (.ref (jad w (ub u + 3 + i))))) := by
  obtain ⟨tw, yw, hd, rm, c, F, h1, h2⟩ := cAt_any hc
  obtain ⟨s1, s2, s3, s4, s5, s6, s7, s8, s9, s10⟩ := id hS
  have hb := ub_in s1.1
  have e1 : h.1 (ub u) 1 = nI hs.length := by rw [h2.1.2 (ub u) 1 (by omega) (by omega) (by omega)]; exact s6
  have e2 : ∀ i, i < hs.length → ∀ j, h.1 (ub u + 3 + i) j = h0.1 (ub u + 3 + i) j := fun i hi j => h2.1.2 _ _ (by omega) (by omega) (by omega)
  have e3 : ∀ i (hi : i < hs.length), fitI h u (oI o) (nI m) i ↔ ((hs[i]).1 = o ∧ (hs[i]).2.1 = m) := by
    intro i hi
    obtain ⟨q1, q2, q3, q4, q5, q6⟩ := s8 i hi
    unfold fitI
    rw [e2 i hi, e2 i hi, q1, q2, oI_eq (by omega) (by omega), nI_eq (by omega) (by omega)]
  refine jM_mono (m_find hw (FrUr h2.1 s1) e1 s7 (oI o) (nI m)) ?_
  rintro v h' ⟨rfl, hh⟩
  refine ⟨rfl, ?_⟩
  rcases lkp_find hs o m with ⟨g1, g2⟩ | ⟨i, hi, g1, g2, g3⟩
  · rcases hh with ⟨i, hi, hf, -⟩ | ⟨-, hr⟩
    · exact absurd ((e3 i hi).mp hf) (g2 i hi)
    · exact Or.inl ⟨g1, hr⟩
  · rcases hh with ⟨k, hk, hf, hno, hr⟩ | ⟨hno, hr⟩
    · have hki : k = i := by
        rcases Nat.lt_trichotomy k i with z | z | z
        · exact absurd ((e3 k hk).mp hf) (g3 k z)
        · exact z
        · exact absurd ((e3 i hi).mpr g1) (hno i z)
      subst hki
      obtain ⟨q1, q2, q3, q4, q5, q6⟩ := s8 k hk
      exact Or.inr ⟨k, _, by omega, g2, q6, by rw [e2 k hk, q3], hr⟩
    · exact absurd ((e3 i hi).mpr g1) (hno i hi)
end RD1
