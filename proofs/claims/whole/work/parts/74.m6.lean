section M6
variable {l : Launch} {w : jW} {h : jH} {PG : Nat → PU} {sz : Nat} {a0 : List Int32} {pr : Nat → Bool} {σ : Nat → Nat} {y0 H b u nx fl tk mx : Nat} {V : List Int32}
/-- what is left to be worked off of the class's code -/
def cme (PG : Nat → PU) : List Fm → Nat
  | [] => 0
  | f :: fs => (cpos (PG f.1).2.1 - Pc (PG f.1).2.1 f.2.2.1) + cme PG fs
theorem Pc_mono {ev : List Ev} {a b : Nat} (h : a ≤ b) : Pc ev a ≤ Pc ev b := by
  obtain ⟨d, rfl⟩ : ∃ d, b = a + d := ⟨b - a, by omega⟩
  clear h
  induction d with
  | zero => exact Nat.le_refl _
  | succ d ih =>
    refine Nat.le_trans ih ?_
    by_cases c : a + d < ev.length
    · have := Pc_s (List.getElem?_eq_getElem c); rw [← Nat.add_assoc]; omega
    · unfold Pc; rw [List.take_of_length_le (by omega), List.take_of_length_le (by omega)]; exact Nat.le_refl _
/-- the class's code goes by, one word a step -/
theorem cme_next (hL : lnk PG pr) {s s' : ES} {m i p : Nat} {A T : List Int32} {fs : List Fm} {e : Ev} (h : EI PG sz a0 pr y0 s) (hf : s.2.2.2.1 = (m, i, p, A, T) :: fs) (he : (PG m).2.1[p]? = some e) (hs : eStep PG sz a0 s = .inl s') : 240 * s'.1 + cme PG s'.2.2.2.1 + kcl e ≤ 240 * s.1 + cme PG s.2.2.2.1 := by
  obtain ⟨fl, tk, mx, fs', V⟩ := s
  dsimp only at hf
  subst hf
  have hc := EI_cases h rfl he
  have hP := Pc_s he
  have hP2 := Pc_le (ev := (PG m).2.1) (p := p + 1)
  unfold eStep at hs
  simp only [he] at hs
  rcases hc with ⟨rfl, rfl, hV⟩ | ⟨Z, hZ, hb, hpZ, hok, -, -⟩
  · simp only at hs
    rcases fs with _ | ⟨⟨m2, i2, p2, A2, T2⟩, gs⟩
    · cases hs
    · simp only [Sum.inl.injEq] at hs
      subst hs
      simp only [cme]
      omega
  · obtain ⟨k, o, hd, cw⟩ := e
    unfold okE at hok
    dsimp only at hok hs
    split at hok
    case h_12 =>
      simp only [Sum.inl.injEq] at hs; subst hs
      obtain ⟨q1, q2, q3, q4, q5⟩ := hok
      have hPo := Pc_mono (ev := (PG m).2.1) (a := p + 1) (b := o) (by omega)
      have hPl := Pc_le (ev := (PG m).2.1) (p := o)
      by_cases c : V.getD 0 0 = 0
      · simp only [c, if_true, cme]; omega
      · simp only [c, if_false, cme]; omega
    case h_13 =>
      simp only [Sum.inl.injEq] at hs; subst hs
      obtain ⟨q1, q2, q3⟩ := hok
      have hPo := Pc_mono (ev := (PG m).2.1) (a := p + 1) (b := o) (by omega)
      have hPl := Pc_le (ev := (PG m).2.1) (p := o)
      simp only [cme]; omega
    case h_14 =>
      obtain ⟨q1, o', nm, s', rfl, q3, q4, q5, q6⟩ := hok
      obtain ⟨f1, f2, f3, f4, f5, f6⟩ := h.1
      obtain ⟨j, j1, j2, hj, j3, j4, j5⟩ := (hL m f1 f2).2 o' nm s' q4
      have U3 := (hL _ j1 j2).1
      have ed : dfx (PG (calM m (o' * 26 + nm))).1 ((o' * 26 + nm) % 26) = some j := by
        rw [show (o' * 26 + nm) % 26 = nm by omega]
        exact dfx_dst U3.2.2.1 hj j3 j4
      rw [ed] at hs
      simp only at hs
      unfold eEnter at hs
      dsimp only at hs
      split at hs
      · cases hs
      · split at hs
        · cases hs
        · simp only [Sum.inl.injEq] at hs
          subst hs
          have l2 := U3.2.2.2.2.1
          simp only [cme]
          omega
    case h_15 => exact hok.elim
    all_goals
      simp only [Sum.inl.injEq] at hs; subst hs
      simp only [cme]; omega
/-- fuel and the most words stay in their bounds -/
theorem eEnter_bd {s : ES} {m j : Nat} : (∀ s', eEnter PG sz a0 m j s = .inl s' → s'.1 + s'.2.1 = s.1 + s.2.1 ∧ s'.2.2.1 ≤ max s.2.2.1 sz) ∧ ∀ q, eEnter PG sz a0 m j s = .inr q → q.1 ≠ 0 ∧ q.2.2.2.1 ≤ max s.2.2.1 sz := by
  unfold eEnter
  refine ⟨fun s' hs => ?_, fun q hs => ?_⟩
  · split at hs
    · cases hs
    · split at hs
      · cases hs
      · simp only [Sum.inl.injEq] at hs; subst hs; dsimp only; omega
  · split at hs
    · simp only [Sum.inr.injEq] at hs; subst hs; dsimp only; omega
    · split at hs
      · simp only [Sum.inr.injEq] at hs; subst hs; dsimp only; omega
      · cases hs
theorem eStep_bd (hL : lnk PG pr) {s : ES} (h : EI PG sz a0 pr y0 s) : (∀ s', eStep PG sz a0 s = .inl s' → s'.1 + s'.2.1 = s.1 + s.2.1 ∧ s'.2.2.1 ≤ max s.2.2.1 sz) ∧ ∀ q, eStep PG sz a0 s = .inr q → (q.1 = 0 → q.2.2.2.2.2.length = y0) ∧ q.2.2.2.1 ≤ max s.2.2.1 sz := by
  obtain ⟨fl, tk, mx, fs, V⟩ := s
  rcases fs with _ | ⟨⟨m, i, p, A, T⟩, fs⟩
  · exact h.elim
  · obtain ⟨e, he, g1, g2⟩ := EI_ev h rfl
    have hc := EI_cases h rfl he
    unfold eStep
    simp only [he]
    rcases hc with ⟨rfl, rfl, hV⟩ | ⟨Z, hZ, hb, hpZ, hok, -, -⟩
    · simp only
      rcases fs with _ | ⟨⟨m2, i2, p2, A2, T2⟩, gs⟩
      · refine ⟨fun s' hs => (by cases hs), fun q hs => ?_⟩
        simp only [Sum.inr.injEq] at hs; subst hs
        have := h.2.2.2.2.2
        exact ⟨fun _ => hV.trans this, by dsimp only; omega⟩
      · refine ⟨fun s' hs => ?_, fun q hs => (by cases hs)⟩
        simp only [Sum.inl.injEq] at hs; subst hs
        exact ⟨rfl, by dsimp only; omega⟩
    · obtain ⟨k, o, hd, cw⟩ := e
      unfold okE at hok
      dsimp only at hok ⊢
      split at hok
      case h_14 =>
        obtain ⟨q1, o', nm, s', rfl, q3, q4, q5, q6⟩ := hok
        obtain ⟨f1, f2, f3, f4, f5, f6⟩ := h.1
        obtain ⟨j, j1, j2, hj, j3, j4, j5⟩ := (hL m f1 f2).2 o' nm s' q4
        have U3 := (hL _ j1 j2).1
        have ed : dfx (PG (calM m (o' * 26 + nm))).1 ((o' * 26 + nm) % 26) = some j := by
          rw [show (o' * 26 + nm) % 26 = nm by omega]
          exact dfx_dst U3.2.2.1 hj j3 j4
        rw [ed]
        simp only
        have := eEnter_bd (PG := PG) (sz := sz) (a0 := a0) (m := calM m (o' * 26 + nm)) (j := j) (s := (fl, tk, mx, (m, i, p + 1, A, T) :: fs, []))
        exact ⟨this.1, fun q hq => ⟨fun z => absurd z (this.2 q hq).1, (this.2 q hq).2⟩⟩
      case h_15 => exact hok.elim
      all_goals
        refine ⟨fun s' hs => ?_, fun q hs => (by cases hs)⟩
        simp only [Sum.inl.injEq] at hs; subst hs
        exact ⟨rfl, by dsimp only; omega⟩
/-- a call, without machine -/
def eGo (PG : Nat → PU) (sz : Nat) (a0 : List Int32) (r : ES ⊕ (Nat × ES)) : Nat × ES := match r with
  | .inr q => q
  | .inl s => (eRun PG sz a0 (400 * s.1 + mea PG s.2.2.2.1 + 1) s).getD (3, s)
def eCall (PG : Nat → PU) (sz : Nat) (a0 : List Int32) (m j fl : Nat) : Nat × ES := eGo PG sz a0 (eEnter PG sz a0 m j (fl, 0, 0, [], []))
def mF2 (h h' : jH) : Prop := (∀ k j, ¬ (k = 68 ∧ (j = 5 ∨ j = 1)) → h'.2.1 k j = h.2.1 k j) ∧ h'.2.2 = h.2.2 ∧ ∀ k j, k ≠ 69 → ¬ (k = 68 ∧ j ≠ 0) → h'.1 k j = h.1 k j
/-- what a call leaves -/
def rnP (h' : jH) (q : Nat × ES) (y : Nat) : Prop := h'.1 68 11 = nI q.2.2.2.1 ∧ h'.1 68 12 = nI q.2.2.1 ∧ h'.1 68 13 = (if q.1 = 0 then q.2.2.2.2.2.getD 0 0 else 0) ∧ h'.1 68 14 = (if q.1 = 0 ∧ y = 2 then q.2.2.2.2.2.getD 1 0 else 0)
theorem c_run (hw : jok w) (hL : lnk PG pr) (hS : mS PG sz pr σ (h.1, up2 h.2.1 68 1 (some 2), h.2.2)) {m j fl0 : Nat} (hm : m < 6 ∧ pr m = true) (hj : j < (PG m).1.length) (h0 : ((PG m).1[j]).1 = 0) (hfl : fl0 ≤ 3000) (ha0 : a0.length = wb (sgo PG m j) 4) (ha5 : a0.length ≤ 4) (hst : ∀ k, k < a0.length → h.1 69 k = a0.getD k 0) : jM l w yX2_run cX2_run 6 (some .int) 4 [.ref (jad w 68), .ref (jad w 2), .int (nI m), .ref (jad w (ub (σ m) + 3 + j)), .int (nI fl0)] h (fun r h' => r = some (.int (nI (eCall PG sz a0 m j fl0).1)) ∧ mF2 h h' ∧ rnP h' (eCall PG sz a0 m j fl0) (ta (sgo PG m j) 0)) := by
  refine jM_of (by decide) hw (Nat.le_of_ble_eq_true rfl) ?_
  intro X C hl hR hnL hrt hE
  subst hl
  have C : jC X w cX2_run RX2 := C
  have hu := hS.2.2.2.2.1 m hm.1
  obtain ⟨c1, c2, c3, c4, c5, c6, c7, c8⟩ := hS.2.2.2.2.2 m hm.1 hm.2
  have U := (hL m hm.1 hm.2).1
  obtain ⟨k3, k4, k5, k6, k7⟩ := jk_unit (σ m) hu.2.1
  have hub := ub_in hu.2.1
  have hj6 : j < 6 := by have := U.1; omega
  have k8 := k7 j hj6
  have eg := gtD hj
  obtain ⟨r1, r2⟩ := (c8 (Pc (PG m).2.1) rfl (cmp_P0 _)).2 j hj h0
  have r3 := (c7 j hj).2.2.2.1
  have r4 := (c7 j hj).2.2.1
  have hrm := (puOk_at U hj h0).1
  have hsg := (U.2.2.2.1 j hj).1.2.2.1
  have hty := (U.2.2.2.1 j hj).1.2.2.2.2.1
  have esg : (((PG m).1)[j]).2.2.1 = sgo PG m j := by unfold sgo; rw [eg]
  rw [esg] at r3 r4 hsg hty
  have hsz := hS.2.2.2.1
  show J X w h 0 [(0, .ref (jad w 68)), (1, .ref (jad w 2)), (2, .int (nI m)), (3, .ref (jad w (ub (σ m) + 3 + j))), (4, .int (nI fl0))] []
  have fin : ∀ (h2 : jH) (i : Nat) (q : Nat × ES), mE h2 q.1 q.2 → q.1 ≤ 2 → (q.1 = 0 → q.2.2.2.2.2.length = ta (sgo PG m j) 0) → mF2 h h2 → eCall PG sz a0 m j fl0 = q → J X w h2 76 [(0, .ref (jad w 68)), (1, .ref (jad w 2)), (2, .int (nI m)), (3, .ref (jad w (ub (σ m) + 3 + j))), (4, .int (nI fl0)), (5, .int (nI i))] [] := by
    intro h2 i q hM hq hV hF e
    obtain ⟨a1, a2, a3, a4⟩ := hM
    have hsi : h2.1 (ub (σ m) + 3 + j) 2 = nI (sgo PG m j) := by rw [hF.2.2 _ _ (by omega) (by omega)]; exact r4
    by_cases z : q.1 = 0
    · have v0 := (a4 z).1 (by rw [hV z]; omega)
      have a1' : h2.1 68 10 = 0 := by rw [a1, z]; rfl
      refine k_aload_n C dX2_run_76 rfl ?_
      refine j_geti C fX2_43 rfl (by first | decide | omega) (by first | assumption | rfl) dX2_run_77 ?_
      refine j_if_ne C 87 dX2_run_80 (by decide) (fun c80 => ?_) (fun c80 => ?_)
      · exact absurd a1' c80 -- stop
      · refine j_iconst (v := 1) C dX2_run_83 (by decide) ?_
        refine j_goto C 88 dX2_run_84 (by decide) ?_
        refine k_istore C dX2_run_88 (by rw [hnL]; decide) ?_
        refine k_aload_n C dX2_run_90 rfl ?_
        refine k_iload C dX2_run_91 rfl ?_
        refine j_if_eq C 103 dX2_run_93 (by decide) (fun c93 => ?_) (fun c93 => ?_)
        · exact absurd c93 (by decide) -- stop
        · refine k_aload_n C dX2_run_96 rfl ?_
          refine j_geti C fX2_54 rfl (by first | decide | omega) (by first | assumption | rfl) dX2_run_97 ?_
          refine j_goto C 104 dX2_run_100 (by decide) ?_
          rw [v0]
          refine j_puti C fX2_57 rfl rfl (by first | decide | omega) (by first | assumption | rfl) dX2_run_104 ?_
          refine k_aload_n C dX2_run_107 rfl ?_
          refine k_iload C dX2_run_108 rfl ?_
          refine j_if_eq C 132 dX2_run_110 (by decide) (fun c110 => ?_) (fun c110 => ?_)
          · exact absurd c110 (by decide) -- stop
          · refine k_aload_n C dX2_run_113 rfl ?_
            refine j_geti C fX2_60 rfl (by first | decide | omega) (by first | assumption | rfl) dX2_run_114 ?_
            rw [show ((up2 h2.1 68 13 (q.2.2.2.2.2.getD 0 0), h2.2) : jH).1 (ub (σ m) + 3 + j) 2 = nI (sgo PG m j) from by rw [← hsi]; exact up2_n (by omega)]
            refine j_iconst (v := nI 0) C dX2_run_117 (by decide) ?_
            refine k_callS (As := [.int (nI (sgo PG m j)), .int (nI 0)]) C mX2_63 (m_typeAt hw hsg (k := 0) (by omega)) rfl rfl (Nat.le_of_ble_eq_true rfl) (jroom hR (by first | decide | omega) (by decide)) dX2_run_118 ?_
            rintro v9 h9 ⟨rfl, rfl⟩
            refine j_iconst (v := 2) C dX2_run_121 (by decide) ?_
            refine j_icmp_ne C 132 dX2_run_122 (by decide) (fun c122 => ?_) (fun c122 => ?_)
            · have c122' : ¬ ta (sgo PG m j) 0 = 2 := fun y => c122 (by rw [y]; rfl)
              refine j_iconst (v := 0) C dX2_run_132 (by decide) ?_
              first | (rw [show ((up2 h2.1 68 13 (q.2.2.2.2.2.getD 0 0), h2.2) : jH).1 68 8 = q.2.2.2.2.2.getD 1 0 from by rw [← (a4 z).2 (by rw [hV z]; omega)]; simp [up2]]; refine j_puti C fX2_70 rfl rfl (by decide) rfl dX2_run_133 ?_; refine k_aload_n C dX2_run_136 rfl ?_; refine j_geti C fX2_43 rfl (by decide) rfl dX2_run_137 ?_; exact j_iret C hrt hE dX2_run_140 ⟨by rw [e, z]; simp [up2, a1']; rfl, ⟨hF.1, hF.2.1, fun k y z1 z2 => by dsimp only; rw [up2_n (by omega), up2_n (by omega)]; exact hF.2.2 k y z1 z2⟩, by rw [e]; exact ⟨by simpa [up2] using a2, by simpa [up2] using a3, by simp [up2, z], by simp [up2, z, c122']⟩⟩) | (refine j_puti C fX2_70 rfl rfl (by decide) rfl dX2_run_133 ?_; refine k_aload_n C dX2_run_136 rfl ?_; refine j_geti C fX2_43 rfl (by decide) rfl dX2_run_137 ?_; exact j_iret C hrt hE dX2_run_140 ⟨by rw [e, z]; simp [up2, a1']; rfl, ⟨hF.1, hF.2.1, fun k y z1 z2 => by dsimp only; rw [up2_n (by omega), up2_n (by omega)]; exact hF.2.2 k y z1 z2⟩, by rw [e]; exact ⟨by simpa [up2] using a2, by simpa [up2] using a3, by simp [up2, z], by simp [up2, c122']⟩⟩)
            · have c122' : ta (sgo PG m j) 0 = 2 := by rcases hty with y | y; (rw [y] at c122; exact absurd c122 (by decide)); exact y
              refine k_aload_n C dX2_run_125 rfl ?_
              refine j_geti C fX2_67 rfl (by first | decide | omega) (by first | assumption | rfl) dX2_run_126 ?_
              refine j_goto C 133 dX2_run_129 (by decide) ?_
              first | (rw [show ((up2 h2.1 68 13 (q.2.2.2.2.2.getD 0 0), h2.2) : jH).1 68 8 = q.2.2.2.2.2.getD 1 0 from by rw [← (a4 z).2 (by rw [hV z]; omega)]; simp [up2]]; refine j_puti C fX2_70 rfl rfl (by decide) rfl dX2_run_133 ?_; refine k_aload_n C dX2_run_136 rfl ?_; refine j_geti C fX2_43 rfl (by decide) rfl dX2_run_137 ?_; exact j_iret C hrt hE dX2_run_140 ⟨by rw [e, z]; simp [up2, a1']; rfl, ⟨hF.1, hF.2.1, fun k y z1 z2 => by dsimp only; rw [up2_n (by omega), up2_n (by omega)]; exact hF.2.2 k y z1 z2⟩, by rw [e]; exact ⟨by simpa [up2] using a2, by simpa [up2] using a3, by simp [up2, z], by simp [up2, z, c122']⟩⟩) | (refine j_puti C fX2_70 rfl rfl (by decide) rfl dX2_run_133 ?_; refine k_aload_n C dX2_run_136 rfl ?_; refine j_geti C fX2_43 rfl (by decide) rfl dX2_run_137 ?_; exact j_iret C hrt hE dX2_run_140 ⟨by rw [e, z]; simp [up2, a1']; rfl, ⟨hF.1, hF.2.1, fun k y z1 z2 => by dsimp only; rw [up2_n (by omega), up2_n (by omega)]; exact hF.2.2 k y z1 z2⟩, by rw [e]; exact ⟨by simpa [up2] using a2, by simpa [up2] using a3, by simp [up2, z], by simp [up2, c122']⟩⟩)
    · have a1' : ¬ h2.1 68 10 = 0 := fun y => z ((nI_eq (b := 0) (by omega) (by omega)).mp (a1.symm.trans y))
      refine k_aload_n C dX2_run_76 rfl ?_
      refine j_geti C fX2_43 rfl (by first | decide | omega) (by first | assumption | rfl) dX2_run_77 ?_
      refine j_if_ne C 87 dX2_run_80 (by decide) (fun c80 => ?_) (fun c80 => ?_)
      · refine j_iconst (v := 0) C dX2_run_87 (by decide) ?_
        refine k_istore C dX2_run_88 (by rw [hnL]; decide) ?_
        refine k_aload_n C dX2_run_90 rfl ?_
        refine k_iload C dX2_run_91 rfl ?_
        refine j_if_eq C 103 dX2_run_93 (by decide) (fun c93 => ?_) (fun c93 => ?_)
        · refine j_iconst (v := 0) C dX2_run_103 (by decide) ?_
          refine j_puti C fX2_57 rfl rfl (by first | decide | omega) (by first | assumption | rfl) dX2_run_104 ?_
          refine k_aload_n C dX2_run_107 rfl ?_
          refine k_iload C dX2_run_108 rfl ?_
          refine j_if_eq C 132 dX2_run_110 (by decide) (fun c110 => ?_) (fun c110 => ?_)
          · refine j_iconst (v := 0) C dX2_run_132 (by decide) ?_
            refine j_puti C fX2_70 rfl rfl (by first | decide | omega) (by first | assumption | rfl) dX2_run_133 ?_
            refine k_aload_n C dX2_run_136 rfl ?_
            refine j_geti C fX2_43 rfl (by first | decide | omega) (by first | assumption | rfl) dX2_run_137 ?_
            exact j_iret C hrt hE dX2_run_140 (⟨by rw [e]; simpa [up2] using a1, ⟨hF.1, hF.2.1, fun k y z1 z2 => by dsimp only; rw [up2_n (by omega), up2_n (by omega)]; exact hF.2.2 k y z1 z2⟩, by rw [e]; exact ⟨by simpa [up2] using a2, by simpa [up2] using a3, by simp [up2, z], by simp [up2, z]⟩⟩)
          · exact absurd rfl c110 -- stop
        · exact absurd rfl c93 -- stop
      · exact absurd c80 a1' -- stop
  have ended : ∀ (h2 : jH) (i : Nat) (q : Nat × ES), i < 1000000 → mE h2 q.1 q.2 → q.1 ≤ 2 → (q.1 = 0 → q.2.2.2.2.2.length = ta (sgo PG m j) 0) → mF2 h h2 → eCall PG sz a0 m j fl0 = q → J X w h2 51 [(0, .ref (jad w 68)), (1, .ref (jad w 2)), (2, .int (nI m)), (3, .ref (jad w (ub (σ m) + 3 + j))), (4, .int (nI fl0)), (5, .int (nI i))] [] := by
    intro h2 i q hi hM hq hV hF e
    have a1 : ¬ h2.1 68 10 = 3 := fun y => by have := (nI_eq (b := 3) (by omega) (by omega)).mp (hM.1.symm.trans y); omega
    refine k_iload C dX2_run_51 rfl ?_
    refine j_ldc (v := 720240) C (rin_22 _ (List.mem_of_getElem? (i := 19) rfl)) dX2_run_53 ?_
    refine j_icmp_ge C 76 dX2_run_55 (by decide) (fun c55 => ?_) (fun c55 => ?_)
    · exact fin h2 i q hM hq hV hF e
    · refine k_aload_n C dX2_run_58 rfl ?_
      refine j_geti C fX2_43 rfl (by first | decide | omega) (by first | assumption | rfl) dX2_run_59 ?_
      refine j_iconst (v := 3) C dX2_run_62 (by decide) ?_
      refine j_icmp_ne C 76 dX2_run_63 (by decide) (fun c63 => ?_) (fun c63 => ?_)
      · exact fin h2 i q hM hq hV hF e
      · exact absurd c63 a1 -- stop
  have loop : ∀ (k : Nat) (s : ES) (h2 : jH) (i : Nat) (q : Nat × ES), eRun PG sz a0 k s = some q → EI PG sz a0 pr (ta (sgo PG m j) 0) s → mR PG a0 σ h2 s → mS PG sz pr σ h2 → s.1 + s.2.1 ≤ 3000 → s.2.2.1 ≤ 500 → i + (240 * s.1 + cme PG s.2.2.2.1) ≤ 720240 → mF2 h h2 → eCall PG sz a0 m j fl0 = q → J X w h2 51 [(0, .ref (jad w 68)), (1, .ref (jad w 2)), (2, .int (nI m)), (3, .ref (jad w (ub (σ m) + 3 + j))), (4, .int (nI fl0)), (5, .int (nI i))] [] := by
    intro k
    induction k with
    | zero => intro s h2 i q hr; cases hr
    | succ k ih =>
      intro s h2 i q hr hI hM hS2 hfu hmx hi hF e
      obtain ⟨fl, tk, mx, fs, V⟩ := s
      rcases fs with _ | ⟨⟨m2, i2, p2, A2, T2⟩, fs⟩
      · exact hI.elim
      · obtain ⟨ev, he, g1, g2⟩ := EI_ev hI rfl
        dsimp only at hfu hmx hi g1 g2
        have hbd := eStep_bd hL hI
        unfold eRun at hr
        by_cases h9 : ev.1 = 9
        · have hok := EI_cases hI rfl he
          obtain ⟨kk, o, hd, cw⟩ := ev
          dsimp only at h9 g1 g2
          subst h9
          rcases hok with ⟨z, -⟩ | ⟨Z, hZ, hb, hpZ, hok, -, -⟩
          · cases z
          · have es : eStep PG sz a0 (fl, tk, mx, (m2, i2, p2, A2, T2) :: fs, V) = .inl (fl, tk, mx, (m2, i2, p2 + 1, A2, T2) :: fs, [V.getD 0 0]) := by unfold eStep; simp only [he]
            rw [es] at hr
            have hn := EI_next hL hI es
            have hc := cme_next hL hI rfl he es
            have hk0 : kcl (9, o, hd, cw) = 0 := rfl
            rw [hk0] at hc
            have hP1 : Pc (PG m2).2.1 (p2 + 1) = Pc (PG m2).2.1 p2 := by rw [Pc_s he, hk0]; rfl
            obtain ⟨hV, hcs⟩ := hM
            have hok1 : cw = 2 := hok.1
            refine ih _ h2 i q hr hn ⟨?_, hcs⟩ hS2 hfu hmx (by dsimp only at hc ⊢; omega) hF e
            show mV h2 _ _ _ (Pc (PG m2).2.1 (p2 + 1)) _ _ _ _
            rw [hP1]
            obtain ⟨a1, a2, a3, a4, a5, a6, a7, a8, a9, aA⟩ := hV
            exact ⟨a1, a2, a3, a4, fun _ => a5 (by dsimp only; omega), (fun z => by simp at z), a7, a8, a9, aA⟩
        · have k1 : kcl ev = 1 := by unfold kcl; rw [if_neg h9]
          have hlt := Pc_lt he h9
          have hcm : cme PG ((m2, i2, p2, A2, T2) :: fs) = (cpos (PG m2).2.1 - Pc (PG m2).2.1 p2) + cme PG fs := rfl
          have hrun : h2.1 68 10 = 3 := hM.1.2.2.2.2.2.2.2.1
          refine k_iload C dX2_run_51 rfl ?_
          refine j_ldc (v := 720240) C (rin_22 _ (List.mem_of_getElem? (i := 19) rfl)) dX2_run_53 ?_
          refine j_icmp_ge C 76 dX2_run_55 (by decide) (fun c55 => ?_) (fun c55 => ?_)
          · exact absurd c55 (nI_ge (a := i) (b := 720240) (by omega) (by omega)) -- stop
          · refine k_aload_n C dX2_run_58 rfl ?_
            refine j_geti C fX2_43 rfl (by first | decide | omega) (by first | assumption | rfl) dX2_run_59 ?_
            refine j_iconst (v := 3) C dX2_run_62 (by decide) ?_
            refine j_icmp_ne C 76 dX2_run_63 (by decide) (fun c63 => ?_) (fun c63 => ?_)
            · exact absurd hrun c63 -- stop
            · refine k_aload_n C dX2_run_66 rfl ?_
              refine k_callV (k := 68) (ci := 2) (As := []) C mX2_51 (c_step hw hL hS2 hI hM hfu hmx he h9) jCl2.1 (by first | decide | omega) (by first | assumption | rfl) rfl rfl (Nat.le_of_ble_eq_true rfl) (jroom hR (by first | decide | omega) (by decide)) dX2_run_67 ?_
              rintro v9 h9' ⟨rfl, hF9, hst9⟩
              refine k_iinc C dX2_run_70 rfl rfl (by rw [hnL]; decide) ?_
              refine j_goto C 51 dX2_run_73 (by decide) ?_
              rw [show nI i + Int32.ofInt 1 = nI (i + 1) from nI_1 i]
              have hF2 : mF2 h h9' := ⟨fun k' y z => by rw [hF9.1 k' y (by omega)]; exact hF.1 k' y z, by rw [hF9.2.1]; exact hF.2.1, fun k' y z1 z2 => by rw [hF9.2.2 k' y z1 z2]; exact hF.2.2 k' y z1 z2⟩
              cases es : eStep PG sz a0 (fl, tk, mx, (m2, i2, p2, A2, T2) :: fs, V) with
              | inr q' =>
                rw [es] at hr hst9
                simp only [Option.some.injEq] at hr
                subst hr
                exact ended h9' (i + 1) q' (by omega) hst9.1 hst9.2 ((hbd.2 q' es).1) hF2 e
              | inl s' =>
                rw [es] at hr hst9
                have hc := cme_next hL hI rfl he es
                have hb := hbd.1 s' es
                dsimp only at hb hc
                exact ih s' h9' (i + 1) q hr (EI_next hL hI es) hst9 (mS_keep hF9 hS2) (by omega) (by omega) (by omega) hF2 e
  refine k_aload_n C dX2_run_0 rfl ?_
  refine k_aload_n C dX2_run_1 rfl ?_
  refine j_putr C fX2_19 rfl rfl (by first | decide | omega) (by first | assumption | rfl) (fun _ => ⟨rfl, rfl⟩) dX2_run_2 ?_
  refine k_aload_n C dX2_run_5 rfl ?_
  refine k_aload_n C dX2_run_6 rfl ?_
  refine j_geti C fX2_23 rfl (by first | decide | omega) (by first | assumption | rfl) dX2_run_7 ?_
  refine jeq (congrArg (fun z => [Value.int z, Value.ref (jad w 68)]) (show h.1 (ub (σ m) + 3 + j) 3 = nI (wb (sgo PG m j) 4) from r3)) ?_
  refine j_puti C fX2_28 rfl rfl (by first | decide | omega) (by first | assumption | rfl) dX2_run_10 ?_
  refine k_aload_n C dX2_run_13 rfl ?_
  refine j_iconst (v := 0) C dX2_run_14 (by decide) ?_
  refine j_puti C fX2_31 rfl rfl (by first | decide | omega) (by first | assumption | rfl) dX2_run_15 ?_
  refine k_aload_n C dX2_run_18 rfl ?_
  refine k_iload C dX2_run_19 rfl ?_
  refine j_puti C fX2_34 rfl rfl (by first | decide | omega) (by first | assumption | rfl) dX2_run_21 ?_
  refine k_aload_n C dX2_run_24 rfl ?_
  refine j_iconst (v := 0) C dX2_run_25 (by decide) ?_
  refine j_puti C fX2_37 rfl rfl (by first | decide | omega) (by first | assumption | rfl) dX2_run_26 ?_
  refine k_aload_n C dX2_run_29 rfl ?_
  refine j_iconst (v := 0) C dX2_run_30 (by decide) ?_
  refine j_puti C fX2_40 rfl rfl (by first | decide | omega) (by first | assumption | rfl) dX2_run_31 ?_
  refine k_aload_n C dX2_run_34 rfl ?_
  refine j_iconst (v := 3) C dX2_run_35 (by decide) ?_
  refine j_puti C fX2_43 rfl rfl (by first | decide | omega) (by first | assumption | rfl) dX2_run_36 ?_
  obtain ⟨h1, eh1⟩ : ∃ h1 : jH, h1 = (up2 (up2 (up2 (up2 (up2 (up2 h.1 68 3 (nI (wb (sgo PG m j) 4))) 68 4 0) 68 9 (nI fl0)) 68 11 0) 68 12 0) 68 10 3, up2 h.2.1 68 1 (some 2), h.2.2) := ⟨_, rfl⟩
  refine jeqh eh1.symm ?_
  have hF1 : mF (h.1, up2 h.2.1 68 1 (some 2), h.2.2) h1 := by rw [eh1]; exact ⟨fun _ _ _ => rfl, rfl, fun k y z1 z2 => by dsimp only; rw [up2_n (by omega), up2_n (by omega), up2_n (by omega), up2_n (by omega), up2_n (by omega), up2_n (by omega)]⟩
  have hS1 := mS_keep hF1 hS
  have e3 : h1.1 68 3 = nI (wb (sgo PG m j) 4) := by rw [eh1]; simp [up2]
  have e4 : h1.1 68 4 = nI 0 := by rw [eh1]; simp [up2]; rfl
  have e9 : h1.1 68 9 = nI (fl0 + 0) := by rw [eh1]; simp [up2]
  have e10 : h1.1 68 10 = 3 := by rw [eh1]; simp [up2]
  have e11 : h1.1 68 11 = nI 0 := by rw [eh1]; simp [up2]; rfl
  have e12 : h1.1 68 12 = nI 0 := by rw [eh1]; simp [up2]; rfl
  have e69 : h1.1 69 = h.1 69 := by rw [eh1]; funext y; simp [up2]
  have ei : ∀ y, h1.1 (ub (σ m) + 3 + j) y = h.1 (ub (σ m) + 3 + j) y := fun y => hF1.2.2 _ _ (by omega) (by omega)
  have hF2 : mF2 h h1 := ⟨fun k y z => by rw [hF1.1 k y (by omega)]; exact up2_n (by omega), hF1.2.1, hF1.2.2⟩
  have hu1 := hS1.2.2.2.2.1 m hm.1
  refine k_aload_n C dX2_run_39 rfl ?_
  refine k_aload_n C dX2_run_40 rfl ?_
  refine k_iload_n C dX2_run_41 rfl ?_
  refine j_aald C (t := 3) (by decide) rfl (by decide) rfl rfl hm.1 (by decide) hu1.1 dX2_run_42 ?_
  refine k_aload_n C dX2_run_43 rfl ?_
  refine j_iconst (v := -1) C dX2_run_44 (by decide) ?_
  refine k_callV (k := 68) (ci := 2) (As := [.ref (jad w (ub (σ m))), .ref (jad w (ub (σ m) + 3 + j)), .int (-1)]) C mX2_46 (m_enter (x := -1) (st := nI (Pc (PG m).2.1 (bgo PG m j))) (K := wb (sgo PG m j) 4) (rm := rmo PG m j) hw hS1.2.1 hS1.2.2.1 hsz e3 (by omega) e9 e12 (by omega) e11 (by omega) hu.2.1 hj6 (by rw [ei]; exact r3) (by rw [ei]; exact r2) (by unfold rmo; omega) (Nat.le_refl _) (by rw [ei]; exact r1)) jCl2.1 (by decide) rfl rfl rfl (Nat.le_of_ble_eq_true rfl) (jroom hR (by decide) (by decide)) dX2_run_45 ?_
  rintro v9 h9 ⟨rfl, rfl⟩
  have hen := enH_ok (σ := σ) (PG := PG) (h := h1) (sz := sz) (a0 := a0) (V := []) (m := m) (j := j) (fs := []) (fl := fl0) (tk := 0) (mx := 0) e4 e9 e10 e11 e12 (fun k hk => by rw [e69]; exact hst k hk) (by rw [← ha0]; exact Nat.le_refl _)
  rw [show ht a0.length [] = wb (sgo PG m j) 4 from ha0, show gOn PG [] = -1 from rfl] at hen
  refine j_iconst (v := nI 0) C dX2_run_48 (by decide) ?_
  refine k_istore C dX2_run_49 (by rw [hnL]; decide) ?_
  have hFe : mF h1 (enH h1 sz (wb (sgo PG m j) 4) (wb (sgo PG m j) 4) (rmo PG m j) fl0 0 0 (σ m) (nI (Pc (PG m).2.1 (bgo PG m j))) (-1)) := mF_en
  have hF3 : mF2 h (enH h1 sz (wb (sgo PG m j) 4) (wb (sgo PG m j) 4) (rmo PG m j) fl0 0 0 (σ m) (nI (Pc (PG m).2.1 (bgo PG m j))) (-1)) := ⟨fun k' y z => by rw [hFe.1 k' y (by omega)]; exact hF2.1 k' y z, by rw [hFe.2.1]; exact hF2.2.1, fun k' y z1 z2 => by rw [hFe.2.2 k' y z1 z2]; exact hF2.2.2 k' y z1 z2⟩
  have hbd := eEnter_bd (PG := PG) (sz := sz) (a0 := a0) (m := m) (j := j) (s := (fl0, 0, 0, [], []))
  cases es : eEnter PG sz a0 m j (fl0, 0, 0, [], []) with
  | inr q' =>
    rw [es] at hen
    exact ended _ 0 q' (by omega) hen.1 hen.2 (fun z => absurd z (hbd.2 q' es).1) hF3 (by unfold eCall; rw [es]; rfl)
  | inl s' =>
    rw [es] at hen
    have hI : EI PG sz a0 pr (ta (sgo PG m j) 0) s' := EI_enter (s := (fl0, 0, 0, [], [])) hm U hj h0 (by rw [← ha0]; exact Nat.le_refl _) ⟨by show lastN _ a0 = a0; rw [← ha0]; unfold lastN; simp, rfl⟩ es
    obtain ⟨q, hq⟩ := eRun_end hL (400 * s'.1 + mea PG s'.2.2.2.1 + 1) s' hI (Nat.lt_succ_self _)
    have hb := hbd.1 s' es
    dsimp only at hb
    have hcm : 240 * s'.1 + cme PG s'.2.2.2.1 ≤ 720240 := by
      have es2 := es
      unfold eEnter at es2
      dsimp only at es2
      split at es2
      · cases es2
      · split at es2
        · cases es2
        · simp only [Sum.inl.injEq] at es2
          subst es2
          have l2 := U.2.2.2.2.1
          simp only [cme]
          omega
    exact loop _ s' _ 0 q hq hI hen (mS_keep hFe hS1) (by omega) (by omega) (by omega) hF3 (by unfold eCall eGo; rw [es]; simp only; rw [hq]; rfl)
end M6
