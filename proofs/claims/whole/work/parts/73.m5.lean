section M5
variable {l : Launch} {w : jW} {h : jH} {PG : Nat → PU} {sz : Nat} {a0 : List Int32} {pr : Nat → Bool} {σ : Nat → Nat} {y0 H b u nx fl tk mx : Nat} {V : List Int32}
theorem cSt_T {S S' : Nat → Int32} {f f' : Fm} {fs : List Fm} (hc : cSt PG a0 S (f :: fs)) (h1 : ∀ j, j < ht a0.length fs + 2 → S' j = S j) (h2 : ∀ j, j < f'.2.2.2.2.length → S' (ht a0.length fs + 2 + j) = f'.2.2.2.2.getD j 0) : cSt PG a0 S' (f' :: fs) :=
  ⟨cSt_keep fs (fun j hj => h1 j (by omega)) hc.1, by rw [h1 _ (by omega)]; exact hc.2.1, by rw [h1 _ (by omega)]; exact hc.2.2.1, h2⟩
theorem gD_take {T : List Int32} {j k : Nat} (h : j < k) : (T.take k).getD j 0 = T.getD j 0 := by
  simp only [List.getD_eq_getElem?_getD]
  rw [List.getElem?_take, if_pos h]
theorem gD_l {T U : List Int32} {j : Nat} (h : j < T.length) : (T ++ U).getD j 0 = T.getD j 0 := by
  simp only [List.getD_eq_getElem?_getD]
  rw [List.getElem?_append_left h]
theorem gD_r {T U : List Int32} {j : Nat} (h : T.length ≤ j) : (T ++ U).getD j 0 = U.getD (j - T.length) 0 := by
  simp only [List.getD_eq_getElem?_getD]
  rw [List.getElem?_append_right h]
theorem cSt_p1 {S : Nat → Int32} {m i p p' : Nat} {A T : List Int32} {fs : List Fm} {v : Int32} (hc : cSt PG a0 S ((m, i, p, A, T) :: fs)) (hV : V.length = 1) (hv : v = V.getD 0 0) : cSt PG a0 (va_up S (ht a0.length fs + 2 + T.length) v) ((m, i, p', A, T ++ V) :: fs) := by
  refine cSt_T hc (fun j hj => by simp only [va_up]; rw [if_neg (by omega)]) (fun j hj => ?_)
  dsimp only at hj ⊢
  rw [List.length_append] at hj
  simp only [va_up]
  by_cases z : j = T.length
  · rw [if_pos (by omega), gD_r (by omega), hv, z, Nat.sub_self]
  · rw [if_neg (by omega), gD_l (by omega)]
    exact hc.2.2.2 j (by dsimp only; omega)
theorem cSt_p2 {S : Nat → Int32} {m i p p' : Nat} {A T : List Int32} {fs : List Fm} {v v2 : Int32} (hc : cSt PG a0 S ((m, i, p, A, T) :: fs)) (hV : V.length = 2) (hv : v = V.getD 0 0) (hv2 : v2 = V.getD 1 0) : cSt PG a0 (va_up (va_up S (ht a0.length fs + 2 + T.length) v) (ht a0.length fs + 2 + T.length + 1) v2) ((m, i, p', A, T ++ V) :: fs) := by
  refine cSt_T hc (fun j hj => by simp only [va_up]; rw [if_neg (by omega), if_neg (by omega)]) (fun j hj => ?_)
  dsimp only at hj ⊢
  rw [List.length_append] at hj
  simp only [va_up]
  by_cases z : j = T.length
  · rw [if_neg (by omega), if_pos (by omega), gD_r (by omega), hv, z, Nat.sub_self]
  · by_cases z2 : j = T.length + 1
    · rw [if_pos (by omega), gD_r (by omega), hv2, z2, show T.length + 1 - T.length = 1 by omega]
    · rw [if_neg (by omega), if_neg (by omega), gD_l (by omega)]
      exact hc.2.2.2 j (by dsimp only; omega)
theorem c_step (hw : jok w) (hL : lnk PG pr) (hS : mS PG sz pr σ h) {m i p : Nat} {A T : List Int32} {fs : List Fm} {e : Ev} (hI : EI PG sz a0 pr y0 (fl, tk, mx, (m, i, p, A, T) :: fs, V)) (hM : mR PG a0 σ h (fl, tk, mx, (m, i, p, A, T) :: fs, V)) (hfu : fl + tk ≤ 3000) (hmx : mx ≤ 500) (he : (PG m).2.1[p]? = some e) (h9 : e.1 ≠ 9) : jM l w yX2_step cX2_step 3 none 3 [.ref (jad w 68)] h (fun r h' => r = none ∧ mF h h' ∧ stP PG a0 σ h' (eStep PG sz a0 (fl, tk, mx, (m, i, p, A, T) :: fs, V))) := by
  refine jM_of (by decide) hw (Nat.le_of_ble_eq_true rfl) ?_
  intro X C hl hR hnL hrt hE
  subst hl
  have C : jC X w cX2_step RX2 := C
  obtain ⟨⟨f1, f2, f3, f4, f5, f6⟩, hG0, hT1, hT2, hwf⟩ := id hI
  have hu := hS.2.2.2.2.1 m f1
  have hU := (hL m f1 f2).1
  have hcU := hS.2.2.2.2.2 m f1 f2
  obtain ⟨k3, k4, k5, k6, k7⟩ := jk_unit (σ m) hu.2.1
  have hub := ub_in hu.2.1
  have hsz := hS.2.2.2.1
  have hlen : p < (PG m).2.1.length := (List.getElem?_eq_some_iff.mp he).1
  have hq := Pc_lt he h9
  have hq2 : cpos (PG m).2.1 ≤ 240 := hU.2.2.2.2.1
  have hP1 : Pc (PG m).2.1 (p + 1) = Pc (PG m).2.1 p + 1 := by rw [Pc_s he]; unfold kcl; rw [if_neg h9]
  have hins : h.1 (ub (σ m) + 2) (Pc (PG m).2.1 p) = nI (enc m (Pc (PG m).2.1) e) := by
    have := Rep_at (PG m).2.1 0 p e (hcU.2.2.2.2.2.2.2 (Pc (PG m).2.1) rfl (cmp_P0 _)).1 he h9
    simpa using this
  obtain ⟨hV, hc⟩ := hM
  change mV h (ht a0.length fs + 2 + T.length) (ht a0.length fs - A.length) (σ m) (Pc (PG m).2.1 p) V fl tk mx at hV
  have hAle := wfC_le hwf
  show J X w h 0 [(0, .ref (jad w 68))] []
  have go : ∀ (k op : Nat), k < 16 → op < 2 ^ 20 → enc m (Pc (PG m).2.1) e = k + 16 * op → (∀ h1 : jH, mF h h1 → mV h1 (ht a0.length fs + 2 + T.length) (ht a0.length fs - A.length) (σ m) (Pc (PG m).2.1 p + 1) V fl tk mx → h1.1 69 = h.1 69 → h1.2 = h.2 → (∀ q, h1.1 68 6 = nI q → h1 = (up2 h.1 68 6 (nI q), h.2)) → J X w h1 46 [(0, .ref (jad w 68)), (1, .int (nI (k + 16 * op))), (2, .int (nI op))] [.int (nI k)]) → J X w h 0 [(0, .ref (jad w 68))] [] := by
    intro k op hk hop henc kk
    have hh := kk (up2 h.1 68 6 (nI (Pc (PG m).2.1 p + 1)), h.2) (mF_68 (by decide)) (mV_nx hV) (by funext j; simp [up2]) rfl (fun q e => by simp [up2] at e; rw [e])
    have e1 : nI (k + 16 * op) >>> ((4 : Int32) &&& 31) = nI op := by
      rw [pk_shrN (by omega) _ 4 (by decide), show (k + 16 * op) / 2 ^ 4 = op by omega]
    have e2 : nI (k + 16 * op) &&& 15 = nI k := by
      rw [pk_andN (by omega) 4 (by decide), show (k + 16 * op) % 2 ^ 4 = k by omega]
    refine k_aload_n C dX2_step_0 rfl ?_
    refine j_geti C fX2_92 rfl (by first | decide | omega) (by first | assumption | rfl) dX2_step_1 ?_
    refine j_sipush (v := 240) C dX2_step_4 (by decide) ?_
    refine j_icmp_ge C 25 dX2_step_7 (by decide) (fun c7 => ?_) (fun c7 => ?_)
    · exact absurd c7 (by rw [hV.2.2.2.1]; exact nI_ge (a := Pc (PG m).2.1 p) (b := 240) (by omega) (by omega)) -- stop
    · refine k_aload_n C dX2_step_10 rfl ?_
      refine j_getr C fX2_85 rfl (by first | decide | omega) (by first | assumption | rfl) (hV.2.2.1) dX2_step_11 ?_
      refine j_getr C fX2_99 rfl (by first | decide | omega) (by first | assumption | rfl) (hu.2.2.2.1) dX2_step_14 ?_
      refine k_aload_n C dX2_step_17 rfl ?_
      refine j_geti C fX2_92 rfl (by first | decide | omega) (by first | assumption | rfl) dX2_step_18 ?_
      refine j_iald C (by first | decide | omega) (by first | assumption | rfl) (hV.2.2.2.1) ((by omega)) (by decide) dX2_step_21 ?_
      rw [hins, henc]
      refine j_goto C 27 dX2_step_22 (by decide) ?_
      refine k_istore_n C dX2_step_27 (by rw [hnL]; decide) ?_
      refine k_iload_n C dX2_step_28 rfl ?_
      refine j_iconst (v := 4) C dX2_step_29 (by decide) ?_
      refine j_ishr C dX2_step_30 ?_
      rw [e1]
      refine k_istore_n C dX2_step_31 (by rw [hnL]; decide) ?_
      refine k_aload_n C dX2_step_32 rfl ?_
      refine j_dup C dX2_step_33 rfl ?_
      refine j_geti C fX2_92 rfl (by first | decide | omega) (by first | assumption | rfl) dX2_step_34 ?_
      refine j_iconst (v := 1) C dX2_step_37 (by decide) ?_
      refine j_iadd C dX2_step_38 ?_
      rw [hV.2.2.2.1, nI_1]
      refine j_puti C fX2_92 rfl rfl (by first | decide | omega) (by first | assumption | rfl) dX2_step_39 ?_
      refine k_iload_n C dX2_step_42 rfl ?_
      refine j_bipush (v := 15) C dX2_step_43 (by decide) ?_
      refine j_iand C dX2_step_45 ?_
      rw [e2]
      exact hh
  have hpc9 : ∀ (m' i' p' : Nat) (A' : List Int32), frOk PG pr m' i' p' A' → Pc (PG m').2.1 p' < 240 := by
    rintro m' i' p' A' ⟨z1, z2, z3, z4, z5, Z2, z6, z7, z8⟩
    have zc := (hL m' z1 z2).1.2.2.2.2.1
    have e1 : Pc (PG m').2.1 Z2 < cpos (PG m').2.1 := Pc_lt z6.2.2.1 (show 14 ≠ 9 by decide)
    have e2 : ∀ d, Pc (PG m').2.1 p' ≤ Pc (PG m').2.1 (p' + d) := by
      intro d
      induction d with
      | zero => exact Nat.le_refl _
      | succ d ih =>
        refine Nat.le_trans ih ?_
        by_cases c : p' + d < (PG m').2.1.length
        · have := Pc_s (List.getElem?_eq_getElem c); rw [← Nat.add_assoc]; omega
        · unfold Pc; rw [List.take_of_length_le (by omega), List.take_of_length_le (by omega)]; exact Nat.le_refl _
    have e3 := e2 (Z2 - p')
    rw [show p' + (Z2 - p') = Z2 by omega] at e3
    omega
  have hmk : ∀ (h' : jH) (p' : Nat) (T' V' : List Int32), mV h' (ht a0.length fs + 2 + T'.length) (ht a0.length fs - A.length) (σ m) (Pc (PG m).2.1 p') V' fl tk mx → cSt PG a0 (h'.1 69) ((m, i, p', A, T') :: fs) → mR PG a0 σ h' (fl, tk, mx, (m, i, p', A, T') :: fs, V') := fun h' p' T' V' a b => ⟨a, b⟩
  rcases EI_cases hI rfl he with ⟨rfl, rfl, hVl⟩ | ⟨Z, hZ, hb, hpZ, hok, g1, g2⟩
  · refine go 13 0 (by decide) (by decide) rfl (fun h1 hF1 hV1 h69 h2e hh1 => ?_)
    refine j_tableOut C 323 dX2_step_46 (by decide) (by decide) ?_
    have eh1 := hh1 _ hV1.2.2.2.1
    have hlv := lvH_ok (nx := Pc (PG m).2.1 p + 1) hI he ⟨hV, hc⟩
    rw [← eh1] at hlv
    refine k_aload_n C dX2_step_323 rfl ?_
    refine k_callV (k := 68) (ci := 2) (As := []) C mX2_112 (m_leave (σ := σ) (go := goO PG fs) (H := ht a0.length fs) (nb := bsO a0.length ((m, i, p, A, []) :: fs)) (cb := bsO a0.length fs) hw (mS_keep hF1 hS) hV1.1 (by omega) hV1.2.1 (by rw [h69]; exact hc.2.2.1) (by rw [h69, hc.2.1]; cases fs <;> rfl) (fun q hq => by rcases fs with _ | ⟨f, gs⟩; (simp [goO] at hq); simp only [goO, Option.some.injEq] at hq; subst hq; obtain ⟨w1, w3, w4, w6, w7, w8, wA⟩ := hwf; obtain ⟨z1, z2, z3, z4, z5, Z2, z6, z7, z8⟩ := w1; refine ⟨z1, ?_⟩; exact hpc9 f.1 f.2.1 f.2.2.1 f.2.2.2.1 ⟨z1, z2, z3, z4, z5, Z2, z6, z7, z8⟩)) jCl2.1 (by first | decide | omega) (by first | assumption | rfl) rfl rfl (Nat.le_of_ble_eq_true rfl) (jroom hR (by first | decide | omega) (by decide)) dX2_step_324 ?_
    rintro v9 h9 ⟨rfl, rfl⟩
    exact j_vret C hrt hE dX2_step_327 (⟨rfl, mF_tr hF1 mF_lv, hlv⟩)
  · obtain ⟨k, o, hd, cw⟩ := e
    dsimp only at g1 g2 h9
    subst g1 g2
    have hnext := fun s' es => EI_next (s' := s') hL hI es
    unfold okE at hok
    dsimp only at hok
    split at hok
    · have es : eStep PG sz a0 (fl, tk, mx, (m, i, p, A, T) :: fs, V) = .inl (fl, tk, mx, (m, i, p + 1, A, T) :: fs, [nI o]) := by unfold eStep; simp only [he]
      refine go 0 o (by decide) (by omega) (by simp [enc]) (fun h1 hF1 hV1 h69 h2e hh1 => ?_)
      refine j_tableIn (off := 66) C 112 dX2_step_46 (by decide) (by decide) (by decide) (by decide) ?_
      refine k_aload_n C dX2_step_112 rfl ?_
      refine k_iload_n C dX2_step_113 rfl ?_
      refine j_puti C fX2_54 rfl rfl (by first | decide | omega) (by first | assumption | rfl) dX2_step_114 ?_
      refine j_goto C 327 dX2_step_117 (by decide) ?_
      exact j_vret C hrt hE dX2_step_327 (⟨rfl, mF_tr hF1 (mF_68 (by decide)), by rw [es]; exact hmk _ _ _ _ (by rw [hP1]; exact mV_1 hV1) (by dsimp only; rw [up2_o (by decide), h69]; exact hc)⟩)
    · have es : eStep PG sz a0 (fl, tk, mx, (m, i, p, A, T) :: fs, V) = .inl (fl, tk, mx, (m, i, p + 1, A, T) :: fs, [A.getD o 0]) := by unfold eStep; simp only [he]
      have hA : ∀ j, j < A.length → h.1 69 (ht a0.length fs - A.length + j) = A.getD j 0 := fun j hj => argS hwf hc.1 hj
      refine go 1 o (by decide) (by have : wb (sgo PG m i) 4 ≤ 500 := (by rw [← f5]; omega); omega) (by simp [enc]) (fun h1 hF1 hV1 h69 h2e hh1 => ?_)
      refine j_tableIn (off := 74) C 120 dX2_step_46 (by decide) (by decide) (by decide) (by decide) ?_
      refine k_aload_n C dX2_step_120 rfl ?_
      refine k_aload_n C dX2_step_121 rfl ?_
      refine k_aload_n C dX2_step_122 rfl ?_
      refine j_geti C fX2_31 rfl (by first | decide | omega) (by first | assumption | rfl) dX2_step_123 ?_
      refine k_iload_n C dX2_step_126 rfl ?_
      refine j_iadd C dX2_step_127 ?_
      rw [hV1.2.1, nI_add]
      refine k_callV (k := 68) (ci := 2) (As := [.int (nI (ht a0.length fs - A.length + o))]) C mX2_104 (m_wordAt (c := ht a0.length fs - A.length + o) hw (by rw [h2e]; exact hS.2.1) (by omega)) jCl2.1 (by first | decide | omega) (by first | assumption | rfl) rfl rfl (Nat.le_of_ble_eq_true rfl) (jroom hR (by first | decide | omega) (by decide)) dX2_step_128 ?_
      rintro v9 h9 ⟨rfl, rfl⟩
      rw [h69, hA o (by omega)]
      refine j_puti C fX2_54 rfl rfl (by first | decide | omega) (by first | assumption | rfl) dX2_step_131 ?_
      refine j_goto C 327 dX2_step_134 (by decide) ?_
      exact j_vret C hrt hE dX2_step_327 (⟨rfl, mF_tr hF1 (mF_68 (by decide)), by rw [es]; exact hmk _ _ _ _ (by rw [hP1]; exact mV_1 hV1) (by dsimp only; rw [up2_o (by decide), h69]; exact hc)⟩)
    · have es : eStep PG sz a0 (fl, tk, mx, (m, i, p, A, T) :: fs, V) = .inl (fl, tk, mx, (m, i, p + 1, A, T) :: fs, [A.getD o 0, A.getD (o + 1) 0]) := by unfold eStep; simp only [he]
      have hA : ∀ j, j < A.length → h.1 69 (ht a0.length fs - A.length + j) = A.getD j 0 := fun j hj => argS hwf hc.1 hj
      refine go 2 o (by decide) (by have : wb (sgo PG m i) 4 ≤ 500 := (by rw [← f5]; omega); omega) (by simp [enc]) (fun h1 hF1 hV1 h69 h2e hh1 => ?_)
      refine j_tableIn (off := 91) C 137 dX2_step_46 (by decide) (by decide) (by decide) (by decide) ?_
      refine k_aload_n C dX2_step_137 rfl ?_
      refine k_aload_n C dX2_step_138 rfl ?_
      refine k_aload_n C dX2_step_139 rfl ?_
      refine j_geti C fX2_31 rfl (by first | decide | omega) (by first | assumption | rfl) dX2_step_140 ?_
      refine k_iload_n C dX2_step_143 rfl ?_
      refine j_iadd C dX2_step_144 ?_
      rw [hV1.2.1, nI_add]
      refine k_callV (k := 68) (ci := 2) (As := [.int (nI (ht a0.length fs - A.length + o))]) C mX2_104 (m_wordAt (c := ht a0.length fs - A.length + o) hw (by rw [h2e]; exact hS.2.1) (by omega)) jCl2.1 (by first | decide | omega) (by first | assumption | rfl) rfl rfl (Nat.le_of_ble_eq_true rfl) (jroom hR (by first | decide | omega) (by decide)) dX2_step_145 ?_
      rintro v9 h9 ⟨rfl, e9⟩
      obtain rfl := e9.symm
      rw [h69, hA o (by omega)]
      refine j_puti C fX2_54 rfl rfl (by first | decide | omega) (by first | assumption | rfl) dX2_step_148 ?_
      refine k_aload_n C dX2_step_151 rfl ?_
      refine k_aload_n C dX2_step_152 rfl ?_
      refine k_aload_n C dX2_step_153 rfl ?_
      refine j_geti C fX2_31 rfl (by first | decide | omega) (by first | assumption | rfl) dX2_step_154 ?_
      refine k_iload_n C dX2_step_157 rfl ?_
      refine j_iadd C dX2_step_158 ?_
      refine j_iconst (v := 1) C dX2_step_159 (by decide) ?_
      refine j_iadd C dX2_step_160 ?_
      rw [show ((up2 h1.1 68 7 (A.getD o 0), h1.2) : jH).1 68 4 + nI o + 1 = nI (ht a0.length fs - A.length + (o + 1)) from (congrArg (fun z => z + nI o + 1) (show ((up2 h1.1 68 7 (A.getD o 0), h1.2) : jH).1 68 4 = nI (ht a0.length fs - A.length) from by simpa [up2] using hV1.2.1)).trans (by show nI (ht a0.length fs - A.length) + nI o + 1 = _; rw [nI_add, nI_1]; rfl)]
      refine k_callV (k := 68) (ci := 2) (As := [.int (nI (ht a0.length fs - A.length + (o + 1)))]) C mX2_104 (m_wordAt (h := (up2 h1.1 68 7 (A.getD o 0), h1.2)) (c := ht a0.length fs - A.length + (o + 1)) hw (by show h1.2.1 68 2 = _; rw [h2e]; exact hS.2.1) (by omega)) jCl2.1 (by first | decide | omega) (by first | assumption | rfl) rfl rfl (Nat.le_of_ble_eq_true rfl) (jroom hR (by first | decide | omega) (by decide)) dX2_step_161 ?_
      rintro v9 h9 ⟨rfl, rfl⟩
      rw [show ((up2 h1.1 68 7 (A.getD o 0), h1.2) : jH).1 69 (ht a0.length fs - A.length + (o + 1)) = A.getD (o + 1) 0 from by rw [← hA (o + 1) (by omega), ← h69]; simp [up2]]
      refine j_puti C fX2_67 rfl rfl (by first | decide | omega) (by first | assumption | rfl) dX2_step_164 ?_
      refine j_goto C 327 dX2_step_167 (by decide) ?_
      exact j_vret C hrt hE dX2_step_327 (⟨rfl, mF_tr hF1 (mF_tr (mF_68 (j := 7) (by decide)) (mF_68 (by decide))), by rw [es]; exact hmk _ _ _ _ (by rw [hP1]; exact mV_2 hV1) (by dsimp only; rw [up2_o (by decide), up2_o (by decide), h69]; exact hc)⟩)
    · have es : eStep PG sz a0 (fl, tk, mx, (m, i, p, A, T) :: fs, V) = .inl (fl, tk, mx, (m, i, p + 1, A, T ++ V) :: fs, []) := by unfold eStep; simp only [he]
      have hn := hnext _ es
      have hn1 : (T ++ V).length ≤ rmo PG m i := hn.2.2.1
      rw [List.length_append] at hn1
      refine go 3 0 (by decide) (by decide) (by simp [enc]) (fun h1 hF1 hV1 h69 h2e hh1 => ?_)
      refine j_tableIn (off := 124) C 170 dX2_step_46 (by decide) (by decide) (by decide) (by decide) ?_
      have v0 := hV1.2.2.2.2.1 (by omega)
      refine k_aload_n C dX2_step_170 rfl ?_
      refine k_aload_n C dX2_step_171 rfl ?_
      refine j_geti C fX2_54 rfl (by first | decide | omega) (by first | assumption | rfl) dX2_step_172 ?_
      refine k_callV (k := 68) (ci := 2) (As := [.int (h1.1 68 7)]) C mX2_81 (m_push hw (by rw [h2e]; exact hS.2.1) hV1.1 (by omega) (h1.1 68 7)) jCl2.1 (by first | decide | omega) (by first | assumption | rfl) rfl rfl (Nat.le_of_ble_eq_true rfl) (jroom hR (by first | decide | omega) (by decide)) dX2_step_175 ?_
      rintro v9 h9 ⟨rfl, rfl⟩
      refine j_goto C 327 dX2_step_178 (by decide) ?_
      exact j_vret C hrt hE dX2_step_327 (⟨rfl, mF_tr hF1 (mF_tr (mF_69) (mF_68 (by decide))), by rw [es]; exact hmk _ _ _ _ (by rw [hP1, List.length_append, hok.1]; exact mV_H (h := (up2 h1.1 69 _ _, h1.2)) (mV_S (mV_0 hV1))) (by dsimp only; rw [up2_o (by decide), up2_r, h69]; exact cSt_p1 hc hok.1 v0)⟩)
    · have es : eStep PG sz a0 (fl, tk, mx, (m, i, p, A, T) :: fs, V) = .inl (fl, tk, mx, (m, i, p + 1, A, T ++ V) :: fs, []) := by unfold eStep; simp only [he]
      have hn := hnext _ es
      have hn1 : (T ++ V).length ≤ rmo PG m i := hn.2.2.1
      rw [List.length_append] at hn1
      refine go 4 0 (by decide) (by decide) (by simp [enc]) (fun h1 hF1 hV1 h69 h2e hh1 => ?_)
      refine j_tableIn (off := 135) C 181 dX2_step_46 (by decide) (by decide) (by decide) (by decide) ?_
      have v0 := hV1.2.2.2.2.1 (by omega)
      have v1 := hV1.2.2.2.2.2.1 (by omega)
      refine k_aload_n C dX2_step_181 rfl ?_
      refine k_aload_n C dX2_step_182 rfl ?_
      refine j_geti C fX2_54 rfl (by first | decide | omega) (by first | assumption | rfl) dX2_step_183 ?_
      refine k_callV (k := 68) (ci := 2) (As := [.int (h1.1 68 7)]) C mX2_81 (m_push hw (by rw [h2e]; exact hS.2.1) hV1.1 (by omega) (h1.1 68 7)) jCl2.1 (by first | decide | omega) (by first | assumption | rfl) rfl rfl (Nat.le_of_ble_eq_true rfl) (jroom hR (by first | decide | omega) (by decide)) dX2_step_186 ?_
      rintro v9 h9 ⟨rfl, rfl⟩
      refine k_aload_n C dX2_step_189 rfl ?_
      refine k_aload_n C dX2_step_190 rfl ?_
      refine j_geti C fX2_67 rfl (by first | decide | omega) (by first | assumption | rfl) dX2_step_191 ?_
      rw [show ((up2 (up2 h1.1 69 (ht a0.length fs + 2 + T.length) (h1.1 68 7)) 68 3 (nI (ht a0.length fs + 2 + T.length + 1)), h1.2) : jH).1 68 8 = h1.1 68 8 from by simp [up2]]
      refine k_callV (k := 68) (ci := 2) (As := [.int (h1.1 68 8)]) C mX2_81 (m_push (h := (up2 (up2 h1.1 69 (ht a0.length fs + 2 + T.length) (h1.1 68 7)) 68 3 (nI (ht a0.length fs + 2 + T.length + 1)), h1.2)) (c := ht a0.length fs + 2 + T.length + 1) hw (by rw [h2e]; exact hS.2.1) (by simp [up2]) (by omega) (h1.1 68 8)) jCl2.1 (by first | decide | omega) (by first | assumption | rfl) rfl rfl (Nat.le_of_ble_eq_true rfl) (jroom hR (by first | decide | omega) (by decide)) dX2_step_194 ?_
      rintro v9 h9 ⟨rfl, rfl⟩
      refine j_goto C 327 dX2_step_197 (by decide) ?_
      exact j_vret C hrt hE dX2_step_327 (⟨rfl, mF_tr hF1 (mF_tr (mF_tr mF_69 (mF_68 (by decide))) (mF_tr mF_69 (mF_68 (by decide)))), by rw [es]; exact hmk _ _ _ _ (by rw [hP1, List.length_append, hok.1]; exact mV_H (h := (up2 (up2 (up2 h1.1 69 _ _) 68 3 _) 69 _ _, h1.2)) (mV_S (h := (up2 (up2 h1.1 69 _ _) 68 3 _, h1.2)) (mV_H (h := (up2 h1.1 69 _ _, h1.2)) (mV_S (mV_0 hV1))))) (by dsimp only; rw [up2_o (by decide), up2_r, up2_o (by decide), up2_r, h69]; exact cSt_p2 hc hok.1 v0 v1)⟩)
    · have es : eStep PG sz a0 (fl, tk, mx, (m, i, p, A, T) :: fs, V) = .inl (fl, tk, mx, (m, i, p + 1, A, T.take (T.length - 1)) :: fs, [T.getD (T.length - 1) 0 + V.getD 0 0]) := by unfold eStep; simp only [he]
      obtain ⟨q1, q2, q3⟩ := hok
      obtain ⟨c, hcT⟩ : ∃ c, T.length = c + 1 := ⟨T.length - 1, by omega⟩
      refine go 5 0 (by decide) (by decide) (by simp [enc]) (fun h1 hF1 hV1 h69 h2e hh1 => ?_)
      refine j_tableIn (off := 154) C 200 dX2_step_46 (by decide) (by decide) (by decide) (by decide) ?_
      have v0 := hV1.2.2.2.2.1 (by omega)
      have tv : h1.1 69 (ht a0.length fs + 2 + c) = T.getD (T.length - 1) 0 := by rw [h69, hc.2.2.2 c (by dsimp only; omega)]; dsimp only; rw [hcT]; rfl
      refine k_aload_n C dX2_step_200 rfl ?_
      refine k_aload_n C dX2_step_201 rfl ?_
      refine k_callV (k := 68) (ci := 2) (As := []) C mX2_95 (m_pop (c := ht a0.length fs + 2 + c) hw (by rw [h2e]; exact hS.2.1) (by rw [hV1.1, hcT]; rfl) (by omega)) jCl2.1 (by first | decide | omega) (by first | assumption | rfl) rfl rfl (Nat.le_of_ble_eq_true rfl) (jroom hR (by first | decide | omega) (by decide)) dX2_step_202 ?_
      rintro v9 h9 ⟨rfl, rfl⟩
      refine k_aload_n C dX2_step_205 rfl ?_
      refine j_geti C fX2_54 rfl (by first | decide | omega) (by first | assumption | rfl) dX2_step_206 ?_
      rw [tv, show ((up2 h1.1 68 3 (nI (ht a0.length fs + 2 + c)), h1.2) : jH).1 68 7 = V.getD 0 0 from by rw [← v0]; simp [up2]]
      refine j_iadd C dX2_step_209 ?_
      refine j_puti C fX2_54 rfl rfl (by first | decide | omega) (by first | assumption | rfl) dX2_step_210 ?_
      refine j_goto C 327 dX2_step_213 (by decide) ?_
      exact j_vret C hrt hE dX2_step_327 (⟨rfl, mF_tr hF1 (mF_tr (mF_68 (j := 3) (by decide)) (mF_68 (by decide))), by rw [es]; exact hmk _ _ _ _ (by rw [hP1, List.length_take, show min (T.length - 1) T.length = c by omega]; exact mV_1 (mV_H hV1)) (by dsimp only; rw [up2_o (by decide), up2_o (by decide), h69]; refine cSt_T hc (fun j hj => rfl) (fun j hj => ?_); dsimp only at hj ⊢; rw [List.length_take] at hj; rw [gD_take (by omega)]; exact hc.2.2.2 j (by dsimp only; omega))⟩)
    · have es : eStep PG sz a0 (fl, tk, mx, (m, i, p, A, T) :: fs, V) = .inl (fl, tk, mx, (m, i, p + 1, A, T.take (T.length - 1)) :: fs, [T.getD (T.length - 1) 0 - V.getD 0 0]) := by unfold eStep; simp only [he]
      obtain ⟨q1, q2, q3⟩ := hok
      obtain ⟨c, hcT⟩ : ∃ c, T.length = c + 1 := ⟨T.length - 1, by omega⟩
      refine go 6 0 (by decide) (by decide) (by simp [enc]) (fun h1 hF1 hV1 h69 h2e hh1 => ?_)
      refine j_tableIn (off := 170) C 216 dX2_step_46 (by decide) (by decide) (by decide) (by decide) ?_
      have v0 := hV1.2.2.2.2.1 (by omega)
      have tv : h1.1 69 (ht a0.length fs + 2 + c) = T.getD (T.length - 1) 0 := by rw [h69, hc.2.2.2 c (by dsimp only; omega)]; dsimp only; rw [hcT]; rfl
      refine k_aload_n C dX2_step_216 rfl ?_
      refine k_aload_n C dX2_step_217 rfl ?_
      refine k_callV (k := 68) (ci := 2) (As := []) C mX2_95 (m_pop (c := ht a0.length fs + 2 + c) hw (by rw [h2e]; exact hS.2.1) (by rw [hV1.1, hcT]; rfl) (by omega)) jCl2.1 (by first | decide | omega) (by first | assumption | rfl) rfl rfl (Nat.le_of_ble_eq_true rfl) (jroom hR (by first | decide | omega) (by decide)) dX2_step_218 ?_
      rintro v9 h9 ⟨rfl, rfl⟩
      refine k_aload_n C dX2_step_221 rfl ?_
      refine j_geti C fX2_54 rfl (by first | decide | omega) (by first | assumption | rfl) dX2_step_222 ?_
      rw [tv, show ((up2 h1.1 68 3 (nI (ht a0.length fs + 2 + c)), h1.2) : jH).1 68 7 = V.getD 0 0 from by rw [← v0]; simp [up2]]
      refine j_isub C dX2_step_225 ?_
      refine j_puti C fX2_54 rfl rfl (by first | decide | omega) (by first | assumption | rfl) dX2_step_226 ?_
      refine j_goto C 327 dX2_step_229 (by decide) ?_
      exact j_vret C hrt hE dX2_step_327 (⟨rfl, mF_tr hF1 (mF_tr (mF_68 (j := 3) (by decide)) (mF_68 (by decide))), by rw [es]; exact hmk _ _ _ _ (by rw [hP1, List.length_take, show min (T.length - 1) T.length = c by omega]; exact mV_1 (mV_H hV1)) (by dsimp only; rw [up2_o (by decide), up2_o (by decide), h69]; refine cSt_T hc (fun j hj => rfl) (fun j hj => ?_); dsimp only at hj ⊢; rw [List.length_take] at hj; rw [gD_take (by omega)]; exact hc.2.2.2 j (by dsimp only; omega))⟩)
    · have es : eStep PG sz a0 (fl, tk, mx, (m, i, p, A, T) :: fs, V) = .inl (fl, tk, mx, (m, i, p + 1, A, T.take (T.length - 1)) :: fs, [T.getD (T.length - 1) 0 * V.getD 0 0]) := by unfold eStep; simp only [he]
      obtain ⟨q1, q2, q3⟩ := hok
      obtain ⟨c, hcT⟩ : ∃ c, T.length = c + 1 := ⟨T.length - 1, by omega⟩
      refine go 7 0 (by decide) (by decide) (by simp [enc]) (fun h1 hF1 hV1 h69 h2e hh1 => ?_)
      refine j_tableIn (off := 186) C 232 dX2_step_46 (by decide) (by decide) (by decide) (by decide) ?_
      have v0 := hV1.2.2.2.2.1 (by omega)
      have tv : h1.1 69 (ht a0.length fs + 2 + c) = T.getD (T.length - 1) 0 := by rw [h69, hc.2.2.2 c (by dsimp only; omega)]; dsimp only; rw [hcT]; rfl
      refine k_aload_n C dX2_step_232 rfl ?_
      refine k_aload_n C dX2_step_233 rfl ?_
      refine k_callV (k := 68) (ci := 2) (As := []) C mX2_95 (m_pop (c := ht a0.length fs + 2 + c) hw (by rw [h2e]; exact hS.2.1) (by rw [hV1.1, hcT]; rfl) (by omega)) jCl2.1 (by first | decide | omega) (by first | assumption | rfl) rfl rfl (Nat.le_of_ble_eq_true rfl) (jroom hR (by first | decide | omega) (by decide)) dX2_step_234 ?_
      rintro v9 h9 ⟨rfl, rfl⟩
      refine k_aload_n C dX2_step_237 rfl ?_
      refine j_geti C fX2_54 rfl (by first | decide | omega) (by first | assumption | rfl) dX2_step_238 ?_
      rw [tv, show ((up2 h1.1 68 3 (nI (ht a0.length fs + 2 + c)), h1.2) : jH).1 68 7 = V.getD 0 0 from by rw [← v0]; simp [up2]]
      refine j_imul C dX2_step_241 ?_
      refine j_puti C fX2_54 rfl rfl (by first | decide | omega) (by first | assumption | rfl) dX2_step_242 ?_
      refine j_goto C 327 dX2_step_245 (by decide) ?_
      exact j_vret C hrt hE dX2_step_327 (⟨rfl, mF_tr hF1 (mF_tr (mF_68 (j := 3) (by decide)) (mF_68 (by decide))), by rw [es]; exact hmk _ _ _ _ (by rw [hP1, List.length_take, show min (T.length - 1) T.length = c by omega]; exact mV_1 (mV_H hV1)) (by dsimp only; rw [up2_o (by decide), up2_o (by decide), h69]; refine cSt_T hc (fun j hj => rfl) (fun j hj => ?_); dsimp only at hj ⊢; rw [List.length_take] at hj; rw [gD_take (by omega)]; exact hc.2.2.2 j (by dsimp only; omega))⟩)
    · have es : eStep PG sz a0 (fl, tk, mx, (m, i, p, A, T) :: fs, V) = .inl (fl, tk, mx, (m, i, p + 1, A, T.take (T.length - 1)) :: fs, [T.getD (T.length - 1) 0, V.getD 0 0]) := by unfold eStep; simp only [he]
      obtain ⟨q1, q2, q3⟩ := hok
      obtain ⟨c, hcT⟩ : ∃ c, T.length = c + 1 := ⟨T.length - 1, by omega⟩
      refine go 8 0 (by decide) (by decide) (by simp [enc]) (fun h1 hF1 hV1 h69 h2e hh1 => ?_)
      refine j_tableIn (off := 202) C 248 dX2_step_46 (by decide) (by decide) (by decide) (by decide) ?_
      have v0 := hV1.2.2.2.2.1 (by omega)
      have tv : h1.1 69 (ht a0.length fs + 2 + c) = T.getD (T.length - 1) 0 := by rw [h69, hc.2.2.2 c (by dsimp only; omega)]; dsimp only; rw [hcT]; rfl
      refine k_aload_n C dX2_step_248 rfl ?_
      refine k_aload_n C dX2_step_249 rfl ?_
      refine j_geti C fX2_54 rfl (by first | decide | omega) (by first | assumption | rfl) dX2_step_250 ?_
      rw [v0]
      refine j_puti C fX2_67 rfl rfl (by first | decide | omega) (by first | assumption | rfl) dX2_step_253 ?_
      refine k_aload_n C dX2_step_256 rfl ?_
      refine k_aload_n C dX2_step_257 rfl ?_
      refine k_callV (k := 68) (ci := 2) (As := []) C mX2_95 (m_pop (h := (up2 h1.1 68 8 (V.getD 0 0), h1.2)) (c := ht a0.length fs + 2 + c) hw (by rw [h2e]; exact hS.2.1) (by simp [up2]; rw [hV1.1, hcT]; rfl) (by omega)) jCl2.1 (by first | decide | omega) (by first | assumption | rfl) rfl rfl (Nat.le_of_ble_eq_true rfl) (jroom hR (by first | decide | omega) (by decide)) dX2_step_258 ?_
      rintro v9 h9 ⟨rfl, rfl⟩
      rw [show ((up2 h1.1 68 8 (V.getD 0 0), h1.2) : jH).1 69 (ht a0.length fs + 2 + c) = T.getD (T.length - 1) 0 from by rw [← tv]; simp [up2]]
      refine j_puti C fX2_54 rfl rfl (by first | decide | omega) (by first | assumption | rfl) dX2_step_261 ?_
      refine j_goto C 327 dX2_step_264 (by decide) ?_
      exact j_vret C hrt hE dX2_step_327 (⟨rfl, mF_tr hF1 (mF_tr (mF_68 (j := 8) (by decide)) (mF_tr (mF_68 (j := 3) (by decide)) (mF_68 (by decide)))), by rw [es]; exact hmk _ _ _ _ (by rw [hP1, List.length_take, show min (T.length - 1) T.length = c by omega]; have z := mV_H (q := ht a0.length fs + 2 + c) (mV_8 (v2 := V.getD 0 0) hV1); obtain ⟨a1, a2, a3, a4, a5, a6, a7, a8, a9, aA⟩ := z; exact ⟨by simpa [up2] using a1, by simpa [up2] using a2, a3, by simpa [up2] using a4, fun z => by simp [up2], fun z => by simp [up2], by simpa [up2] using a7, by simpa [up2] using a8, by simpa [up2] using a9, by simpa [up2] using aA⟩) (by dsimp only; rw [up2_o (by decide), up2_o (by decide), up2_o (by decide), h69]; refine cSt_T hc (fun j hj => rfl) (fun j hj => ?_); dsimp only at hj ⊢; rw [List.length_take] at hj; rw [gD_take (by omega)]; exact hc.2.2.2 j (by dsimp only; omega))⟩)
    · exact absurd rfl h9
    · have es : eStep PG sz a0 (fl, tk, mx, (m, i, p, A, T) :: fs, V) = .inl (fl, tk, mx, (m, i, p + 1, A, T) :: fs, [V.getD 1 0]) := by unfold eStep; simp only [he]
      refine go 9 0 (by decide) (by decide) (by simp [enc]) (fun h1 hF1 hV1 h69 h2e hh1 => ?_)
      refine j_tableIn (off := 221) C 267 dX2_step_46 (by decide) (by decide) (by decide) (by decide) ?_
      have v1 := hV1.2.2.2.2.2.1 (by omega)
      refine k_aload_n C dX2_step_267 rfl ?_
      refine k_aload_n C dX2_step_268 rfl ?_
      refine j_geti C fX2_67 rfl (by first | decide | omega) (by first | assumption | rfl) dX2_step_269 ?_
      rw [v1]
      refine j_puti C fX2_54 rfl rfl (by first | decide | omega) (by first | assumption | rfl) dX2_step_272 ?_
      refine j_goto C 327 dX2_step_275 (by decide) ?_
      exact j_vret C hrt hE dX2_step_327 (⟨rfl, mF_tr hF1 (mF_68 (by decide)), by rw [es]; exact hmk _ _ _ _ (by rw [hP1]; exact mV_1 hV1) (by dsimp only; rw [up2_o (by decide), h69]; exact hc)⟩)
    · have es : eStep PG sz a0 (fl, tk, mx, (m, i, p, A, T) :: fs, V) = .inl (fl, tk, mx, (m, i, if V.getD 0 0 = 0 then o else p + 1, A, T) :: fs, []) := by unfold eStep; simp only [he]
      obtain ⟨q1, q2, q3, q4, q5⟩ := hok
      have ho9 : Pc (PG m).2.1 o ≤ 240 := Nat.le_trans Pc_le hq2
      refine go 10 (Pc (PG m).2.1 o) (by decide) (by omega) (by simp [enc]) (fun h1 hF1 hV1 h69 h2e hh1 => ?_)
      refine j_tableIn (off := 232) C 278 dX2_step_46 (by decide) (by decide) (by decide) (by decide) ?_
      have v0 := hV1.2.2.2.2.1 (by omega)
      refine k_aload_n C dX2_step_278 rfl ?_
      refine k_aload_n C dX2_step_279 rfl ?_
      refine j_geti C fX2_54 rfl (by first | decide | omega) (by first | assumption | rfl) dX2_step_280 ?_
      refine j_if_ne C 290 dX2_step_283 (by decide) (fun c283 => ?_) (fun c283 => ?_)
      · rw [v0] at c283
        refine k_aload_n C dX2_step_290 rfl ?_
        refine j_geti C fX2_92 rfl (by first | decide | omega) (by first | assumption | rfl) dX2_step_291 ?_
        first | (rw [hV1.2.2.2.1]; refine j_puti C fX2_92 rfl rfl (by decide) rfl dX2_step_294 ?_; refine j_goto C 327 dX2_step_297 (by decide) ?_; exact j_vret C hrt hE dX2_step_327 ⟨rfl, mF_tr hF1 (mF_68 (by decide)), by rw [es, if_neg c283]; exact hmk _ _ _ _ (by rw [hP1]; exact mV_nx (mV_0 hV1)) (by dsimp only; rw [up2_o (by decide), h69]; exact hc)⟩) | (refine j_puti C fX2_92 rfl rfl (by decide) rfl dX2_step_294 ?_; refine j_goto C 327 dX2_step_297 (by decide) ?_; exact j_vret C hrt hE dX2_step_327 ⟨rfl, mF_tr hF1 (mF_68 (by decide)), by rw [es, if_pos c283]; exact hmk _ _ _ _ (mV_nx (mV_0 hV1)) (by dsimp only; rw [up2_o (by decide), h69]; exact hc)⟩)
      · rw [v0] at c283
        refine k_iload_n C dX2_step_286 rfl ?_
        refine j_goto C 294 dX2_step_287 (by decide) ?_
        first | (rw [hV1.2.2.2.1]; refine j_puti C fX2_92 rfl rfl (by decide) rfl dX2_step_294 ?_; refine j_goto C 327 dX2_step_297 (by decide) ?_; exact j_vret C hrt hE dX2_step_327 ⟨rfl, mF_tr hF1 (mF_68 (by decide)), by rw [es, if_neg c283]; exact hmk _ _ _ _ (by rw [hP1]; exact mV_nx (mV_0 hV1)) (by dsimp only; rw [up2_o (by decide), h69]; exact hc)⟩) | (refine j_puti C fX2_92 rfl rfl (by decide) rfl dX2_step_294 ?_; refine j_goto C 327 dX2_step_297 (by decide) ?_; exact j_vret C hrt hE dX2_step_327 ⟨rfl, mF_tr hF1 (mF_68 (by decide)), by rw [es, if_pos c283]; exact hmk _ _ _ _ (mV_nx (mV_0 hV1)) (by dsimp only; rw [up2_o (by decide), h69]; exact hc)⟩)
    · have es : eStep PG sz a0 (fl, tk, mx, (m, i, p, A, T) :: fs, V) = .inl (fl, tk, mx, (m, i, o, A, T) :: fs, V) := by unfold eStep; simp only [he]
      have ho9 : Pc (PG m).2.1 o ≤ 240 := Nat.le_trans Pc_le hq2
      refine go 11 (Pc (PG m).2.1 o) (by decide) (by omega) (by simp [enc]) (fun h1 hF1 hV1 h69 h2e hh1 => ?_)
      refine j_tableIn (off := 254) C 300 dX2_step_46 (by decide) (by decide) (by decide) (by decide) ?_
      refine k_aload_n C dX2_step_300 rfl ?_
      refine k_iload_n C dX2_step_301 rfl ?_
      refine j_puti C fX2_92 rfl rfl (by first | decide | omega) (by first | assumption | rfl) dX2_step_302 ?_
      refine j_goto C 327 dX2_step_305 (by decide) ?_
      exact j_vret C hrt hE dX2_step_327 (⟨rfl, mF_tr hF1 (mF_68 (by decide)), by rw [es]; exact hmk _ _ _ _ (mV_nx hV1) (by dsimp only; rw [up2_o (by decide), h69]; exact hc)⟩)
    · obtain ⟨q1, o', nm, s', rfl, q3, q4, q5, q6⟩ := hok
      obtain ⟨j, j1, j2, hj, j3, j4, j5⟩ := (hL m f1 f2).2 o' nm s' q4
      have U3 := (hL _ j1 j2).1
      have ed : dfx (PG (calM m (o' * 26 + nm))).1 nm = some j := dfx_dst U3.2.2.1 hj j3 j4
      have ess : sgo PG (calM m (o' * 26 + nm)) j = s' := by unfold sgo; rw [gtD hj]; exact j5
      have es : eStep PG sz a0 (fl, tk, mx, (m, i, p, A, T) :: fs, V) = eEnter PG sz a0 (calM m (o' * 26 + nm)) j (fl, tk, mx, (m, i, p + 1, A, T) :: fs, []) := by
        unfold eStep
        simp only [he]
        rw [show (o' * 26 + nm) % 26 = nm by omega, ed]
      have eop : enc m (Pc (PG m).2.1) (13, o' * 26 + nm, T.length, V.length) = 12 + 16 * (calM m (o' * 26 + nm) * 26 + nm) := by
        show 12 + 16 * _ = _
        unfold calM
        dsimp only
        by_cases z : o' * 26 + nm < 26
        · rw [if_pos z, if_pos z, show o' = 0 by omega]; simp
        · rw [if_neg z, if_neg z]; omega
      refine go 12 (calM m (o' * 26 + nm) * 26 + nm) (by decide) (by omega) eop (fun h1 hF1 hV1 h69 h2e hh1 => ?_)
      refine j_tableIn (off := 262) C 308 dX2_step_46 (by decide) (by decide) (by decide) (by decide) ?_
      have hen := enH_ok (σ := σ) (PG := PG) (h := h1) (sz := sz) (a0 := a0) (V := []) (m := calM m (o' * 26 + nm)) (j := j) (fs := (m, i, p + 1, A, T) :: fs) (fl := fl) (tk := tk) (mx := mx) hV1.2.1 hV1.2.2.2.2.2.2.1 hV1.2.2.2.2.2.2.2.1 hV1.2.2.2.2.2.2.2.2.1 hV1.2.2.2.2.2.2.2.2.2 (by rw [h69]; exact hc) (by rw [ess]; exact q5)
      have egn : gOn PG ((m, i, p + 1, A, T) :: fs) = nI (m * 240 + (Pc (PG m).2.1 p + 1)) := by show nI (m * 240 + Pc (PG m).2.1 (p + 1)) = _; rw [hP1]
      rw [egn] at hen
      refine k_aload_n C dX2_step_308 rfl ?_
      refine k_iload_n C dX2_step_309 rfl ?_
      refine j_bipush (v := nI 26) C dX2_step_310 (by decide) ?_
      refine j_idiv C dX2_step_312 (by decide) ?_
      rw [pk_div (by omega) (by decide) (by decide), show (calM m (o' * 26 + nm) * 26 + nm) / 26 = calM m (o' * 26 + nm) by omega]
      refine k_iload_n C dX2_step_313 rfl ?_
      refine j_bipush (v := nI 26) C dX2_step_314 (by decide) ?_
      refine j_irem C dX2_step_316 (by decide) ?_
      rw [pk_rem (by omega) (by decide) (by decide), show (calM m (o' * 26 + nm) * 26 + nm) % 26 = nm by omega]
      refine k_callV (k := 68) (ci := 2) (As := [.int (nI (calM m (o' * 26 + nm))), .int (nI nm)]) C mX2_108 (m_enterNamed (q := Pc (PG m).2.1 p + 1) (H := ht a0.length fs + 2 + T.length) hw hL (mS_keep hF1 hS) ⟨f1, f2⟩ ⟨j1, j2⟩ q3 ed hV1.2.2.1 hV1.2.2.2.1 hV1.1 (by omega) hV1.2.2.2.2.2.2.1 hV1.2.2.2.2.2.2.2.2.2 hfu hV1.2.2.2.2.2.2.2.2.1 hmx (by rw [ess]; omega)) jCl2.1 (by first | decide | omega) (by first | assumption | rfl) rfl rfl (Nat.le_of_ble_eq_true rfl) (jroom hR (by first | decide | omega) (by decide)) dX2_step_317 ?_
      rintro v9 h9 ⟨rfl, rfl⟩
      refine j_goto C 327 dX2_step_320 (by decide) ?_
      exact j_vret C hrt hE dX2_step_327 (⟨rfl, mF_tr hF1 mF_en, by rw [es]; exact hen⟩)
    · exact hok.elim
end M5
