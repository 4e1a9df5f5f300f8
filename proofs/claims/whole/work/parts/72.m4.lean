section M4
variable {l : Launch} {w : jW} {h : jH} {PG : Nat → PU} {sz : Nat} {a0 : List Int32} {pr : Nat → Bool} {σ : Nat → Nat} {y0 H b u nx fl tk mx : Nat} {V : List Int32}
theorem lkp_dfx : ∀ (l : List HD) (nm : Nat), lkp (l.map h3) 0 nm = none → dfx l nm = none
  | [], nm, _ => rfl
  | d :: l, nm, h => by
    simp only [List.map_cons] at h
    unfold lkp at h
    unfold dfx
    by_cases c : d.1 = 0 ∧ d.2.1 = nm
    · rw [if_pos (by exact c)] at h; cases h
    · rw [if_neg (by exact c)] at h
      rw [if_neg c, lkp_dfx l nm h]; rfl
theorem mF_en {sz H K rm fl tk mx u : Nat} {st x : Int32} : mF h (enH h sz H K rm fl tk mx u st x) := by
  unfold enH
  split
  · exact mF_68 (by decide)
  · split
    · exact ⟨fun _ _ _ => rfl, rfl, fun k j z1 z2 => by dsimp only; rw [up2_n (by omega), up2_n (by omega)]⟩
    · exact ⟨fun k j z => up2_n z, rfl, fun k j z1 z2 => by dsimp only; rw [up2_n (by omega), up2_n (by omega), up2_n (by omega), up2_n (by omega), up2_n (by omega), up2_n (by omega), up2_n (by omega), up2_n (by omega)]⟩
theorem mF_lv {nb cb : Nat} {go : Option (Nat × Nat)} : mF h (lvH σ h H nb cb go) := by
  unfold lvH
  split
  · exact ⟨fun _ _ _ => rfl, rfl, fun k j z1 z2 => by dsimp only; rw [up2_n (by omega), up2_n (by omega), up2_n (by omega), up2_n (by omega), up2_n (by omega)]⟩
  · exact ⟨fun k j z => up2_n z, rfl, fun k j z1 z2 => by dsimp only; rw [up2_n (by omega), up2_n (by omega), up2_n (by omega), up2_n (by omega), up2_n (by omega)]⟩
/-- an entering, against the event machine -/
theorem enH_ok {m j : Nat} {fs : List Fm} (e4 : h.1 68 4 = nI (bsO a0.length fs)) (e9 : h.1 68 9 = nI (fl + tk)) (eA : h.1 68 10 = 3) (e11 : h.1 68 11 = nI mx) (e12 : h.1 68 12 = nI tk) (hc : cSt PG a0 (h.1 69) fs) (hk : wb (sgo PG m j) 4 ≤ (topT a0 fs).length) : stP PG a0 σ (enH h sz (ht a0.length fs) (wb (sgo PG m j) 4) (rmo PG m j) fl tk mx (σ m) (nI (Pc (PG m).2.1 (bgo PG m j))) (gOn PG fs)) (eEnter PG sz a0 m j (fl, tk, mx, fs, V)) := by
  unfold enH eEnter
  dsimp only
  by_cases c : fl = 0
  · rw [if_pos c, if_pos c]
    exact ⟨⟨by simp [up2]; rfl, by simpa [up2] using e11, by simpa [up2] using e12, fun z => by simp at z⟩, Nat.le_refl _⟩
  · rw [if_neg c, if_neg c]
    by_cases c2 : sz < ht a0.length fs + 2 + rmo PG m j
    · rw [if_pos c2, if_pos c2]
      exact ⟨⟨by simp [up2]; rfl, by simpa [up2] using e11, by simp [up2], fun z => by simp at z⟩, show 1 ≤ 2 by decide⟩
    · rw [if_neg c2, if_neg c2]
      have el : (lastN (wb (sgo PG m j) 4) (topT a0 fs)).length = wb (sgo PG m j) 4 := lastN_len hk
      refine ⟨⟨by simp [up2, ht], ?_, by simp [up2], by simp [up2], (fun z => by simp at z), (fun z => by simp at z), ?_, by simpa [up2] using eA, by simp [up2], by simp [up2]⟩, ?_, ?_, ?_, fun j hj => by simp at hj⟩
      · show _ = nI (ht a0.length fs - (lastN (wb (sgo PG m j) 4) (topT a0 fs)).length)
        rw [el]; simp [up2]
      · simp only [up2]
        simp
        rw [e9]; congr 1; omega
      · refine cSt_keep fs (fun q hq => ?_) hc
        have z1 : ¬ q = ht a0.length fs := by omega
        have z2 : ¬ q = ht a0.length fs + 1 := by omega
        simp [up2, z1, z2]
      · simp [up2]
      · simp [up2, e4]
/-- a return, against the event machine -/
theorem lvH_ok {m i p : Nat} {A : List Int32} {fs : List Fm} (hE : EI PG sz a0 pr y0 (fl, tk, mx, (m, i, p, A, []) :: fs, V)) (he : (PG m).2.1[p]? = some (14, 0, 0, ta (sgo PG m i) 0)) (hM : mR PG a0 σ h (fl, tk, mx, (m, i, p, A, []) :: fs, V)) : stP PG a0 σ (lvH σ (up2 h.1 68 6 (nI nx), h.2) (ht a0.length fs) (bsO a0.length ((m, i, p, A, []) :: fs)) (bsO a0.length fs) (goO PG fs)) (eStep PG sz a0 (fl, tk, mx, (m, i, p, A, []) :: fs, V)) := by
  have hC := hE.2.2.2.2
  obtain ⟨a1, a2, a3, a4, a5, a6, a7, a8, a9, aA⟩ := hM.1
  obtain ⟨b1, b2, b3, -⟩ := hM.2
  unfold eStep
  simp only [he]
  rcases fs with _ | ⟨⟨m2, i2, p2, A2, T2⟩, gs⟩
  · refine ⟨⟨?_, ?_, ?_, fun _ => ⟨fun z => ?_, fun z => ?_⟩⟩, show 0 ≤ 2 by decide⟩
    · simp [lvH, goO, up2]; rfl
    · simpa [lvH, goO, up2] using a9
    · simpa [lvH, goO, up2] using aA
    · simpa [lvH, goO, up2] using a5 z
    · simpa [lvH, goO, up2] using a6 z
  · obtain ⟨w1, w3, w4, w6, w7, w8, wA⟩ := hC
    have ek : (List.take (T2.length - A.length) T2).length = T2.length - A.length := by simp
    have e1 : ht a0.length ((m2, i2, p2, A2, T2) :: gs) = ht a0.length gs + 2 + T2.length := rfl
    refine ⟨⟨?_, ?_, ?_, ?_, fun z => ?_, fun z => ?_, ?_, ?_, ?_, ?_⟩, ?_⟩
    · show _ = nI (ht a0.length gs + 2 + (List.take (T2.length - A.length) T2).length)
      rw [ek]
      simp only [lvH, goO, up2, bsO, e1]
      simp
      congr 1
      omega
    · simp [lvH, goO, up2, bsO]
    · simp [lvH, goO, up2]
    · simp [lvH, goO, up2]
    · simpa [lvH, goO, up2] using a5 z
    · simpa [lvH, goO, up2] using a6 z
    · simpa [lvH, goO, up2] using a7
    · simpa [lvH, goO, up2] using a8
    · simpa [lvH, goO, up2] using a9
    · simpa [lvH, goO, up2] using aA
    · have e69 : (lvH σ (up2 h.1 68 6 (nI nx), h.2) (ht a0.length ((m2, i2, p2, A2, T2) :: gs)) (bsO a0.length ((m, i, p, A, []) :: (m2, i2, p2, A2, T2) :: gs)) (bsO a0.length ((m2, i2, p2, A2, T2) :: gs)) (goO PG ((m2, i2, p2, A2, T2) :: gs))).1 69 = h.1 69 := by funext j; simp [lvH, goO, up2]
      show cSt PG a0 ((lvH σ (up2 h.1 68 6 (nI nx), h.2) (ht a0.length ((m2, i2, p2, A2, T2) :: gs)) (bsO a0.length ((m, i, p, A, []) :: (m2, i2, p2, A2, T2) :: gs)) (bsO a0.length ((m2, i2, p2, A2, T2) :: gs)) (goO PG ((m2, i2, p2, A2, T2) :: gs))).1 69) ((m2, i2, p2, A2, List.take (T2.length - A.length) T2) :: gs)
      rw [e69]
      obtain ⟨c1, c2, c3, c4⟩ := b1
      refine ⟨c1, c2, c3, fun j hj => ?_⟩
      dsimp only at hj ⊢
      rw [ek] at hj
      rw [c4 j (by dsimp only; omega)]
      simp only [List.getD_eq_getElem?_getD]
      rw [List.getElem?_take, if_pos hj]
theorem m_enterNamed (hw : jok w) (hL : lnk PG pr) (hS : mS PG sz pr σ h) {m m' nm j q : Nat} (hm : m < 6 ∧ pr m = true) (hm' : m' < 6 ∧ pr m' = true) (hn : nm < 26) (hj : dfx (PG m').1 nm = some j) (e5 : h.2.1 68 5 = some (ub (σ m))) (e6 : h.1 68 6 = nI q) (e3 : h.1 68 3 = nI H) (hH : H ≤ 500) (e9 : h.1 68 9 = nI (fl + tk)) (e12 : h.1 68 12 = nI tk) (hft : fl + tk ≤ 3000) (e11 : h.1 68 11 = nI mx) (hmx : mx ≤ 500) (hK : wb (sgo PG m' j) 4 ≤ H) : jM l w yX2_enterNamed cX2_enterNamed 4 none 2 [.ref (jad w 68), .int (nI m'), .int (nI nm)] h (fun r h' => r = none ∧ h' = enH h sz H (wb (sgo PG m' j) 4) (rmo PG m' j) fl tk mx (σ m') (nI (Pc (PG m').2.1 (bgo PG m' j))) (nI (m * 240 + q))) := by
  refine jM_of (by decide) hw (Nat.le_of_ble_eq_true rfl) ?_
  intro X C hl hR hnL hrt hE
  subst hl
  have C : jC X w cX2_enterNamed RX2 := C
  have hu := (hS.2.2.2.2.1 m hm.1)
  have hu' := (hS.2.2.2.2.1 m' hm'.1)
  have cU1 := hS.2.2.2.2.2 m hm.1 hm.2
  obtain ⟨c1, c2, c3, c4, c5, c6, c7, c8⟩ := hS.2.2.2.2.2 m' hm'.1 hm'.2
  have U := (hL m' hm'.1 hm'.2).1
  obtain ⟨k3, k4, k5, k6, k7⟩ := jk_unit (σ m) hu.2.1
  obtain ⟨k3', k4', k5', k6', k7'⟩ := jk_unit (σ m') hu'.2.1
  have hub := ub_in hu.2.1
  have hub' := ub_in hu'.2.1
  show J X w h 0 [(0, .ref (jad w 68)), (1, .int (nI m')), (2, .int (nI nm))] []
  refine k_iload_n C dX2_enterNamed_0 rfl ?_
  refine j_if_lt C 24 dX2_enterNamed_1 (by decide) (fun d1 => ?_) (fun d1 => ?_)
  · exact absurd d1 (nI_nlt (a := m') (b := 0) (by omega) (by omega)) -- stop
  · refine k_iload_n C dX2_enterNamed_4 rfl ?_
    refine j_bipush (v := 6) C dX2_enterNamed_5 (by decide) ?_
    refine j_icmp_ge C 24 dX2_enterNamed_7 (by decide) (fun d7 => ?_) (fun d7 => ?_)
    · exact absurd d7 (nI_ge (a := m') (b := 6) (by omega) (by omega)) -- stop
    · refine k_aload_n C dX2_enterNamed_10 rfl ?_
      refine j_getr C fX2_19 rfl (by first | decide | omega) (by first | assumption | rfl) (hS.1) dX2_enterNamed_11 ?_
      refine k_iload_n C dX2_enterNamed_14 rfl ?_
      refine j_aald C (t := 3) (by decide) rfl (by first | decide | omega) (by first | assumption | rfl) (rfl) (hm'.1) (by decide) (hu'.1) dX2_enterNamed_15 ?_
      refine j_iconst (v := -1) C dX2_enterNamed_16 (by decide) ?_
      refine k_iload_n C dX2_enterNamed_17 rfl ?_
      refine k_callV (k := ub (σ m')) (ci := 3) (As := [.int (oI 0), .int (nI nm)]) C mX2_115 (f_find (hs := (PG m').1) hw hu'.2 c6 c2 (fun i hi => ⟨(c7 i hi).1, (c7 i hi).2.1, (U.2.2.2.1 i hi).1.1, (U.2.2.2.1 i hi).1.2.1⟩) (o := 0) (by decide) hn) jCl3.1 (by omega) k3' rfl rfl (Nat.le_of_ble_eq_true rfl) (jroom hR (by decide) (by decide)) dX2_enterNamed_18 ?_
      rintro v9 h9 ⟨rfl, ⟨hl9, rfl⟩ | ⟨i, hi, g1, g2, g3, -, rfl⟩⟩
      · rw [lkp_dfx _ _ hl9] at hj; cases hj
      · have e := dfx_first (PG m').1 nm i hi g1 g2 g3
        rw [hj] at e
        simp only [Option.some.injEq] at e
        subst e
        have hj6 : j < 6 := by omega
        have k8 := k7' j hj6
        have eg := gtD hi
        obtain ⟨r1, r2⟩ := (c8 (Pc (PG m').2.1) rfl (cmp_P0 _)).2 j hi g1
        have r3 := (c7 j hi).2.2.2.1
        have hrm := (puOk_at U hi g1).1
        refine j_goto C 25 dX2_enterNamed_21 (by decide) ?_
        refine k_astore_n C dX2_enterNamed_25 (by rw [hnL]; decide) ?_
        refine k_aload_n C dX2_enterNamed_26 rfl ?_
        refine j_ifnonnull C 36 dX2_enterNamed_27 (by decide) ?_
        refine k_aload_n C dX2_enterNamed_36 rfl ?_
        refine k_aload_n C dX2_enterNamed_37 rfl ?_
        refine j_getr C fX2_19 rfl (by decide) rfl hS.1 dX2_enterNamed_38 ?_
        refine k_iload_n C dX2_enterNamed_41 rfl ?_
        refine j_aald C (t := 3) (by decide) rfl (by decide) rfl rfl hm'.1 (by decide) hu'.1 dX2_enterNamed_42 ?_
        refine k_aload_n C dX2_enterNamed_43 rfl ?_
        refine k_aload_n C dX2_enterNamed_44 rfl ?_
        refine j_getr C fX2_85 rfl (by decide) rfl e5 dX2_enterNamed_45 ?_
        refine j_geti C fX2_119 rfl (by omega) k3 dX2_enterNamed_48 ?_
        refine j_sipush (v := nI 240) C dX2_enterNamed_51 (by decide) ?_
        refine j_imul C dX2_enterNamed_54 ?_
        refine k_aload_n C dX2_enterNamed_55 rfl ?_
        refine j_geti C fX2_92 rfl (by decide) rfl dX2_enterNamed_56 ?_
        refine j_iadd C dX2_enterNamed_59 ?_
        rw [cU1.2.2.2.2.1, e6, pk_mul, nI_add]
        refine k_callV (k := 68) (ci := 2) (As := [.ref (jad w (ub (σ m'))), .ref (jad w (ub (σ m') + 3 + j)), .int (nI (m * 240 + q))]) C mX2_46 (m_enter (st := nI (Pc (PG m').2.1 (bgo PG m' j))) (K := wb (sgo PG m' j) 4) (rm := rmo PG m' j) hw hS.2.1 hS.2.2.1 hS.2.2.2.1 e3 hH e9 e12 hft e11 hmx hu'.2.1 hj6 (by unfold sgo; rw [eg]; exact r3) r2 (by unfold rmo; omega) hK r1) jCl2.1 (by decide) rfl rfl rfl (Nat.le_of_ble_eq_true rfl) (jroom hR (by decide) (by decide)) dX2_enterNamed_60 ?_
        rintro v9 h9 ⟨rfl, rfl⟩
        exact j_vret C hrt hE dX2_enterNamed_63 ⟨rfl, rfl⟩
end M4
