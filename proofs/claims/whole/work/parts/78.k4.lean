section K4
variable {l : Launch} {w : jW} {h : jH} {PG : Nat → PU} {pr : Nat → Bool} {σ : Nat → Nat} {n : Nat} {t : Nat → Nat}
theorem fitP_dfO {d : HD} (h0 : d.1 ≠ 0) (h6 : d.1 ≤ 6) (hn : d.2.1 < 26) : dfO PG pr (oI d.1) (nI d.2.1) = if pr (d.1 - 1) then (dfx (PG (d.1 - 1)).1 d.2.1).map (fun i => (d.1 - 1, i)) else none := by
  obtain ⟨o, ho⟩ : ∃ o, d.1 = o + 1 := ⟨d.1 - 1, by omega⟩
  rw [ho, oI_s]
  unfold dfO prs dfn
  rw [iK_of (by decide) (show o < 6 by omega), iK_of (by decide) hn]
  simp only [Option.filter, Nat.add_sub_cancel]
  cases pr o <;> rfl
theorem m_fits (hw : jok w) (hr : kR σ h) (hM : kM PG pr σ h) {m i : Nat} (hm : m < 6) (hp : pr m = true) (hi : i < (PG m).1.length) (h0 : ((PG m).1[i]).1 ≠ 0) : jM l w yX4_fits cX4_fits 3 (some .boolean) 2 [.ref (jad w 0), .ref (jad w (ub (σ m) + 3 + i))] h (fun r h' => r = some (.int (if fitP PG pr ((PG m).1[i]) then 1 else 0)) ∧ h' = h) := by
  refine jM_of (by decide) hw (Nat.le_of_ble_eq_true rfl) ?_
  intro X C hl hR hnL hrt hE
  subst hl
  have C : jC X w cX4_fits RX4 := C
  obtain ⟨cu, U⟩ := (hM m hm).2 hp
  have hu := hr.2.2.2.2.2.2.2.2.1 m (by omega)
  obtain ⟨k3, k4, k5, k6, k7⟩ := jk_unit (σ m) hu.1
  have hub := ub_in hu.1
  have hi6 : i < 6 := by have := U.1; omega
  have k8 := k7 i hi6
  obtain ⟨q0, q1, q2, q3, q4⟩ := cu.2.2.2.2.2.2.1 i hi
  obtain ⟨⟨u1, u2, u3, u4, u5, u6, u7⟩, -⟩ := U.2.2.2.1 i hi
  have eD := fitP_dfO (PG := PG) (pr := pr) h0 u1 u2
  show J X w h 0 [(0, .ref (jad w 0)), (1, .ref (jad w (ub (σ m) + 3 + i)))] []
  have start : (∀ v, v = vrf w ((dfO PG pr (oI ((PG m).1[i]).1) (nI ((PG m).1[i]).2.1)).map (fun q => ub (σ q.1) + 3 + q.2)) → J X w h 12 [(0, .ref (jad w 0)), (1, .ref (jad w (ub (σ m) + 3 + i)))] [v]) → J X w h 0 [(0, .ref (jad w 0)), (1, .ref (jad w (ub (σ m) + 3 + i)))] [] := by
    intro kk
    refine k_aload_n C dX4_fits_0 rfl ?_
    refine k_aload_n C dX4_fits_1 rfl ?_
    refine j_geti C fX4_163 rfl (by first | decide | omega) (by first | assumption | rfl) dX4_fits_2 ?_
    rw [q0]
    refine k_aload_n C dX4_fits_5 rfl ?_
    refine j_geti C fX4_170 rfl (by first | decide | omega) (by first | assumption | rfl) dX4_fits_6 ?_
    rw [q1]
    refine k_callV (k := 0) (ci := 4) (As := [.int (oI ((PG m).1[i]).1), .int (nI ((PG m).1[i]).2.1)]) C mX4_107 (m_definitionOf hw hr hM (oI ((PG m).1[i]).1) (nI ((PG m).1[i]).2.1)) jCl4.1 (by first | decide | omega) (by first | assumption | rfl) rfl rfl (Nat.le_of_ble_eq_true rfl) (jroom hR (by first | decide | omega) (by decide)) dX4_fits_9 ?_
    rintro v9 h9 ⟨rfl, e9⟩
    obtain rfl := e9.symm
    exact kk _ rfl
  refine start (fun v hv => ?_)
  rw [eD] at hv
  have nofit : fitP PG pr ((PG m).1[i]) = false → v = .null → J X w h 12 [(0, .ref (jad w 0)), (1, .ref (jad w (ub (σ m) + 3 + i)))] [v] := by
    intro ef ev
    subst ev
    refine k_astore_nN C dX4_fits_12 (by rw [hnL]; decide) ?_
    refine k_aload_nN C dX4_fits_13 rfl ?_
    refine j_ifnullN C 39 dX4_fits_14 (by decide) ?_
    refine j_iconst (v := 0) C dX4_fits_39 (by decide) ?_
    exact j_zret C hrt (rfl) hE dX4_fits_40 (⟨by rw [ef]; rfl, rfl⟩)
  cases hpo : pr (((PG m).1[i]).1 - 1) with
  | false =>
    rw [hpo] at hv
    exact nofit (by unfold fitP; rw [hpo]; rfl) hv
  | true =>
    rw [hpo] at hv
    cases hd : dfx (PG (((PG m).1[i]).1 - 1)).1 ((PG m).1[i]).2.1 with
    | none =>
      rw [hd] at hv
      exact nofit (by unfold fitP; rw [hpo, hd]; rfl) hv
    | some j =>
      rw [hd] at hv
      have ef : fitP PG pr ((PG m).1[i]) = (((PG (((PG m).1[i]).1 - 1)).1.getD j (0, 0, 0, 0, 0)).2.2.2.1 == 1 && ((PG (((PG m).1[i]).1 - 1)).1.getD j (0, 0, 0, 0, 0)).2.2.1 == ((PG m).1[i]).2.2.1) := by unfold fitP; rw [hpo, hd]; rfl
      generalize hm2 : ((PG m).1[i]).1 - 1 = m2 at *
      have hm26 : m2 < 6 := by omega
      obtain ⟨cu2, U2⟩ := (hM m2 hm26).2 hpo
      have hu2 := hr.2.2.2.2.2.2.2.2.1 m2 (by omega)
      obtain ⟨k3', k4', k5', k6', k7'⟩ := jk_unit (σ m2) hu2.1
      have hub2 := ub_in hu2.1
      obtain ⟨hj, -, -⟩ := dfx_some _ _ _ hd
      have hj6 : j < 6 := by have := U2.1; omega
      have k8' := k7' j hj6
      obtain ⟨p0, p1, p2, p3, p4⟩ := cu2.2.2.2.2.2.2.1 j hj
      obtain ⟨⟨v1, v2, v3, v4, v5, v6, v7⟩, -⟩ := U2.2.2.2.1 j hj
      rw [gtD hj] at ef
      have hv' : v = .ref (jad w (ub (σ m2) + 3 + j)) := hv
      subst hv'
      refine k_astore_n C dX4_fits_12 (by rw [hnL]; decide) ?_
      refine k_aload_n C dX4_fits_13 rfl ?_
      refine j_ifnull C dX4_fits_14 ?_
      refine k_aload_n C dX4_fits_17 rfl ?_
      refine j_geti C fX4_116 rfl (by first | decide | omega) (by first | assumption | rfl) dX4_fits_18 ?_
      refine j_if_eq C 39 dX4_fits_21 (by decide) (fun c21 => ?_) (fun c21 => ?_)
      · have c21' : ((PG m2).1[j]).2.2.2.1 = 0 := (nI_eq (b := 0) (by omega) (by omega)).mp (p4.symm.trans c21)
        refine j_iconst (v := 0) C dX4_fits_39 (by decide) ?_
        exact j_zret C hrt (rfl) hE dX4_fits_40 (by first | exact ⟨by rw [ef, c21']; rfl, rfl⟩ | exact ⟨by rw [ef, show ((PG m2).1[j]).2.2.2.1 = 1 by omega]; simp [c32'], rfl⟩ | exact ⟨by rw [ef]; simp [c32'], rfl⟩)
      · have c21' : ¬ ((PG m2).1[j]).2.2.2.1 = 0 := fun z => c21 (by rw [p4, z]; rfl)
        refine k_aload_n C dX4_fits_24 rfl ?_
        refine j_geti C fX4_122 rfl (by first | decide | omega) (by first | assumption | rfl) dX4_fits_25 ?_
        refine k_aload_n C dX4_fits_28 rfl ?_
        refine j_geti C fX4_122 rfl (by first | decide | omega) (by first | assumption | rfl) dX4_fits_29 ?_
        refine j_icmp_ne C 39 dX4_fits_32 (by decide) (fun c32 => ?_) (fun c32 => ?_)
        · have c32' : ¬ ((PG m2).1[j]).2.2.1 = ((PG m).1[i]).2.2.1 := fun z => c32 (by rw [p2, q2, z])
          refine j_iconst (v := 0) C dX4_fits_39 (by decide) ?_
          exact j_zret C hrt (rfl) hE dX4_fits_40 (by first | exact ⟨by rw [ef, c21']; rfl, rfl⟩ | exact ⟨by rw [ef, show ((PG m2).1[j]).2.2.2.1 = 1 by omega]; simp [c32'], rfl⟩ | exact ⟨by rw [ef]; simp [c32'], rfl⟩)
        · have c32' : ((PG m2).1[j]).2.2.1 = ((PG m).1[i]).2.2.1 := (nI_eq (by omega) (by omega)).mp (p2.symm.trans (c32.trans q2))
          refine j_iconst (v := 1) C dX4_fits_35 (by decide) ?_
          refine j_goto C 40 dX4_fits_36 (by decide) ?_
          exact j_zret C hrt (rfl) hE dX4_fits_40 (by first | exact ⟨by rw [ef, c21']; rfl, rfl⟩ | exact ⟨by rw [ef, show ((PG m2).1[j]).2.2.2.1 = 1 by omega]; simp [c32'], rfl⟩ | exact ⟨by rw [ef]; simp [c32'], rfl⟩)
theorem m_firstUnfit (hw : jok w) (hr : kR σ h) (hM : kM PG pr σ h) {m : Nat} (hm : m < 6) (hp : pr m = true) : jM l w yX4_firstUnfit cX4_firstUnfit 4 (some .int) 3 [.ref (jad w 0), .ref (jad w (ub (σ m)))] h (fun r h' => r = some (.int (match unfI PG pr (PG m).1 0 with | none => -1 | some i => nI i)) ∧ h' = h) := by
  refine jM_of (by decide) hw (Nat.le_of_ble_eq_true rfl) ?_
  intro X C hl hR hnL hrt hE
  subst hl
  have C : jC X w cX4_firstUnfit RX4 := C
  obtain ⟨cu, U⟩ := (hM m hm).2 hp
  have hu := hr.2.2.2.2.2.2.2.2.1 m (by omega)
  obtain ⟨k3, k4, k5, k6, k7⟩ := jk_unit (σ m) hu.1
  have hub := ub_in hu.1
  have hc := cu.2.2.2.2.2.1
  have h6 := cu.2.1
  have loop : ∀ (f i : Nat), i + f = (PG m).1.length → unfI PG pr (PG m).1 0 = unfI PG pr ((PG m).1.drop i) i → J X w h 2 [(0, .ref (jad w 0)), (1, .ref (jad w (ub (σ m)))), (2, .int (nI i))] [] := by
    intro f
    induction f with
    | zero =>
      intro i hi e
      rw [List.drop_eq_nil_of_le (by omega)] at e
      refine k_iload_n C dX4_firstUnfit_2 rfl ?_
      refine k_aload_n C dX4_firstUnfit_3 rfl ?_
      refine j_geti C fX4_156 rfl (by first | decide | omega) (by first | assumption | rfl) dX4_firstUnfit_4 ?_
      refine j_icmp_ge C 41 dX4_firstUnfit_7 (by decide) (fun c7 => ?_) (fun c7 => ?_)
      · refine j_iconst (v := -1) C dX4_firstUnfit_41 (by decide) ?_
        exact j_iret C hrt hE dX4_firstUnfit_42 (⟨by rw [e]; rfl, rfl⟩)
      · exact absurd (by rw [hc]; exact nI_le (a := (PG m).1.length) (b := i) (by omega) (by omega)) c7 -- stop
    | succ f ih =>
      intro i hi e
      have hil : i < (PG m).1.length := by omega
      have k8 := k7 i (by omega)
      obtain ⟨q0, q1, q2, q3, q4⟩ := cu.2.2.2.2.2.2.1 i hil
      have u1 := (U.2.2.2.1 i hil).1.1
      rw [List.drop_eq_getElem_cons hil] at e
      conv at e => rhs; unfold unfI
      have nxt : ¬ (((PG m).1[i]).1 ≠ 0 ∧ fitP PG pr ((PG m).1[i]) = false) → J X w h 35 [(0, .ref (jad w 0)), (1, .ref (jad w (ub (σ m)))), (2, .int (nI i)), (3, .ref (jad w (ub (σ m) + 3 + i)))] [] := by
        intro z
        rw [if_neg z] at e
        refine k_iinc C dX4_firstUnfit_35 rfl rfl (by rw [hnL]; decide) ?_
        refine j_goto C 2 dX4_firstUnfit_38 (by decide) ?_
        rw [show nI i + Int32.ofInt 1 = nI (i + 1) from nI_1 i]
        refine j_mono (lv' := [(0, .ref (jad w 0)), (1, .ref (jad w (ub (σ m)))), (2, .int (nI (i + 1)))]) (fun q hq => show q ∈ [(0, Value.ref (jad w 0)), (1, Value.ref (jad w (ub (σ m)))), (2, Value.int (nI (i + 1))), (3, Value.ref (jad w (ub (σ m) + 3 + i)))] from List.mem_append_left [(3, Value.ref (jad w (ub (σ m) + 3 + i)))] hq) ?_
        exact ih (i + 1) (by omega) e
      refine k_iload_n C dX4_firstUnfit_2 rfl ?_
      refine k_aload_n C dX4_firstUnfit_3 rfl ?_
      refine j_geti C fX4_156 rfl (by first | decide | omega) (by first | assumption | rfl) dX4_firstUnfit_4 ?_
      refine j_icmp_ge C 41 dX4_firstUnfit_7 (by decide) (fun c7 => ?_) (fun c7 => ?_)
      · exact absurd c7 (by rw [hc]; exact nI_ge (a := i) (b := (PG m).1.length) (by omega) (by omega)) -- stop
      · refine k_aload_n C dX4_firstUnfit_10 rfl ?_
        refine j_getr C fX4_159 rfl (by first | decide | omega) (by first | assumption | rfl) (hu.2.1) dX4_firstUnfit_11 ?_
        refine k_iload_n C dX4_firstUnfit_14 rfl ?_
        refine j_aald C (t := 4) (by decide) rfl (by first | decide | omega) (by first | assumption | rfl) (rfl) ((by omega)) (by decide) (hu.2.2.2 i (by omega)) dX4_firstUnfit_15 ?_
        refine k_astore_n C dX4_firstUnfit_16 (by rw [hnL]; decide) ?_
        refine k_aload_n C dX4_firstUnfit_17 rfl ?_
        refine j_geti C fX4_163 rfl (by first | decide | omega) (by first | assumption | rfl) dX4_firstUnfit_18 ?_
        refine j_iconst (v := -1) C dX4_firstUnfit_21 (by decide) ?_
        refine j_icmp_eq C 35 dX4_firstUnfit_22 (by decide) (fun c22 => ?_) (fun c22 => ?_)
        · have c22' : ((PG m).1[i]).1 = 0 := (oI_eq (by omega) (by omega)).mp (by rw [← q0, oI_0]; exact c22)
          first | exact nxt (fun z => z.1 c22') | exact nxt (fun z => c30 z.2)
        · have c22' : ((PG m).1[i]).1 ≠ 0 := fun z => c22 (by rw [q0, z]; exact oI_0)
          refine k_aload_n C dX4_firstUnfit_25 rfl ?_
          refine k_aload_n C dX4_firstUnfit_26 rfl ?_
          refine k_callV (k := 0) (ci := 4) (As := [.ref (jad w (ub (σ m) + 3 + i))]) C mX4_166 (m_fits hw hr hM hm hp hil c22') jCl4.1 (by first | decide | omega) (by first | assumption | rfl) rfl rfl (Nat.le_of_ble_eq_true rfl) (jroom hR (by first | decide | omega) (by decide)) dX4_firstUnfit_27 ?_
          rintro v9 h9 ⟨rfl, e9⟩
          obtain rfl := e9.symm
          refine j_if_ne C 35 dX4_firstUnfit_30 (by decide) (fun c30 => ?_) (fun c30 => ?_)
          · rw [iz] at c30
            first | exact nxt (fun z => z.1 c22') | exact nxt (fun z => c30 z.2)
          · rw [iz] at c30
            refine k_iload_n C dX4_firstUnfit_33 rfl ?_
            exact j_iret C hrt hE dX4_firstUnfit_34 (⟨by rw [e, if_pos ⟨c22', by first | exact c30 | exact Classical.not_not.mp c30⟩], rfl⟩)
  show J X w h 0 [(0, .ref (jad w 0)), (1, .ref (jad w (ub (σ m))))] []
  refine j_iconst (v := 0) C dX4_firstUnfit_0 (by decide) ?_
  refine k_istore_n C dX4_firstUnfit_1 (by rw [hnL]; decide) ?_
  exact loop (PG m).1.length 0 (by omega) rfl
theorem kM_keep {h' : jH} (hr : kR σ h) (hk : ∀ k j, 3 ≤ k → k < 68 → k ≠ 13 → h'.1 k j = h.1 k j) (H : kM PG pr σ h) : kM PG pr σ h' := by
  intro m hm
  obtain ⟨a, b⟩ := H m hm
  have hu := hr.2.2.2.2.2.2.2.2.1 m (by omega)
  have := ub_in hu.1
  exact ⟨by rw [hk 3 m (by omega) (by omega) (by omega)]; exact a, fun z => ⟨cU_keep hu.1 (fun k j z1 z2 => hk k j (by omega) (by omega) (by omega)) (b z).1, (b z).2⟩⟩
theorem kR_same {h' : jH} (e : h'.2.1 = h.2.1) (H : kR σ h) : kR σ h' := by
  unfold kR ur at *
  rw [e]; exact H
def uO (q : Option (Nat × Nat)) : Int32 × Int32 := match q with
  | none => (-1, -1)
  | some x => (nI x.1, nI x.2)
theorem m_findUnfit (hw : jok w) (hr : kR σ h) (hM : kM PG pr σ h) : jM l w yX4_findUnfit cX4_findUnfit 3 none 4 [.ref (jad w 0)] h (fun r h' => r = none ∧ h' = (up2 (up2 h.1 0 9 (uO (unfM PG pr 6 0)).1) 0 10 (uO (unfM PG pr 6 0)).2, h.2)) := by
  refine jM_of (by decide) hw (Nat.le_of_ble_eq_true rfl) ?_
  intro X C hl hR hnL hrt hE
  subst hl
  have C : jC X w cX4_findUnfit RX4 := C
  have loop : ∀ (f m : Nat), m + f = 6 → unfM PG pr 6 0 = unfM PG pr f m → J X w (up2 (up2 h.1 0 9 (-1)) 0 10 (-1), h.2) 12 [(0, .ref (jad w 0)), (1, .int (nI m))] [] := by
    intro f
    induction f with
    | zero =>
      intro m hm e
      refine k_iload_n C dX4_findUnfit_12 rfl ?_
      refine j_bipush (v := 6) C dX4_findUnfit_13 (by decide) ?_
      refine j_icmp_ge C 71 dX4_findUnfit_15 (by decide) (fun c15 => ?_) (fun c15 => ?_)
      · exact j_vret C hrt hE dX4_findUnfit_71 (⟨rfl, by rw [e]; rfl⟩)
      · exact absurd (nI_le (a := 6) (b := m) (by omega) (by omega)) c15 -- stop
    | succ f ih =>
      intro m hm e
      obtain ⟨h1, eh1⟩ : ∃ h1 : jH, h1 = (up2 (up2 h.1 0 9 (-1)) 0 10 (-1), h.2) := ⟨_, rfl⟩
      rw [← eh1] at ih ⊢
      have hr1 : kR σ h1 := kR_same (by rw [eh1]) hr
      have hM1 : kM PG pr σ h1 := kM_keep hr (fun k j z1 z2 z3 => by rw [eh1]; dsimp only; rw [up2_n (by omega), up2_n (by omega)]) hM
      have f9 : h1.1 0 9 = -1 := by rw [eh1]; simp [up2]
      have hp := (hM1 m (by omega)).1
      have hu := hr1.2.2.2.2.2.2.2.2.1 m (by omega)
      obtain ⟨k3, k4, k5, k6, k7⟩ := jk_unit (σ m) hu.1
      conv at e => rhs; unfold unfM
      have nxt : unfM PG pr 6 0 = unfM PG pr f (m + 1) → J X w h1 49 [(0, .ref (jad w 0)), (1, .int (nI m))] [.int (-1)] := by
        intro e
        refine k_istore_n C dX4_findUnfit_49 (by rw [hnL]; decide) ?_
        refine k_iload_n C dX4_findUnfit_50 rfl ?_
        refine j_iconst (v := -1) C dX4_findUnfit_51 (by decide) ?_
        refine j_icmp_eq C 65 dX4_findUnfit_52 (by decide) (fun c52 => ?_) (fun c52 => ?_)
        · refine k_iinc C dX4_findUnfit_65 rfl rfl (by rw [hnL]; decide) ?_
          refine j_goto C 12 dX4_findUnfit_68 (by decide) ?_
          rw [show nI m + Int32.ofInt 1 = nI (m + 1) from nI_1 m]
          refine j_mono (lv' := [(0, .ref (jad w 0)), (1, .int (nI (m + 1)))]) (fun q hq => show q ∈ [(0, Value.ref (jad w 0)), (1, Value.int (nI (m + 1))), (2, Value.int (-1))] from List.mem_append_left [(2, Value.int (-1))] hq) ?_
          exact ih (m + 1) (by omega) e
        · exact absurd rfl c52 -- stop
      cases hpm : pr m with
      | false =>
        rw [hpm] at hp e
        refine k_iload_n C dX4_findUnfit_12 rfl ?_
        refine j_bipush (v := 6) C dX4_findUnfit_13 (by decide) ?_
        refine j_icmp_ge C 71 dX4_findUnfit_15 (by decide) (fun c15 => ?_) (fun c15 => ?_)
        · exact absurd c15 (nI_ge (a := m) (b := 6) (by omega) (by omega)) -- stop
        · refine k_aload_n C dX4_findUnfit_18 rfl ?_
          refine j_geti C fX4_39 rfl (by first | decide | omega) (by first | assumption | rfl) dX4_findUnfit_19 ?_
          refine j_iconst (v := -1) C dX4_findUnfit_22 (by decide) ?_
          refine j_icmp_ne C 71 dX4_findUnfit_23 (by decide) (fun c23 => ?_) (fun c23 => ?_)
          · exact absurd f9 c23 -- stop
          · refine k_aload_n C dX4_findUnfit_26 rfl ?_
            refine j_getr C fX4_19 rfl (by first | decide | omega) (by first | assumption | rfl) (hr1.2.2.1) dX4_findUnfit_27 ?_
            refine k_iload_n C dX4_findUnfit_30 rfl ?_
            refine j_zald C (by first | decide | omega) (by first | assumption | rfl) (rfl) ((by omega)) (by decide) dX4_findUnfit_31 ?_
            refine j_if_eq C 48 dX4_findUnfit_32 (by decide) (fun c32 => ?_) (fun c32 => ?_)
            · refine j_iconst (v := -1) C dX4_findUnfit_48 (by decide) ?_
              exact nxt e
            · exact absurd hp c32 -- stop
      | true =>
        rw [hpm] at hp e
        cases eu : unfI PG pr (PG m).1 0 with
        | none =>
          rw [eu] at e
          refine k_iload_n C dX4_findUnfit_12 rfl ?_
          refine j_bipush (v := 6) C dX4_findUnfit_13 (by decide) ?_
          refine j_icmp_ge C 71 dX4_findUnfit_15 (by decide) (fun c15 => ?_) (fun c15 => ?_)
          · exact absurd c15 (nI_ge (a := m) (b := 6) (by omega) (by omega)) -- stop
          · refine k_aload_n C dX4_findUnfit_18 rfl ?_
            refine j_geti C fX4_39 rfl (by first | decide | omega) (by first | assumption | rfl) dX4_findUnfit_19 ?_
            refine j_iconst (v := -1) C dX4_findUnfit_22 (by decide) ?_
            refine j_icmp_ne C 71 dX4_findUnfit_23 (by decide) (fun c23 => ?_) (fun c23 => ?_)
            · exact absurd f9 c23 -- stop
            · refine k_aload_n C dX4_findUnfit_26 rfl ?_
              refine j_getr C fX4_19 rfl (by first | decide | omega) (by first | assumption | rfl) (hr1.2.2.1) dX4_findUnfit_27 ?_
              refine k_iload_n C dX4_findUnfit_30 rfl ?_
              refine j_zald C (by first | decide | omega) (by first | assumption | rfl) (rfl) ((by omega)) (by decide) dX4_findUnfit_31 ?_
              refine j_if_eq C 48 dX4_findUnfit_32 (by decide) (fun c32 => ?_) (fun c32 => ?_)
              · rw [hp] at c32; exact absurd c32 (by decide) -- stop
              · refine k_aload_n C dX4_findUnfit_35 rfl ?_
                refine k_aload_n C dX4_findUnfit_36 rfl ?_
                refine j_getr C fX4_15 rfl (by first | decide | omega) (by first | assumption | rfl) (hr1.2.1) dX4_findUnfit_37 ?_
                refine k_iload_n C dX4_findUnfit_40 rfl ?_
                refine j_aald C (t := 3) (by decide) rfl (by first | decide | omega) (by first | assumption | rfl) (rfl) ((by omega)) (by decide) (hr1.2.2.2.2.2.2.2.1 m (by omega)) dX4_findUnfit_41 ?_
                refine k_callV (k := 0) (ci := 4) (As := [.ref (jad w (ub (σ m)))]) C mX4_152 (m_firstUnfit hw hr1 hM1 (m := m) (by omega) hpm) jCl4.1 (by first | decide | omega) (by first | assumption | rfl) rfl rfl (Nat.le_of_ble_eq_true rfl) (jroom hR (by first | decide | omega) (by decide)) dX4_findUnfit_42 ?_
                rintro v9 h9 ⟨rfl, e9⟩
                obtain rfl := e9.symm
                rw [eu]
                refine j_goto C 49 dX4_findUnfit_45 (by decide) ?_
                exact nxt e
        | some i =>
          rw [eu] at e
          have hi2 : i < 2 ^ 31 := by
            have U := ((hM m (by omega)).2 hpm).2
            have key : ∀ (l : List HD) (a b : Nat), unfI PG pr l a = some b → b < a + l.length := by
              intro l
              induction l with
              | nil => intro a b h; simp [unfI] at h
              | cons d l ih2 =>
                intro a b h
                unfold unfI at h
                split at h
                · simp at h; subst h; simp
                · have := ih2 (a + 1) b h; simp; omega
            have := key _ _ _ eu
            have := U.1
            omega
          refine k_iload_n C dX4_findUnfit_12 rfl ?_
          refine j_bipush (v := 6) C dX4_findUnfit_13 (by decide) ?_
          refine j_icmp_ge C 71 dX4_findUnfit_15 (by decide) (fun c15 => ?_) (fun c15 => ?_)
          · exact absurd c15 (nI_ge (a := m) (b := 6) (by omega) (by omega)) -- stop
          · refine k_aload_n C dX4_findUnfit_18 rfl ?_
            refine j_geti C fX4_39 rfl (by first | decide | omega) (by first | assumption | rfl) dX4_findUnfit_19 ?_
            refine j_iconst (v := -1) C dX4_findUnfit_22 (by decide) ?_
            refine j_icmp_ne C 71 dX4_findUnfit_23 (by decide) (fun c23 => ?_) (fun c23 => ?_)
            · exact absurd f9 c23 -- stop
            · refine k_aload_n C dX4_findUnfit_26 rfl ?_
              refine j_getr C fX4_19 rfl (by first | decide | omega) (by first | assumption | rfl) (hr1.2.2.1) dX4_findUnfit_27 ?_
              refine k_iload_n C dX4_findUnfit_30 rfl ?_
              refine j_zald C (by first | decide | omega) (by first | assumption | rfl) (rfl) ((by omega)) (by decide) dX4_findUnfit_31 ?_
              refine j_if_eq C 48 dX4_findUnfit_32 (by decide) (fun c32 => ?_) (fun c32 => ?_)
              · rw [hp] at c32; exact absurd c32 (by decide) -- stop
              · refine k_aload_n C dX4_findUnfit_35 rfl ?_
                refine k_aload_n C dX4_findUnfit_36 rfl ?_
                refine j_getr C fX4_15 rfl (by first | decide | omega) (by first | assumption | rfl) (hr1.2.1) dX4_findUnfit_37 ?_
                refine k_iload_n C dX4_findUnfit_40 rfl ?_
                refine j_aald C (t := 3) (by decide) rfl (by first | decide | omega) (by first | assumption | rfl) (rfl) ((by omega)) (by decide) (hr1.2.2.2.2.2.2.2.1 m (by omega)) dX4_findUnfit_41 ?_
                refine k_callV (k := 0) (ci := 4) (As := [.ref (jad w (ub (σ m)))]) C mX4_152 (m_firstUnfit hw hr1 hM1 (m := m) (by omega) hpm) jCl4.1 (by first | decide | omega) (by first | assumption | rfl) rfl rfl (Nat.le_of_ble_eq_true rfl) (jroom hR (by first | decide | omega) (by decide)) dX4_findUnfit_42 ?_
                rintro v9 h9 ⟨rfl, e9⟩
                obtain rfl := e9.symm
                rw [eu]
                refine j_goto C 49 dX4_findUnfit_45 (by decide) ?_
                refine k_istore_n C dX4_findUnfit_49 (by rw [hnL]; decide) ?_
                refine k_iload_n C dX4_findUnfit_50 rfl ?_
                refine j_iconst (v := -1) C dX4_findUnfit_51 (by decide) ?_
                refine j_icmp_eq C 65 dX4_findUnfit_52 (by decide) (fun c52 => ?_) (fun c52 => ?_)
                · exact absurd c52 (nI_m1 hi2) -- stop
                · refine k_aload_n C dX4_findUnfit_55 rfl ?_
                  refine k_iload_n C dX4_findUnfit_56 rfl ?_
                  refine j_puti C fX4_39 rfl rfl (by first | decide | omega) (by first | assumption | rfl) dX4_findUnfit_57 ?_
                  refine k_aload_n C dX4_findUnfit_60 rfl ?_
                  refine k_iload_n C dX4_findUnfit_61 rfl ?_
                  refine j_puti C fX4_42 rfl rfl (by first | decide | omega) (by first | assumption | rfl) dX4_findUnfit_62 ?_
                  refine k_iinc C dX4_findUnfit_65 rfl rfl (by rw [hnL]; decide) ?_
                  refine j_goto C 12 dX4_findUnfit_68 (by decide) ?_
                  refine j_mono (lv' := [(0, .ref (jad w 0)), (1, .int (nI m + Int32.ofInt 1))]) (fun q hq => show q ∈ [(0, Value.ref (jad w 0)), (1, Value.int (nI m + Int32.ofInt 1)), (2, Value.int (nI i))] from List.mem_append_left [(2, Value.int (nI i))] hq) ?_
                  rw [show nI m + Int32.ofInt 1 = nI (m + 1) from nI_1 m]
                  refine k_iload_n C dX4_findUnfit_12 rfl ?_
                  refine j_bipush (v := 6) C dX4_findUnfit_13 (by decide) ?_
                  have g9 : (up2 (up2 h1.1 0 9 (nI m)) 0 10 (nI i)) 0 9 = nI m := by simp [up2]
                  have eo : uO (unfM PG pr 6 0) = (nI m, nI i) := by rw [e]; rfl
                  have fin : J X w (up2 (up2 h1.1 0 9 (nI m)) 0 10 (nI i), h1.2) 71 [(0, .ref (jad w 0)), (1, .int (nI (m + 1)))] [] := j_vret C hrt hE dX4_findUnfit_71 ⟨rfl, by rw [eo, eh1]; refine Prod.ext ?_ rfl; funext a b; simp only [up2]; by_cases z1 : a = 0 ∧ b = 10; (simp [z1]); by_cases z2 : a = 0 ∧ b = 9; (simp [z2]); simp [z1, z2]⟩
                  refine j_icmp_ge C 71 dX4_findUnfit_15 (by decide) (fun _ => fin) (fun _ => ?_)
                  refine k_aload_n C dX4_findUnfit_18 rfl ?_
                  refine j_geti C fX4_39 rfl (by decide) rfl dX4_findUnfit_19 ?_
                  refine j_iconst (v := -1) C dX4_findUnfit_22 (by decide) ?_
                  exact j_icmp_ne C 71 dX4_findUnfit_23 (by decide) (fun _ => fin) (fun c => absurd (g9.symm.trans c) (nI_m1 (by omega)))
  show J X w h 0 [(0, .ref (jad w 0))] []
  refine k_aload_n C dX4_findUnfit_0 rfl ?_
  refine j_iconst (v := -1) C dX4_findUnfit_1 (by decide) ?_
  refine j_puti C fX4_39 rfl rfl (by first | decide | omega) (by first | assumption | rfl) dX4_findUnfit_2 ?_
  refine k_aload_n C dX4_findUnfit_5 rfl ?_
  refine j_iconst (v := -1) C dX4_findUnfit_6 (by decide) ?_
  refine j_puti C fX4_42 rfl rfl (by first | decide | omega) (by first | assumption | rfl) dX4_findUnfit_7 ?_
  refine j_iconst (v := 0) C dX4_findUnfit_10 (by decide) ?_
  refine k_istore_n C dX4_findUnfit_11 (by rw [hnL]; decide) ?_
  exact loop 6 0 rfl rfl
theorem m_fault (hw : jok w) : jM l w yX4_fault cX4_fault 1 (some .int) 0 [.ref (jad w 0)] h (fun r h' => r = some (.int (h.1 0 7)) ∧ h' = h) := by
  refine jM_of (by decide) hw (Nat.le_of_ble_eq_true rfl) ?_
  intro X C hl hR hnL hrt hE
  have C : jC X w cX4_fault RX4 := C
  show J X w h 0 [(0, .ref (jad w 0))] []
  refine k_aload_n C dX4_fault_0 rfl ?_
  refine j_geti C fX4_35 rfl (by first | decide | omega) (by first | assumption | rfl) dX4_fault_1 ?_
  exact j_iret C hrt hE dX4_fault_4 (⟨rfl, rfl⟩)
theorem lk01 {a b c : Int} {x : Int32} (h0 : ¬ x = 0) (h1 : ¬ x = 1) : Op.lookupswitch.offset [(0, a), (1, b)] c x.toInt = c := by
  have e0 : ¬ x.toInt = 0 := fun z => h0 (Int32.toInt_inj.mp z)
  have e1 : ¬ x.toInt = 1 := fun z => h1 (Int32.toInt_inj.mp z)
  simp [Op.lookupswitch.offset, e0, e1, Ne.symm e0, Ne.symm e1, Eq.comm]
end K4
