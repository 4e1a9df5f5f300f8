section R4
variable {l : Launch} {w : jW} {h h' : jH} {sz : Nat} {G : GS} {PG : Nat → PU} {pr : Nat → Bool} {hs : List HD}
theorem lix_some : ∀ (k : Nat) {o : Nat} {x : Int32} {i : Nat}, lix hs o x k = some i → i < k ∧ (hs.getD i (0, 0, 0, 0, 0)).1 = o ∧ nI (hs.getD i (0, 0, 0, 0, 0)).2.1 = x
  | 0, o, x, i, h => by cases h
  | k + 1, o, x, i, h => by
    unfold lix at h
    split at h
    · next c => simp at h; subst h; exact ⟨by omega, c⟩
    · have := lix_some k h; exact ⟨by omega, this.2⟩
theorem lix_none : ∀ (k : Nat) {o : Nat} {x : Int32}, lix hs o x k = none → ∀ i, i < k → ¬ ((hs.getD i (0, 0, 0, 0, 0)).1 = o ∧ nI (hs.getD i (0, 0, 0, 0, 0)).2.1 = x)
  | 0, o, x, _, i, hi => by omega
  | k + 1, o, x, h, i, hi => by
    unfold lix at h
    split at h
    · cases h
    · next c =>
      by_cases e : i = k
      · subst e; exact c
      · exact lix_none k h i (by omega)
theorem lix_of (hd : dst hs) (hn : ∀ i (hi : i < hs.length), (hs[i]).2.1 < 26) {o i : Nat} (hi : i < hs.length) (h1 : (hs[i]).1 = o) : lix hs o (nI (hs[i]).2.1) hs.length = some i := by
  cases e : lix hs o (nI (hs[i]).2.1) hs.length with
  | none => exact absurd ⟨by rw [gtD hi]; exact h1, by rw [gtD hi]⟩ (lix_none _ e i hi)
  | some j =>
    obtain ⟨hj, g1, g2⟩ := lix_some _ e
    rw [gtD hj] at g1 g2
    have g2' := (nI_eq (by have := hn j hj; omega) (by have := hn i hi; omega)).mp g2
    congr 1
    rcases Nat.lt_trichotomy i j with z | z | z
    · exact absurd ⟨h1.trans g1.symm, g2'.symm⟩ (hd i j hj z)
    · exact z.symm
    · exact absurd ⟨g1.trans h1.symm, g2'⟩ (hd j i hi z)
theorem lix_dfn (hd : dst hs) (hn : ∀ i (hi : i < hs.length), (hs[i]).2.1 < 26) (x : Int32) : lix hs 0 x hs.length = dfn hs x := by
  unfold dfn
  cases e : lix hs 0 x hs.length with
  | none =>
    cases e2 : iK 26 x with
    | none => rfl
    | some nm =>
      obtain ⟨rfl, -⟩ := iK_some (by decide) e2
      show none = dfx hs nm
      cases e3 : dfx hs nm with
      | none => rfl
      | some i =>
        obtain ⟨hi, g1, g2⟩ := dfx_some _ _ _ e3
        exact absurd ⟨by rw [gtD hi]; exact g1, by rw [gtD hi, g2]⟩ (lix_none _ e i hi)
  | some i =>
    obtain ⟨hi, g1, g2⟩ := lix_some _ e
    rw [gtD hi] at g1 g2
    rw [← g2, iK_of (by decide) (hn i hi)]
    exact (dfx_dst hd hi g1 rfl).symm
theorem dfx_dfn {nm : Nat} (h : nm < 26) : dfn hs (nI nm) = dfx hs nm := by unfold dfn; rw [iK_of (by decide) h]; rfl
theorem ixI_m1 {m : Nat} {o : Option Nat} (hm : m < 7) (ho : ∀ i, o = some i → i < 6) : ixI m o = -1 ↔ o = none := by
  cases o with
  | none => simp [ixI]
  | some i =>
    have := ho i rfl
    constructor
    · intro z; exact absurd z (nI_m1 (by omega))
    · intro z; cases z
/-- a signature by its parts -/
theorem sig_ext {s s' : Nat} (h : s < 256) (h' : s' < 256) (t3 : ∀ k, ta s k ≠ 3) (t3' : ∀ k, ta s' k ≠ 3) (t0 : ta s 0 = 1 ∨ ta s 0 = 2) (t0' : ta s' 0 = 1 ∨ ta s' 0 = 2) (n1 : sgn s) (n1' : sgn s') : s = s' ↔ (nTk s' = nTk s ∧ (ta s' 0 == 2) = (ta s 0 == 2) ∧ ∀ q, q < nTk s → (ta s' (q + 1) == 2) = (ta s (q + 1) == 2)) := by
  constructor
  · rintro rfl; exact ⟨rfl, rfl, fun _ _ => rfl⟩
  · rintro ⟨e1, e2, e3⟩
    have hta : ∀ k, k ≤ 3 → ta s k = ta s' k := by
      intro k hk
      by_cases k0 : k = 0
      · subst k0
        rcases t0 with a | a <;> rcases t0' with b | b <;> simp [a, b] at e2 ⊢
      · obtain ⟨q, rfl⟩ : ∃ q, k = q + 1 := ⟨k - 1, by omega⟩
        have key : ∀ (r : Nat), sgn r → nTk r ≤ q → ta r (q + 1) = 0 := by
          intro r hr hq
          have up : ∀ j d, 1 ≤ j → ta r j = 0 → ta r (j + d) = 0 := by
            intro j d hj h0
            induction d with
            | zero => exact h0
            | succ d ih => exact hr (j + d) (by omega) ih
          unfold nTk at hq
          split at hq
          · next c => have := up 1 q (by omega) c; rw [Nat.add_comm] at this; exact this
          · split at hq
            · next c => have := up 2 (q - 1) (by omega) c; rw [show 2 + (q - 1) = q + 1 by omega] at this; exact this
            · split at hq
              · next c => have := up 3 (q - 2) (by omega) c; rw [show 3 + (q - 2) = q + 1 by omega] at this; exact this
              · omega
        by_cases hq : q < nTk s
        · have z := e3 q hq
          have a1 := nTk_ta hq
          have a2 := nTk_ta (s := s') (k := q) (by omega)
          have b1 := ta_le s (q + 1)
          have b2 := ta_le s' (q + 1)
          have c1 := t3 (q + 1)
          have c2 := t3' (q + 1)
          have d1 : ta s (q + 1) = 1 ∨ ta s (q + 1) = 2 := by omega
          have d2 : ta s' (q + 1) = 1 ∨ ta s' (q + 1) = 2 := by omega
          rcases d1 with a | a <;> rcases d2 with b | b <;> simp [a, b] at z ⊢
        · rw [key s n1 (by omega), key s' n1' (by omega)]
    have u0 := hta 0 (by omega)
    have u1 := hta 1 (by omega)
    have u2 := hta 2 (by omega)
    have u3 := hta 3 (by omega)
    unfold ta at u0 u1 u2 u3
    simp at u0 u1 u2 u3
    omega
theorem r_About (hw : jok w) (H : RI sz G h) (m f v : Int32) : jM l w yX5_about cX5_about 5 (some .int) 2 [.ref (jad w 70), .int m, .int f, .int v] h (fun r h' => r = some (.int (nI (gAbout G m f v).2)) ∧ h'.1 70 0 = nI (gAbout G m f v).1 ∧ RI sz G h' ∧ rF h h') := by
  refine jM_of (by decide) hw (Nat.le_of_ble_eq_true rfl) ?_
  intro X C hl hR hnL hrt hE
  subst hl
  have C : jC X w cX5_about RX5 := C
  obtain ⟨hr, hT, hM, hO⟩ := id H
  show J X w h 0 [(0, .ref (jad w 70)), (1, .int m), (2, .int f), (3, .int v)] []
  have bad : gAbout G m f v = (1, 0) → J X w h 36 [(0, .ref (jad w 70)), (1, .int m), (2, .int f), (3, .int v), (4, .int (match dfO G.2.1.1 G.2.1.2 m f with | none => -1 | some q => nI (6 * q.1 + q.2)))] [] := by
    intro eG
    refine k_aload_n C dX5_about_36 rfl ?_
    refine j_iconst (v := 1) C dX5_about_37 (by decide) ?_
    refine k_callV (k := 70) (ci := 5) (As := [.int 1]) C mX5_246 (r_refuse hw 1) jCl5.1 (by first | decide | omega) (by first | assumption | rfl) rfl rfl (Nat.le_of_ble_eq_true rfl) (jroom hR (by first | decide | omega) (by decide)) dX5_about_38 ?_
    rintro v9 h9 ⟨rfl, rfl⟩
    exact j_iret C hrt hE dX5_about_41 (⟨by rw [eG]; rfl, by rw [eG]; simp [up2]; rfl, RI_code 1 H⟩)
  have start : J X w h 21 [(0, .ref (jad w 70)), (1, .int m), (2, .int f), (3, .int v), (4, .int (match dfO G.2.1.1 G.2.1.2 m f with | none => -1 | some q => nI (6 * q.1 + q.2)))] [] → J X w h 0 [(0, .ref (jad w 70)), (1, .int m), (2, .int f), (3, .int v)] [] := by
    intro kk
    cases e : prs G.2.1.2 m with
    | none =>
      have ed : dfO G.2.1.1 G.2.1.2 m f = none := by unfold dfO; rw [e]
      rw [ed] at kk
      refine k_aload_n C dX5_about_0 rfl ?_
      refine k_iload_n C dX5_about_1 rfl ?_
      refine k_callV (k := 70) (ci := 5) (As := [.int m]) C mX5_256 (r_isModule hw hr hM m) jCl5.1 (by first | decide | omega) (by first | assumption | rfl) rfl rfl (Nat.le_of_ble_eq_true rfl) (jroom hR (by first | decide | omega) (by decide)) dX5_about_2 ?_
      rintro v9 h9 ⟨rfl, e9⟩
      obtain rfl := e9.symm
      rw [e]
      refine j_if_eq C 18 dX5_about_5 (by decide) (fun c5 => ?_) (fun c5 => ?_)
      · refine j_iconst (v := -1) C dX5_about_18 (by decide) ?_
        refine k_istore C dX5_about_19 (by rw [hnL]; decide) ?_
        exact kk
      · exact absurd rfl c5 -- stop
    | some k =>
      have hk := prs_some e
      obtain ⟨rU1, U⟩ := (hM k hk.2.1).2 hk.2.2
      have el := lix_dfn U.2.2.1 (fun i hi => (U.2.2.2.1 i hi).1.2.1) f
      have ed : dfO G.2.1.1 G.2.1.2 m f = (dfn (G.2.1.1 k).1 f).map (fun i => (k, i)) := by unfold dfO; rw [e]
      have ev : ixI k (lix (G.2.1.1 k).1 0 f (G.2.1.1 k).1.length) = (match dfO G.2.1.1 G.2.1.2 m f with | none => -1 | some q => nI (6 * q.1 + q.2)) := by
        rw [el, ed]; cases dfn (G.2.1.1 k).1 f <;> rfl
      rw [← ev] at kk
      obtain ⟨rfl, hk1, hk2⟩ := hk
      refine k_aload_n C dX5_about_0 rfl ?_
      refine k_iload_n C dX5_about_1 rfl ?_
      refine k_callV (k := 70) (ci := 5) (As := [.int (nI k)]) C mX5_256 (r_isModule hw hr hM (nI k)) jCl5.1 (by first | decide | omega) (by first | assumption | rfl) rfl rfl (Nat.le_of_ble_eq_true rfl) (jroom hR (by first | decide | omega) (by decide)) dX5_about_2 ?_
      rintro v9 h9 ⟨rfl, e9⟩
      obtain rfl := e9.symm
      rw [e]
      refine j_if_eq C 18 dX5_about_5 (by decide) (fun c5 => ?_) (fun c5 => ?_)
      · exact absurd c5 (by simp [bI]) -- stop
      · refine k_aload_n C dX5_about_8 rfl ?_
        refine k_iload_n C dX5_about_9 rfl ?_
        refine k_iload_n C dX5_about_10 rfl ?_
        refine j_iconst (v := -1) C dX5_about_11 (by decide) ?_
        refine k_callV (k := 70) (ci := 5) (As := [.int (nI k), .int f, .int (oI 0)]) C mX5_183 (r_find hw hr (by omega) rU1.1.1 (o := 0) (by decide) f) jCl5.1 (by first | decide | omega) (by first | assumption | rfl) rfl rfl (Nat.le_of_ble_eq_true rfl) (jroom hR (by first | decide | omega) (by decide)) dX5_about_12 ?_
        rintro v9 h9 ⟨rfl, e9⟩
        obtain rfl := e9.symm
        refine j_goto C 19 dX5_about_15 (by decide) ?_
        refine k_istore C dX5_about_19 (by rw [hnL]; decide) ?_
        exact kk
  refine start ?_
  cases e : dfO G.2.1.1 G.2.1.2 m f with
  | none =>
    rw [e] at bad
    have eG : gAbout G m f v = (1, 0) := by unfold gAbout; rw [e]
    refine k_iload C dX5_about_21 rfl ?_
    refine j_iconst (v := -1) C dX5_about_23 (by decide) ?_
    refine j_icmp_eq C 36 dX5_about_24 (by decide) (fun c24 => ?_) (fun c24 => ?_)
    · exact bad eG
    · exact absurd rfl c24 -- stop
  | some q =>
    obtain ⟨k, i⟩ := q
    rw [e] at bad
    obtain ⟨-, hk, hp, hi, h0, -⟩ := dfO_some e
    obtain ⟨⟨⟨-, rI⟩, rB, -⟩, U⟩ := (hM k hk).2 hp
    have h6 := U.1
    obtain ⟨x1, x2⟩ := rI i hi
    obtain ⟨x3, -⟩ := rB i hi h0
    obtain ⟨⟨v1, v2, v3, v4, v5, v6, v7⟩, v8⟩ := U.2.2.2.1 i hi
    have esg : (((G.2.1.1 k).1)[i]).2.2.1 = sgo G.2.1.1 k i := by unfold sgo; rw [gtD hi]
    rw [esg] at x2 v3 v4 v5 v8
    have eex : (((G.2.1.1 k).1)[i]).2.2.2.1 = ((G.2.1.1 k).1.getD i (0, 0, 0, 0, 0)).2.2.2.1 := by rw [gtD hi]
    rw [eex] at x1 v6
    have o2 := fun z => J X w h 33 [(0, .ref (jad w 70)), (1, .int m), (2, .int f), (3, .int v), (4, .int (nI (6 * k + i)))] z
    have go : (∀ b : Bool, (b = true ↔ iK 4 v = none) → J X w h 33 [(0, .ref (jad w 70)), (1, .int m), (2, .int f), (3, .int v), (4, .int (nI (6 * k + i)))] [.int (bI b)]) → J X w h 21 [(0, .ref (jad w 70)), (1, .int m), (2, .int f), (3, .int v), (4, .int (nI (6 * k + i)))] [] := by
      intro kk
      refine k_iload C dX5_about_21 rfl ?_
      refine j_iconst (v := -1) C dX5_about_23 (by decide) ?_
      refine j_icmp_eq C 36 dX5_about_24 (by decide) (fun c24 => ?_) (fun c24 => ?_)
      · exact absurd c24 (nI_m1 (by omega)) -- stop
      · refine k_iload_n C dX5_about_27 rfl ?_
        refine j_iconst (v := 0) C dX5_about_28 (by decide) ?_
        refine j_iconst (v := 3) C dX5_about_29 (by decide) ?_
        refine k_callS (As := [.int v, .int 0, .int 3]) C mX5_106 (r_outside hw v 0 3) rfl rfl (Nat.le_of_ble_eq_true rfl) (jroom hR (by first | decide | omega) (by decide)) dX5_about_30 ?_
        rintro v9 h9 ⟨rfl, e9⟩
        obtain rfl := e9.symm
        refine kk _ ?_
        rw [Bool.or_eq_true, decide_eq_true_eq, decide_eq_true_eq]
        unfold iK
        have e0 : (0 : Int32).toInt = 0 := rfl
        have e5 : (3 : Int32).toInt = 3 := rfl
        have e6 : (nI 4).toInt = 4 := rfl
        rw [Int32.lt_iff_toInt_lt, Int32.lt_iff_toInt_lt, e0, e5]
        constructor
        · intro z
          rw [if_neg]
          rw [Int32.le_iff_toInt_le, Int32.lt_iff_toInt_lt, e0, e6]
          omega
        · intro z
          split at z
          · cases z
          · next c => rw [Int32.le_iff_toInt_le, Int32.lt_iff_toInt_lt, e0, e6] at c; omega
    refine go (fun b hb => ?_)
    cases ev : iK 4 v with
    | none =>
      have eG : gAbout G m f v = (1, 0) := by unfold gAbout; rw [e, ev]
      have hbt := hb.mpr ev
      subst hbt
      refine j_if_eq C 42 dX5_about_33 (by decide) (fun c33 => ?_) (fun c33 => ?_)
      · exact absurd c33 (by decide) -- stop
      · exact bad eG
    | some j =>
      have eG : gAbout G m f v = (0, abV G.2.1.1 k i j) := by unfold gAbout; rw [e, ev]
      have hbf : b = false := by
        cases b with
        | false => rfl
        | true => have := hb.mp rfl; rw [ev] at this; cases this
      subst hbf
      obtain ⟨rfl, hj⟩ := iK_some (by decide) ev
      have hj4 : j = 0 ∨ j = 1 ∨ j = 2 ∨ j = 3 := by omega
      have hn : ∀ k' j', ¬ (k' = 70) → ((up2 h.1 70 0 0, h.2) : jH).1 k' j' = h.1 k' j' := fun k' j' z => up2_n (by omega)
      have hend : ∀ y : Int32, y = nI (abV G.2.1.1 k i j) → J X w (up2 h.1 70 0 0, h.2) 113 [(0, .ref (jad w 70)), (1, .int m), (2, .int f), (3, .int (nI j)), (4, .int (nI (6 * k + i)))] [.int y] := by
        intro y hy
        exact j_iret C hrt hE dX5_about_113 (⟨by rw [eG, hy], by rw [eG]; simp [up2]; rfl, RI_code 0 H⟩)
      rcases hj4 with rfl | rfl | rfl | rfl
      · have z0 : nI 0 = 0 := rfl
        refine j_if_eq C 42 dX5_about_33 (by decide) (fun c33 => ?_) (fun c33 => ?_)
        · refine k_aload_n C dX5_about_42 rfl ?_
          refine j_iconst (v := 0) C dX5_about_43 (by decide) ?_
          refine j_puti C fX5_103 rfl rfl (by first | decide | omega) (by first | assumption | rfl) dX5_about_44 ?_
          refine k_iload_n C dX5_about_47 rfl ?_
          refine j_if_ne C 61 dX5_about_48 (by decide) (fun c48 => ?_) (fun c48 => ?_)
          · exact absurd rfl c48 -- stop
          · refine k_aload_n C dX5_about_51 rfl ?_
            refine j_getr C fX5_39 rfl (by first | decide | omega) (by first | assumption | rfl) (congrFun hr _) dX5_about_52 ?_
            refine k_iload C dX5_about_55 rfl ?_
            refine j_iald C (by first | decide | omega) (by first | assumption | rfl) (rfl) ((by omega)) (by decide) dX5_about_57 ?_
            refine j_goto C 113 dX5_about_58 (by decide) ?_
            exact hend _ ((hn _ _ (by decide)).trans x3)
        · exact absurd rfl c33 -- stop
      · have c0 : ¬ nI 1 = 0 := by decide
        refine j_if_eq C 42 dX5_about_33 (by decide) (fun c33 => ?_) (fun c33 => ?_)
        · refine k_aload_n C dX5_about_42 rfl ?_
          refine j_iconst (v := 0) C dX5_about_43 (by decide) ?_
          refine j_puti C fX5_103 rfl rfl (by first | decide | omega) (by first | assumption | rfl) dX5_about_44 ?_
          refine k_iload_n C dX5_about_47 rfl ?_
          refine j_if_ne C 61 dX5_about_48 (by decide) (fun c48 => ?_) (fun c48 => ?_)
          · refine k_iload_n C dX5_about_61 rfl ?_
            refine j_iconst (v := 1) C dX5_about_62 (by decide) ?_
            refine j_icmp_ne C 84 dX5_about_63 (by decide) (fun c63 => ?_) (fun c63 => ?_)
            · exact absurd rfl c63 -- stop
            · refine k_aload_n C dX5_about_66 rfl ?_
              refine j_getr C fX5_27 rfl (by first | decide | omega) (by first | assumption | rfl) (congrFun hr _) dX5_about_67 ?_
              refine k_iload C dX5_about_70 rfl ?_
              refine j_zald C (by first | decide | omega) (by first | assumption | rfl) (rfl) ((by omega)) (by decide) dX5_about_72 ?_
              refine j_if_eq C 80 dX5_about_73 (by decide) (fun c73 => ?_) (fun c73 => ?_)
              · have c73' : ((G.2.1.1 k).1.getD i (0, 0, 0, 0, 0)).2.2.2.1 = 0 := (nI_eq (b := 0) (by omega) (by omega)).mp (x1.symm.trans ((hn _ _ (by decide)).symm.trans c73))
                refine j_iconst (v := 0) C dX5_about_80 (by decide) ?_
                refine j_goto C 113 dX5_about_81 (by decide) ?_
                exact hend _ (by show _ = nI ((G.2.1.1 k).1.getD i (0, 0, 0, 0, 0)).2.2.2.1; rw [c73']; rfl)
              · have c73' : ((G.2.1.1 k).1.getD i (0, 0, 0, 0, 0)).2.2.2.1 = 1 := by have : ¬ ((G.2.1.1 k).1.getD i (0, 0, 0, 0, 0)).2.2.2.1 = 0 := (fun z => c73 ((hn _ _ (by decide)).trans (by rw [x1, z]; rfl))); omega
                refine j_iconst (v := 1) C dX5_about_76 (by decide) ?_
                refine j_goto C 113 dX5_about_77 (by decide) ?_
                exact hend _ (by show _ = nI ((G.2.1.1 k).1.getD i (0, 0, 0, 0, 0)).2.2.2.1; rw [c73']; rfl)
          · exact absurd c48 c0 -- stop
        · exact absurd rfl c33 -- stop
      · have c0 : ¬ nI 2 = 0 := by decide
        have c1 : ¬ nI 2 = 1 := by decide
        refine j_if_eq C 42 dX5_about_33 (by decide) (fun c33 => ?_) (fun c33 => ?_)
        · refine k_aload_n C dX5_about_42 rfl ?_
          refine j_iconst (v := 0) C dX5_about_43 (by decide) ?_
          refine j_puti C fX5_103 rfl rfl (by first | decide | omega) (by first | assumption | rfl) dX5_about_44 ?_
          refine k_iload_n C dX5_about_47 rfl ?_
          refine j_if_ne C 61 dX5_about_48 (by decide) (fun c48 => ?_) (fun c48 => ?_)
          · refine k_iload_n C dX5_about_61 rfl ?_
            refine j_iconst (v := 1) C dX5_about_62 (by decide) ?_
            refine j_icmp_ne C 84 dX5_about_63 (by decide) (fun c63 => ?_) (fun c63 => ?_)
            · refine k_iload_n C dX5_about_84 rfl ?_
              refine j_iconst (v := 2) C dX5_about_85 (by decide) ?_
              refine j_icmp_ne C 98 dX5_about_86 (by decide) (fun c86 => ?_) (fun c86 => ?_)
              · exact absurd rfl c86 -- stop
              · refine k_aload_n C dX5_about_89 rfl ?_
                refine k_iload C dX5_about_90 rfl ?_
                refine k_callV (k := 70) (ci := 5) (As := [.int (nI (6 * k + i))]) C mX5_263 (r_words hw (h := (up2 h.1 70 0 0, h.2)) hr (x := 6 * k + i) (s := sgo G.2.1.1 k i) (by omega) v4 v8 ⟨(hn _ _ (by decide)).trans x2.1, fun q hq => (hn _ _ (by decide)).trans (x2.2.1 q hq), (hn _ _ (by decide)).trans x2.2.2⟩) jCl5.1 (by first | decide | omega) (by first | assumption | rfl) rfl rfl (Nat.le_of_ble_eq_true rfl) (jroom hR (by first | decide | omega) (by decide)) dX5_about_92 ?_
                rintro v9 h9 ⟨rfl, rfl⟩
                refine j_goto C 113 dX5_about_95 (by decide) ?_
                exact hend _ rfl
            · exact absurd c63 c1 -- stop
          · exact absurd c48 c0 -- stop
        · exact absurd rfl c33 -- stop
      · have c0 : ¬ nI 3 = 0 := by decide
        have c1 : ¬ nI 3 = 1 := by decide
        have c2 : ¬ nI 3 = 2 := by decide
        refine j_if_eq C 42 dX5_about_33 (by decide) (fun c33 => ?_) (fun c33 => ?_)
        · refine k_aload_n C dX5_about_42 rfl ?_
          refine j_iconst (v := 0) C dX5_about_43 (by decide) ?_
          refine j_puti C fX5_103 rfl rfl (by first | decide | omega) (by first | assumption | rfl) dX5_about_44 ?_
          refine k_iload_n C dX5_about_47 rfl ?_
          refine j_if_ne C 61 dX5_about_48 (by decide) (fun c48 => ?_) (fun c48 => ?_)
          · refine k_iload_n C dX5_about_61 rfl ?_
            refine j_iconst (v := 1) C dX5_about_62 (by decide) ?_
            refine j_icmp_ne C 84 dX5_about_63 (by decide) (fun c63 => ?_) (fun c63 => ?_)
            · refine k_iload_n C dX5_about_84 rfl ?_
              refine j_iconst (v := 2) C dX5_about_85 (by decide) ?_
              refine j_icmp_ne C 98 dX5_about_86 (by decide) (fun c86 => ?_) (fun c86 => ?_)
              · refine k_aload_n C dX5_about_98 rfl ?_
                refine j_getr C fX5_36 rfl (by first | decide | omega) (by first | assumption | rfl) (congrFun hr _) dX5_about_99 ?_
                refine k_iload C dX5_about_102 rfl ?_
                refine j_zald C (by first | decide | omega) (by first | assumption | rfl) (rfl) ((by omega)) (by decide) dX5_about_104 ?_
                refine j_if_eq C 112 dX5_about_105 (by decide) (fun c105 => ?_) (fun c105 => ?_)
                · have c105' : ta (sgo G.2.1.1 k i) 0 = 1 := by have z := (bI_z _).mp (x2.2.2.symm.trans ((hn _ _ (by decide)).symm.trans c105)); rcases v5 with y | y; exact y; rw [y] at z; cases z
                  refine j_iconst (v := 1) C dX5_about_112 (by decide) ?_
                  exact hend _ (by show _ = nI (ta (sgo G.2.1.1 k i) 0); rw [c105']; rfl)
                · have c105' : ta (sgo G.2.1.1 k i) 0 = 2 := by rcases v5 with y | y; (exact absurd ((hn _ _ (by decide)).trans (x2.2.2.trans (by rw [y]; rfl))) c105); exact y
                  refine j_iconst (v := 2) C dX5_about_108 (by decide) ?_
                  refine j_goto C 113 dX5_about_109 (by decide) ?_
                  exact hend _ (by show _ = nI (ta (sgo G.2.1.1 k i) 0); rw [c105']; rfl)
              · exact absurd c86 c2 -- stop
            · exact absurd c63 c1 -- stop
          · exact absurd c48 c0 -- stop
        · exact absurd rfl c33 -- stop
end R4
