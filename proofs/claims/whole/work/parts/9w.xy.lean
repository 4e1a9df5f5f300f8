section XY
variable {l : Launch} {w : jW} {h h' g : jH} {n m i p p' F fl tk mx y0 sz K : Nat} {PG : Nat → PU} {pr : Nat → Bool} {a0 ls A T T' V : List Int32} {fs : List Fm} {v : Int32}
theorem wkH_o {k k' j b o : Nat} {y : Int32} (h1 : k' ≠ 92) (h2 : ¬ (k' = 70 ∧ j = 38)) : (wkH h n k y b o).1 k' j = h.1 k' j := by
  unfold wkH
  split
  · exact psH_o (by omega) h2
  · exact psH_o (by omega) h2
  · rw [psH_o (by omega) h2, psH_o (by omega) h2]
  · rw [psH_o (by omega) h2, ppH_o h2, ppH_o h2]
  · rw [psH_o (by omega) h2, ppH_o h2, ppH_o h2]
  · rw [psH_o (by omega) h2, ppH_o h2, ppH_o h2]
  · exact ppH_o h2
  · rw [ppH_o h2]; dsimp only; rw [up2_n (by omega)]
theorem wkH_2 {k b o : Nat} {y : Int32} : (wkH h n k y b o).2 = h.2 := by unfold wkH; split <;> rfl
theorem lvR_o {k j b y : Nat} (h1 : k ≠ 92) (h2 : ¬ (k = 70 ∧ (j = 38 ∨ j = 40))) : (lvR h F n b y).1 k j = h.1 k j := by
  unfold lvR
  split
  · rw [psH_o (by omega) (by omega), psH_o (by omega) (by omega)]; dsimp only; rw [up2_n (by omega), ppH_o (by omega), ppH_o (by omega)]; dsimp only; rw [up2_n (by omega)]
  · rw [psH_o (by omega) (by omega)]; dsimp only; rw [up2_n (by omega), ppH_o (by omega)]; dsimp only; rw [up2_n (by omega)]
theorem lvR_40 {b y : Nat} : (lvR h F n b y).1 70 40 = nI F := by
  unfold lvR
  split
  · rw [psH_o (by omega) (by omega), psH_o (by omega) (by omega)]; dsimp only; rw [up2_n (by omega), ppH_o (by omega), ppH_o (by omega)]; dsimp only; rw [up2_s]
  · rw [psH_o (by omega) (by omega)]; dsimp only; rw [up2_n (by omega), ppH_o (by omega)]; dsimp only; rw [up2_s]
theorem lvR_2 {b y : Nat} : (lvR h F n b y).2 = h.2 := by unfold lvR; split <;> rfl
theorem wSt_lv {b y : Nat} (W : wSt h (ls ++ V)) (hV : V.length = y) (hy : y = 1 ∨ y = 2) (hn : n = ls.length + y) (hb : b ≤ ls.length) : wSt (lvR h F n b y) (ls.take b ++ V) := by
  have base : ∀ g : jH, (∀ j, j < b → g.1 92 j = h.1 92 j) → g.1 70 38 = nI b → wSt g (ls.take b) := by
    intro g hk h38
    have hl : (ls.take b).length = b := by rw [List.length_take]; omega
    refine ⟨by rw [hl]; exact h38, fun j hj => ?_⟩
    rw [hl] at hj
    rw [hk j hj, W.2 j (by rw [List.length_append]; omega), gD_l (by omega), gD_take hj]
  have hl : b = (ls.take b).length := by rw [List.length_take]; omega
  unfold lvR
  rcases hy with rfl | rfl
  · obtain ⟨x, rfl⟩ := len1 hV
    rw [if_neg (by decide)]
    have e1 : h.1 92 (n - 1) = x := wSt_at W (by omega)
    rw [e1]
    refine wSt_ps (base _ (fun j hj => ?_) ?_) hl
    · dsimp only; rw [up2_n (by omega), ppH_o (by omega)]; dsimp only; rw [up2_n (by omega)]
    · dsimp only; rw [up2_s]
  · obtain ⟨x, y, rfl⟩ := len2 hV
    rw [if_pos rfl]
    have e1 : h.1 92 (n - 2) = x := wSt_at W (by omega)
    have e2 : h.1 92 (n - 1) = y := wSt_at (l := ls ++ [x]) (l' := []) (by simpa using W) (by simp; omega)
    rw [e1, e2]
    have B : wSt (up2 (ppH (ppH (up2 h.1 70 40 (nI F), h.2) (n - 1)) (n - 2)).1 70 38 (nI b), h.2) (ls.take b) := by
      refine base _ (fun j hj => ?_) ?_
      · dsimp only; rw [up2_n (by omega), ppH_o (by omega), ppH_o (by omega)]; dsimp only; rw [up2_n (by omega)]
      · dsimp only; rw [up2_s]
    have P := wSt_ps (v := y) (wSt_ps (v := x) B hl) (show b + 1 = (ls.take b ++ [x]).length by rw [List.length_append, ← hl]; rfl)
    simpa using P
theorem r_go {s0 : ES} (hw : jok w) (hr : h.2.1 70 = rMap) (hM : rM PG pr h) (h1 : h.1 70 1 = nI sz) (hsz : sz ≤ 500) (hL : lnk PG pr) (hfit : fitA PG pr) (hI0 : EI PG sz a0 pr y0 s0) (hg0 : gR PG a0 h s0) (hfu0 : s0.1 + s0.2.1 ≤ 3000) (hmx0 : s0.2.2.1 ≤ 500) (hK : 400 * s0.1 + mea PG s0.2.2.2.1 < K) : jM l w yX5_go cX5_go 6 (some .int) 4 [.ref (jad w 70)] h (fun r h' => ∃ q, eRun PG sz a0 K s0 = some q ∧ r = some (.int (nI q.1)) ∧ gF h h' ∧ h'.1 70 47 = nI q.2.2.1 ∧ h'.1 70 48 = nI q.2.2.2.1 ∧ (q.1 = 0 → wSt h' q.2.2.2.2.2 ∧ q.2.2.2.2.2.length = y0)) := by
  refine jM_of (by decide) hw (Nat.le_of_ble_eq_true rfl) ?_
  intro X C hl hR hnL hrt hE
  subst hl
  have C : jC X w cX5_go RX5 := C
  -- the ends
  have ex : ∀ (g : jH) (q : Nat × ES), q.1 ≤ 3 → (q.1 ≠ 0 ∨ g.1 70 40 = nI 0) → eRun PG sz a0 K s0 = some q → gF h g → g.1 70 47 = nI q.2.2.1 → g.1 70 48 = nI q.2.2.2.1 → (q.1 = 0 → wSt g q.2.2.2.2.2 ∧ q.2.2.2.2.2.length = y0) → J X w g 2 [(0, .ref (jad w 70)), (1, .int (nI q.1))] [] := by
    intro g q hq3 hq hrun F h47 h48 hw9
    have fin : J X w g 177 [(0, .ref (jad w 70)), (1, .int (nI q.1))] [] := by
      refine k_iload_n C dX5_go_177 rfl ?_
      exact j_iret C hrt hE dX5_go_178 (⟨q, hrun, rfl, F, h47, h48, hw9⟩)
    rcases hq with hq | hq
    · have nz : ¬ nI q.1 = 0 := fun z => hq ((nI_eq (b := 0) (by omega) (by omega)).mp z)
      refine k_aload_n C dX5_go_2 rfl ?_
      refine j_geti C fX5_278 rfl (by first | decide | omega) (by first | assumption | rfl) dX5_go_3 ?_
      refine j_if_le C 177 dX5_go_6 (by decide) (fun c6 => ?_) (fun c6 => ?_)
      · exact fin -- stop
      · refine k_iload_n C dX5_go_9 rfl ?_
        refine j_if_ne C 177 dX5_go_10 (by decide) (fun c10 => ?_) (fun c10 => ?_)
        · exact fin -- stop
        · exact absurd (by first | exact c10 | exact Classical.not_not.mp c10) nz -- stop
    · skip
      refine k_aload_n C dX5_go_2 rfl ?_
      refine j_geti C fX5_278 rfl (by first | decide | omega) (by first | assumption | rfl) dX5_go_3 ?_
      refine j_if_le C 177 dX5_go_6 (by decide) (fun c6 => ?_) (fun c6 => ?_)
      · exact fin -- stop
      · exact absurd (by rw [hq]; decide) c6 -- stop
  have loop : ∀ (k : Nat) (s : ES) (g : jH), gF h g → EI PG sz a0 pr y0 s → gR PG a0 g s → s.1 + s.2.1 ≤ 3000 → s.2.2.1 ≤ 500 → ∀ q, eRun PG sz a0 k s = some q → eRun PG sz a0 K s0 = some q → J X w g 2 [(0, .ref (jad w 70)), (1, .int 0)] [] := by
    intro k
    induction k with
    | zero => intro s g _ _ _ _ _ q hq; cases hq
    | succ k ih =>
      intro s g G hI R hfu hmx q hq hrun
      obtain ⟨fl, tk, mx, fs', V⟩ := s
      rcases fs' with _ | ⟨⟨m, i, p, A, T⟩, fs⟩
      · exact hI.elim
      obtain ⟨e, he, g1, g2⟩ := EI_ev hI rfl
      have hc := EI_cases hI rfl he
      have hbd := eStep_bd hL hI
      have hnx : ∀ s', eStep PG sz a0 (fl, tk, mx, (m, i, p, A, T) :: fs, V) = .inl s' → EI PG sz a0 pr y0 s' := fun s' z => EI_next hL hI z
      obtain ⟨⟨f1, f2, f3, f4, f5, f6⟩, hG0, hTr, hht, hwf⟩ := hI
      obtain ⟨q46, q47, q48, q40, qF, qW⟩ := id R
      dsimp only at q46 q47 q48 q40 qF qW hfu hmx
      obtain ⟨u1, u2, u3, u4, u5, u6, u7, u8⟩ := id qF
      dsimp only at u1 u2 u3 u4 u5 u6 u7
      have hwl := wds_le (a0 := a0) fs
      have hrg : g.2.1 70 = rMap := by rw [G.1]; exact hr
      have hMg : rM PG pr g := rM_keep (fun k j z => G.2 k j (by omega)) hM
      obtain ⟨⟨⟨⟨-, hl6, rN⟩, rI⟩, rB, rC⟩, U⟩ := (hMg m f1).2 f2
      have hRl := Rc_le (ev := (PG m).2.1) (p := p)
      have hU126 := U.2.2.2.2.2.1
      have hRs := Rc_s he
      have hq' : match eStep PG sz a0 (fl, tk, mx, (m, i, p, A, T) :: fs, V) with
          | .inl s' => eRun PG sz a0 k s' = some q
          | .inr r => some r = some q := by
        have : eRun PG sz a0 (k + 1) (fl, tk, mx, (m, i, p, A, T) :: fs, V) = some q := hq
        unfold eRun at this
        cases e9 : eStep PG sz a0 (fl, tk, mx, (m, i, p, A, T) :: fs, V) with
        | inl s' => rw [e9] at this; exact this
        | inr r => rw [e9] at this; exact this
      -- go on from a state
      have nxt : ∀ (s' : ES) (g' : jH), eStep PG sz a0 (fl, tk, mx, (m, i, p, A, T) :: fs, V) = .inl s' → gF g g' → gR PG a0 g' s' → J X w g' 2 [(0, .ref (jad w 70)), (1, .int 0)] [] := by
        intro s' g' hs G' R'
        rw [hs] at hq'
        have hb := hbd.1 s' hs
        dsimp only at hb
        exact ih s' g' (gF_tr G G') (hnx s' hs) R' (by omega) (by omega) q hq' hrun
      have sil : krf e = 0 → ∀ (T' V' : List Int32), wds a0 fs ++ T' ++ V' = wds a0 fs ++ T ++ V → eStep PG sz a0 (fl, tk, mx, (m, i, p, A, T) :: fs, V) = .inl (fl, tk, mx, (m, i, p + 1, A, T') :: fs, V') → J X w g 2 [(0, .ref (jad w 70)), (1, .int 0)] [] := by
        intro hk T' V' hl hs
        refine nxt _ g hs gF_rf (gR_top R (by rw [hRs, hk]; exact u3) (fun _ _ _ _ _ _ => rfl) (fun _ _ => rfl) ?_)
        rw [hl]
        exact qW
      -- an event that stands in the code
      have c0 : krf e = 1 → g.1 82 (130 * m + Rc (PG m).2.1 p) = nI (renc e) ∧ g.1 83 (130 * m + Rc (PG m).2.1 p) = nI (rnum (Rc (PG m).2.1) e) ∧ (e.1 = 13 → g.1 84 (130 * m + Rc (PG m).2.1 p) = nI e.2.2.1) := fun z => rC p e he z
      have hlt : krf e = 1 → Rc (PG m).2.1 p < 126 := fun z => by have := Rc_lt he z; omega
      obtain ⟨gA, egA⟩ : ∃ gA : jH, gA = (up2 g.1 95 fs.length (nI (Rc (PG m).2.1 p + 1)), g.2) := ⟨_, rfl⟩
      have oA : ∀ {k j : Nat}, ¬ (k = 95 ∧ j = fs.length) → gA.1 k j = g.1 k j := fun {k j} z => by rw [egA]; exact up2_n z
      have rA : gA.2.1 70 = rMap := by rw [egA]; exact hrg
      have GA : gF g gA := by rw [egA]; exact gF_up gF_rf (by omega)
      have wA : wSt gA (wds a0 fs ++ T ++ V) := wSt_o qW (oA (by omega)) (fun j _ => oA (by omega))
      have hF : fs.length < 250 := by omega
      have head : krf e = 1 → J X w gA 60 [(0, .ref (jad w 70)), (1, .int 0), (2, .int (nI fs.length)), (3, .int (nI m)), (4, .int (nI (130 * m + Rc (PG m).2.1 p))), (5, .int (nI (renc e)))] [] → J X w g 2 [(0, .ref (jad w 70)), (1, .int 0)] [] := by
        intro hk kk
        have hlt' := hlt hk
        obtain ⟨c1, c2, c3⟩ := c0 hk
        have e40 : g.1 70 40 = nI (fs.length + 1) := q40
        have ei : (130 : Int32) * nI m + nI (Rc (PG m).2.1 p) = nI (130 * m + Rc (PG m).2.1 p) := by rw [show (130 : Int32) = nI 130 from rfl, pk_mul, nI_add]
        refine k_aload_n C dX5_go_2 rfl ?_
        refine j_geti C fX5_278 rfl (by first | decide | omega) (by first | assumption | rfl) dX5_go_3 ?_
        refine j_if_le C 177 dX5_go_6 (by decide) (fun c6 => ?_) (fun c6 => ?_)
        · exact absurd c6 (by rw [e40, show (0 : Int32) = nI 0 from rfl, nI_leI (by omega) (by omega)]; omega) -- stop
        · refine k_iload_n C dX5_go_9 rfl ?_
          refine j_if_ne C 177 dX5_go_10 (by decide) (fun c10 => ?_) (fun c10 => ?_)
          · exact absurd rfl c10 -- stop
          · refine k_aload_n C dX5_go_13 rfl ?_
            refine j_geti C fX5_278 rfl (by first | decide | omega) (by first | assumption | rfl) dX5_go_14 ?_
            refine j_iconst (v := 1) C dX5_go_17 (by decide) ?_
            refine j_isub C dX5_go_18 ?_
            rw [e40, nI_pred]
            refine k_istore_n C dX5_go_19 (by rw [hnL]; decide) ?_
            refine k_aload_n C dX5_go_20 rfl ?_
            refine j_getr C fX5_85 rfl (by first | decide | omega) (by first | assumption | rfl) (congrFun hrg _) dX5_go_21 ?_
            refine k_iload_n C dX5_go_24 rfl ?_
            refine j_iald C (by first | decide | omega) (by first | assumption | rfl) (rfl) ((by omega)) (by decide) dX5_go_25 ?_
            rw [u1]
            refine k_istore_n C dX5_go_26 (by rw [hnL]; decide) ?_
            refine j_sipush (v := 130) C dX5_go_27 (by decide) ?_
            refine k_iload_n C dX5_go_30 rfl ?_
            refine j_imul C dX5_go_31 ?_
            refine k_aload_n C dX5_go_32 rfl ?_
            refine j_getr C fX5_91 rfl (by first | decide | omega) (by first | assumption | rfl) (congrFun hrg _) dX5_go_33 ?_
            refine k_iload_n C dX5_go_36 rfl ?_
            refine j_iald C (by first | decide | omega) (by first | assumption | rfl) (rfl) ((by omega)) (by decide) dX5_go_37 ?_
            rw [u3]
            refine j_iadd C dX5_go_38 ?_
            rw [ei]
            refine k_istore C dX5_go_39 (by rw [hnL]; decide) ?_
            refine k_aload_n C dX5_go_41 rfl ?_
            refine j_getr C fX5_91 rfl (by first | decide | omega) (by first | assumption | rfl) (congrFun hrg _) dX5_go_42 ?_
            refine k_iload_n C dX5_go_45 rfl ?_
            refine j_dup2 C dX5_go_46 rfl rfl ?_
            refine j_iald C (by first | decide | omega) (by first | assumption | rfl) (rfl) ((by omega)) (by decide) dX5_go_47 ?_
            rw [u3]
            refine j_iconst (v := 1) C dX5_go_48 (by decide) ?_
            refine j_iadd C dX5_go_49 ?_
            rw [nI_1]
            refine j_iast C (by first | decide | omega) (by first | assumption | rfl) (rfl) ((by omega)) (by decide) dX5_go_50 ?_
            refine jeqh (show _ = gA from egA.symm) ?_
            refine k_aload_n C dX5_go_51 rfl ?_
            refine j_getr C fX5_45 rfl (by first | decide | omega) (by first | assumption | rfl) (congrFun rA _) dX5_go_52 ?_
            refine k_iload C dX5_go_55 rfl ?_
            refine j_iald C (by first | decide | omega) (by first | assumption | rfl) (rfl) ((by omega)) (by decide) dX5_go_57 ?_
            rw [oA (by omega), c1]
            refine k_istore C dX5_go_58 (by rw [hnL]; decide) ?_
            exact kk
      have drop : ∀ {g' : jH} {v : Int32}, J X w g' 2 [(0, .ref (jad w 70)), (1, .int v)] [] → J X w g' 2 [(0, .ref (jad w 70)), (1, .int v), (2, .int (nI fs.length)), (3, .int (nI m)), (4, .int (nI (130 * m + Rc (PG m).2.1 p))), (5, .int (nI (renc e)))] [] := fun {g' v} kk => j_mono (lv' := [(0, .ref (jad w 70)), (1, .int v)]) (fun q hq => List.mem_append_left [(2, Value.int (nI fs.length)), (3, Value.int (nI m)), (4, Value.int (nI (130 * m + Rc (PG m).2.1 p))), (5, Value.int (nI (renc e)))] hq) kk
      have wk : krf e = 1 → ∀ (kk o : Nat) (T' V' : List Int32), renc e = kk → kk ≤ 7 → (3 ≤ kk → 2 ≤ (wds a0 fs ++ T ++ V).length) → (wds a0 fs ++ T ++ V).length < 1000 → (kk = 1 ∨ kk = 2 → rnum (Rc (PG m).2.1) e = o ∧ ((wds a0 fs).length - A.length) + o + 1 < 1000) → (kk = 2 → (wds a0 fs).length - A.length + o + 1 < (wds a0 fs ++ T ++ V).length) → wSt (wkH gA (wds a0 fs ++ T ++ V).length kk (nI (rnum (Rc (PG m).2.1) e)) ((wds a0 fs).length - A.length) o) (wds a0 fs ++ T' ++ V') → eStep PG sz a0 (fl, tk, mx, (m, i, p, A, T) :: fs, V) = .inl (fl, tk, mx, (m, i, p + 1, A, T') :: fs, V') → J X w g 2 [(0, .ref (jad w 70)), (1, .int 0)] [] := by
        intro hk kk o T' V' hkk hk7 hk3 hn hbo hb2 W hs
        obtain ⟨c1, c2, c3⟩ := c0 hk
        have hlt' := hlt hk
        refine head hk ?_
        have ne : ∀ x : Nat, 8 ≤ x → x < 20 → ¬ nI (renc e) = nI x := fun x z1 z2 y => by have := (nI_eq (by omega) (by omega)).mp y; omega
        have hwk := r_work (l := jXl X) (h := gA) (n := (wds a0 fs ++ T ++ V).length) (y := nI (rnum (Rc (PG m).2.1) e)) (k := kk) (b := (wds a0 fs).length - A.length) (o := o) hw rA wA.1 hn hk7 hk3 (fun z => ⟨by rw [(hbo z).1], (hbo z).2⟩) hb2
        have fin : J X w (wkH gA (wds a0 fs ++ T ++ V).length kk (nI (rnum (Rc (PG m).2.1) e)) ((wds a0 fs).length - A.length) o) 2 [(0, .ref (jad w 70)), (1, .int 0)] [] := by
          refine nxt _ _ hs (gF_tr GA ⟨wkH_2, fun k j z => wkH_o (by omega) (by omega)⟩) (gR_top R ?_ (fun k j z1 z2 z4 z3 => ?_) (fun j z => ?_) W)
          · rw [wkH_o (by omega) (by omega), hRs, hk, egA]; dsimp only; rw [up2_s]
          · rw [wkH_o (by omega) (by omega)]; exact oA (by omega)
          · rw [wkH_o (by omega) (by omega)]; exact oA (by omega)
        refine k_iload C dX5_go_60 rfl ?_
        refine j_bipush (v := 10) C dX5_go_62 (by decide) ?_
        refine j_icmp_ne C 97 dX5_go_64 (by decide) (fun c64 => ?_) (fun c64 => ?_)
        · refine k_iload C dX5_go_97 rfl ?_
          refine j_bipush (v := 11) C dX5_go_99 (by decide) ?_
          refine j_icmp_ne C 111 dX5_go_101 (by decide) (fun c101 => ?_) (fun c101 => ?_)
          · refine k_iload C dX5_go_111 rfl ?_
            refine j_bipush (v := 9) C dX5_go_113 (by decide) ?_
            refine j_icmp_eq C 132 dX5_go_115 (by decide) (fun c115 => ?_) (fun c115 => ?_)
            · exact absurd (by first | exact c115 | exact Classical.not_not.mp c115) (ne 9 (by omega) (by omega)) -- stop
            · refine k_iload C dX5_go_118 rfl ?_
              refine j_bipush (v := 8) C dX5_go_120 (by decide) ?_
              refine j_icmp_ne C 148 dX5_go_122 (by decide) (fun c122 => ?_) (fun c122 => ?_)
              · refine k_iload C dX5_go_148 rfl ?_
                refine j_bipush (v := 8) C dX5_go_150 (by decide) ?_
                refine j_icmp_eq C 174 dX5_go_152 (by decide) (fun c152 => ?_) (fun c152 => ?_)
                · exact absurd (by first | exact c152 | exact Classical.not_not.mp c152) (ne 8 (by omega) (by omega)) -- stop
                · refine k_aload_n C dX5_go_155 rfl ?_
                  refine k_iload C dX5_go_156 rfl ?_
                  refine k_aload_n C dX5_go_158 rfl ?_
                  refine j_getr C fX5_48 rfl (by first | decide | omega) (by first | assumption | rfl) (congrFun rA _) dX5_go_159 ?_
                  refine k_iload C dX5_go_162 rfl ?_
                  refine j_iald C (by first | decide | omega) (by first | assumption | rfl) (rfl) ((by omega)) (by decide) dX5_go_164 ?_
                  rw [oA (by omega), c2, hkk]
                  refine k_aload_n C dX5_go_165 rfl ?_
                  refine j_getr C fX5_94 rfl (by first | decide | omega) (by first | assumption | rfl) (congrFun rA _) dX5_go_166 ?_
                  refine k_iload_n C dX5_go_169 rfl ?_
                  refine j_iald C (by first | decide | omega) (by first | assumption | rfl) (rfl) ((by omega)) (by decide) dX5_go_170 ?_
                  rw [oA (by omega), u4]
                  refine k_callV (k := 70) (ci := 5) (As := [.int (nI kk), .int (nI (rnum (Rc (PG m).2.1) e)), .int (nI ((wds a0 fs).length - A.length))]) C mX5_296 (hwk) jCl5.1 (by first | decide | omega) (by first | assumption | rfl) rfl rfl (Nat.le_of_ble_eq_true rfl) (jroom hR (by first | decide | omega) (by decide)) dX5_go_171 ?_
                  rintro v9 h9 ⟨rfl, rfl⟩
                  refine j_goto C 2 dX5_go_174 (by decide) ?_
                  rw [hkk] at drop
                  exact drop fin
              · exact absurd (by first | exact c122 | exact Classical.not_not.mp c122) (ne 8 (by omega) (by omega)) -- stop
          · exact absurd (by first | exact c101 | exact Classical.not_not.mp c101) (ne 11 (by omega) (by omega)) -- stop
        · exact absurd (by first | exact c64 | exact Classical.not_not.mp c64) (ne 10 (by omega) (by omega)) -- stop
      rcases hc with ⟨rfl, rfl, hV⟩ | ⟨Z, hZ, hb, hpZ, hok, -, -⟩
      · -- back
        have hV : V.length = ta (sgo PG m i) 0 := hV
        have hty := (U.2.2.2.1 i f3).1.2.2.2.2.1
        have esg : (((PG m).1)[i]).2.2.1 = sgo PG m i := by unfold sgo; rw [gtD f3]
        rw [esg] at hty
        have sR := (rI i f3).2.2.2
        rw [esg] at sR
        obtain ⟨hs1, hs2⟩ : True ∧ True := ⟨trivial, trivial⟩
        have hll : (wds a0 fs ++ [] ++ V).length = (wds a0 fs).length + ta (sgo PG m i) 0 := by simp [hV]
        have e40A : gA.1 70 40 = nI (fs.length + 1) := by rw [oA (by omega)]; exact q40
        have hlv := r_leave (l := jXl X) (h := gA) (F := fs.length) (n := (wds a0 fs).length + ta (sgo PG m i) 0) (b := (wds a0 fs).length - A.length) (yy := ta (sgo PG m i) 0) (x := 6 * m + i) hw rA e40A (by omega) (by rw [oA (by omega)]; exact u2) (by omega) (by rw [oA (by omega)]; exact sR) hty (by rw [← hll]; exact wA.1) (by omega) (by omega) (by rw [oA (by omega)]; exact u4) (by omega)
        have W9 : wSt (lvR gA fs.length ((wds a0 fs).length + ta (sgo PG m i) 0) ((wds a0 fs).length - A.length) (ta (sgo PG m i) 0)) ((wds a0 fs).take ((wds a0 fs).length - A.length) ++ V) := wSt_lv (by simpa using wA) hV hty rfl (by omega)
        have GL : gF g (lvR gA fs.length ((wds a0 fs).length + ta (sgo PG m i) 0) ((wds a0 fs).length - A.length) (ta (sgo PG m i) 0)) := gF_tr GA ⟨lvR_2, fun k j z => lvR_o (by omega) (by omega)⟩
        have fin : J X w (lvR gA fs.length ((wds a0 fs).length + ta (sgo PG m i) 0) ((wds a0 fs).length - A.length) (ta (sgo PG m i) 0)) 2 [(0, .ref (jad w 70)), (1, .int 0)] [] := by
          rcases fs with _ | ⟨⟨m2, i2, p2, A2, T2⟩, gs⟩
          · have es : eStep PG sz a0 (fl, tk, mx, (m, i, p, A, []) :: [], V) = .inr (0, (fl, tk, mx, [], V)) := by unfold eStep; simp only [he]
            rw [es] at hq'
            simp only [Option.some.injEq] at hq'
            have hwf' : A = a0 ∧ ta (sgo PG m i) 0 = y0 := hwf
            refine ex _ (0, (fl, tk, mx, [], V)) (Nat.zero_le _) (Or.inr lvR_40) (by rw [hrun, ← hq']) (gF_tr G GL) (by rw [lvR_o (by omega) (by omega), oA (by omega)]; exact q47) (by rw [lvR_o (by omega) (by omega), oA (by omega)]; exact q48) (fun _ => ?_)
            have : (wds a0 []).take ((wds a0 []).length - A.length) ++ V = V := by rw [hwf'.1]; simp [wds]
            rw [this] at W9
            exact ⟨W9, by dsimp only; rw [hV]; exact hwf'.2⟩
          · have es : eStep PG sz a0 (fl, tk, mx, (m, i, p, A, []) :: (m2, i2, p2, A2, T2) :: gs, V) = .inl (fl, tk, mx, (m2, i2, p2, A2, T2.take (T2.length - A.length)) :: gs, V) := by unfold eStep; simp only [he]
            obtain ⟨x1, x2, x3⟩ := hwf
            refine nxt _ _ es GL ⟨by rw [lvR_o (by omega) (by omega), oA (by omega)]; exact q46, by rw [lvR_o (by omega) (by omega), oA (by omega)]; exact q47, by rw [lvR_o (by omega) (by omega), oA (by omega)]; exact q48, lvR_40, ?_, ?_⟩
            · refine fRs_top (h := g) (p := p2) (T := T2) u8 ?_ (fun k j z1 z2 z4 z3 => ?_)
              · rw [lvR_o (by omega) (by omega), oA (by simp)]; exact u8.2.2.1
              · rw [lvR_o (by omega) (by omega), oA (by simp; omega)]
            · have el : (wds a0 ((m2, i2, p2, A2, T2) :: gs)).take ((wds a0 ((m2, i2, p2, A2, T2) :: gs)).length - A.length) = wds a0 gs ++ T2.take (T2.length - A.length) := by
                show (wds a0 gs ++ T2).take ((wds a0 gs ++ T2).length - A.length) = _
                rw [List.take_append, List.length_append, List.take_of_length_le (by omega), show (wds a0 gs).length + T2.length - A.length - (wds a0 gs).length = T2.length - A.length by omega]
              rw [el] at W9
              exact W9
        refine head rfl ?_
        refine k_iload C dX5_go_60 rfl ?_
        refine j_bipush (v := 10) C dX5_go_62 (by decide) ?_
        refine j_icmp_ne C 97 dX5_go_64 (by decide) (fun c64 => ?_) (fun c64 => ?_)
        · refine k_iload C dX5_go_97 rfl ?_
          refine j_bipush (v := 11) C dX5_go_99 (by decide) ?_
          refine j_icmp_ne C 111 dX5_go_101 (by decide) (fun c101 => ?_) (fun c101 => ?_)
          · exact absurd rfl c101 -- stop
          · refine k_aload_n C dX5_go_104 rfl ?_
            refine k_callV (k := 70) (ci := 5) (As := []) C mX5_293 (hlv) jCl5.1 (by first | decide | omega) (by first | assumption | rfl) rfl rfl (Nat.le_of_ble_eq_true rfl) (jroom hR (by first | decide | omega) (by decide)) dX5_go_105 ?_
            rintro v9 h9 ⟨rfl, rfl⟩
            refine j_goto C 174 dX5_go_108 (by decide) ?_
            refine j_goto C 2 dX5_go_174 (by decide) ?_
            exact drop fin
        · exact absurd (by first | exact c64 | exact Classical.not_not.mp c64) (show ¬ nI 11 = 10 by decide) -- stop
      · obtain ⟨ek, eo, eh, ec⟩ := e
        dsimp only at g1 g2
        unfold okE at hok
        dsimp only at hok
        have wl : (wds a0 fs ++ T ++ V).length = (wds a0 fs).length + T.length + V.length := by simp [Nat.add_assoc]
        have hes : ∀ {A' : List Int32}, True := fun {_} => trivial
        split at hok
        case h_1 =>
          obtain ⟨k1, k2, k3⟩ := hok
          have hv0 : V = [] := List.eq_nil_of_length_eq_zero (by omega)
          subst hv0
          refine wk rfl 0 0 T [nI eo] rfl (by omega) (by omega) (by rw [wl]; simp only [List.length_nil]; omega) (fun z => by omega) (fun z => by omega) ?_ (by unfold eStep; simp only [he])
          show wSt (psH gA _ (nI eo)) _
          have := wSt_ps (v := nI eo) wA rfl
          simpa using this
        case h_2 =>
          obtain ⟨k1, k2, k3⟩ := hok
          have hv0 : V = [] := List.eq_nil_of_length_eq_zero (by omega)
          subst hv0
          have hA : A.length = wb (sgo PG m i) 4 := f5
          refine wk rfl 1 eo T [A.getD eo 0] rfl (by omega) (by omega) (by rw [wl]; simp only [List.length_nil]; omega) (fun z => ⟨rfl, by omega⟩) (fun z => by omega) ?_ (by unfold eStep; simp only [he])
          show wSt (psH gA _ (gA.1 92 ((wds a0 fs).length - A.length + eo))) _
          rw [wA.2 _ (by rw [wl]; omega), List.append_nil, gD_l (by omega), ← u7 eo (by omega)]
          have := wSt_ps (v := A.getD eo 0) wA rfl
          simpa using this
        case h_3 =>
          obtain ⟨k1, k2, k3⟩ := hok
          have hv0 : V = [] := List.eq_nil_of_length_eq_zero (by omega)
          subst hv0
          have hA : A.length = wb (sgo PG m i) 4 := f5
          refine wk rfl 2 eo T [A.getD eo 0, A.getD (eo + 1) 0] rfl (by omega) (by omega) (by rw [wl]; simp only [List.length_nil]; omega) (fun z => ⟨rfl, by omega⟩) (fun z => by rw [wl]; omega) ?_ (by unfold eStep; simp only [he])
          show wSt (psH (psH gA _ (gA.1 92 ((wds a0 fs).length - A.length + eo))) _ (gA.1 92 ((wds a0 fs).length - A.length + eo + 1))) _
          rw [wA.2 _ (by rw [wl]; omega), wA.2 ((wds a0 fs).length - A.length + eo + 1) (by rw [wl]; omega), List.append_nil, gD_l (by omega), gD_l (by omega), ← u7 eo (by omega), show (wds a0 fs).length - A.length + eo + 1 = (wds a0 fs).length - A.length + (eo + 1) by omega, ← u7 (eo + 1) (by omega)]
          rw [List.append_nil] at wA
          have := wSt_ps (v := A.getD (eo + 1) 0) (wSt_ps (v := A.getD eo 0) wA rfl) (show (wds a0 fs ++ T).length + 1 = (wds a0 fs ++ T ++ [A.getD eo 0]).length by simp [Nat.add_assoc])
          simpa using this
        case h_4 => exact sil rfl (T ++ V) [] (by simp) (by unfold eStep; simp only [he])
        case h_5 => exact sil rfl (T ++ V) [] (by simp) (by unfold eStep; simp only [he])
        case h_9 =>
          obtain ⟨k1, k2, k3⟩ := hok
          obtain ⟨x, rfl⟩ := len1 (V := V) (by omega)
          obtain ⟨u, hu1, hu2⟩ := last1 (T := T) (by omega)
          refine sil rfl (T.take (T.length - 1)) [u, x] ?_ (by unfold eStep; simp only [he, hu2]; rfl)
          conv => rhs; rw [hu1]
          simp
        case h_10 =>
          obtain ⟨k1, k3⟩ := hok
          obtain ⟨x, y, rfl⟩ := len2 (V := V) (by omega)
          refine wk rfl 6 0 T [x] rfl (by omega) (fun _ => by rw [wl]; simp) (by rw [wl]; simp only [List.length_cons, List.length_nil]; omega) (fun z => by omega) (fun z => by omega) ?_ (by unfold eStep; simp only [he]; rfl)
          show wSt (ppH gA ((wds a0 fs ++ T ++ [x, y]).length - 1)) _
          refine wSt_pp (l' := [y]) (by simpa using wA) (by simp)
        case h_11 =>
          obtain ⟨k1, k3⟩ := hok
          obtain ⟨x, y, rfl⟩ := len2 (V := V) (by omega)
          refine wk rfl 7 0 T [y] rfl (by omega) (fun _ => by rw [wl]; simp) (by rw [wl]; simp only [List.length_cons, List.length_nil]; omega) (fun z => by omega) (fun z => by omega) ?_ (by unfold eStep; simp only [he]; rfl)
          show wSt (ppH (up2 gA.1 92 ((wds a0 fs ++ T ++ [x, y]).length - 2) (gA.1 92 ((wds a0 fs ++ T ++ [x, y]).length - 1)), gA.2) ((wds a0 fs ++ T ++ [x, y]).length - 1)) _
          have e1 : gA.1 92 ((wds a0 fs ++ T ++ [x, y]).length - 1) = y := wSt_at (l := wds a0 fs ++ T ++ [x]) (l' := []) (by simpa using wA) (by simp)
          rw [e1]
          have l2 : (wds a0 fs ++ T ++ [x, y]).length = (wds a0 fs ++ T).length + 2 := by simp; omega
          rw [l2]
          refine ⟨by rw [show (wds a0 fs ++ T).length + 2 - 1 = (wds a0 fs ++ T ++ [y]).length by simp; omega]; exact ppH_38, fun j hj => ?_⟩
          have hj' : j < (wds a0 fs ++ T).length + 1 := by simpa [Nat.add_assoc] using hj
          rw [ppH_o (by omega)]
          dsimp only
          by_cases cj : j = (wds a0 fs ++ T).length
          · rw [cj, show (wds a0 fs ++ T).length + 2 - 2 = (wds a0 fs ++ T).length by omega, up2_s, gD_r (Nat.le_refl _)]; simp
          · rw [up2_n (by omega), wA.2 j (by omega), gD_l (show j < (wds a0 fs ++ T).length by omega), gD_l (show j < (wds a0 fs ++ T).length by omega)]
        case h_12 =>
          obtain ⟨k1, k2, k3, k4, k5⟩ := hok
          obtain ⟨x, rfl⟩ := len1 (V := V) (by omega)
          have l1 : (wds a0 fs ++ T ++ [x]).length = (wds a0 fs ++ T).length + 1 := by simp [Nat.add_assoc]
          have e1 : gA.1 92 (wds a0 fs ++ T).length = x := wSt_at (l := wds a0 fs ++ T) (l' := []) wA rfl
          have WP : wSt (ppH gA (wds a0 fs ++ T).length) (wds a0 fs ++ T) := wSt_pp wA rfl
          have hpop := r_pop (l := jXl X) (h := gA) (n := (wds a0 fs ++ T).length) hw rA (by rw [← l1]; exact wA.1) (by rw [List.length_append]; omega)
          have rP : (ppH gA (wds a0 fs ++ T).length).2.1 70 = rMap := rA
          obtain ⟨c1, c2, c3⟩ := c0 rfl
          have c2' : g.1 83 (130 * m + Rc (PG m).2.1 p) = nI (Rc (PG m).2.1 eo) := c2
          have hlt' := hlt rfl
          refine head rfl ?_
          by_cases hx : x = 0
          · have es : eStep PG sz a0 (fl, tk, mx, (m, i, p, A, T) :: fs, [x]) = .inl (fl, tk, mx, (m, i, eo, A, T) :: fs, []) := by unfold eStep; simp only [he]; rw [if_pos (show [x].getD 0 0 = 0 from hx)]
            have fin : J X w (up2 (ppH gA (wds a0 fs ++ T).length).1 95 fs.length (nI (Rc (PG m).2.1 eo)), (ppH gA (wds a0 fs ++ T).length).2) 2 [(0, .ref (jad w 70)), (1, .int 0)] [] := by
              refine nxt _ _ es (gF_up (gF_pp GA) (by omega)) (gR_top R (by dsimp only; rw [up2_s]) (fun k j z1 z2 z4 z3 => by dsimp only; rw [up2_n (by omega), ppH_o (by omega)]; exact oA (by omega)) (fun j z => by dsimp only; rw [up2_n (by omega), ppH_o (by omega)]; exact oA (by omega)) (wSt_o (by rw [List.append_nil]; exact WP) (by dsimp only; rw [up2_n (by omega)]) (fun j _ => by dsimp only; rw [up2_n (by omega)])))
            refine k_iload C dX5_go_60 rfl ?_
            refine j_bipush (v := 10) C dX5_go_62 (by decide) ?_
            refine j_icmp_ne C 97 dX5_go_64 (by decide) (fun c64 => ?_) (fun c64 => ?_)
            · refine k_iload C dX5_go_97 rfl ?_
              refine j_bipush (v := 11) C dX5_go_99 (by decide) ?_
              refine j_icmp_ne C 111 dX5_go_101 (by decide) (fun c101 => ?_) (fun c101 => ?_)
              · refine k_iload C dX5_go_111 rfl ?_
                refine j_bipush (v := 9) C dX5_go_113 (by decide) ?_
                refine j_icmp_eq C 132 dX5_go_115 (by decide) (fun c115 => ?_) (fun c115 => ?_)
                · exact absurd (by first | exact c115 | exact Classical.not_not.mp c115) (show ¬ nI 8 = 9 by decide) -- stop
                · refine k_iload C dX5_go_118 rfl ?_
                  refine j_bipush (v := 8) C dX5_go_120 (by decide) ?_
                  refine j_icmp_ne C 148 dX5_go_122 (by decide) (fun c122 => ?_) (fun c122 => ?_)
                  · exact absurd rfl c122 -- stop
                  · refine k_aload_n C dX5_go_125 rfl ?_
                    refine k_callV (k := 70) (ci := 5) (As := []) C mX5_281 (hpop) jCl5.1 (by first | decide | omega) (by first | assumption | rfl) rfl rfl (Nat.le_of_ble_eq_true rfl) (jroom hR (by first | decide | omega) (by decide)) dX5_go_126 ?_
                    rintro v9 h9 ⟨rfl, rfl⟩
                    rw [e1]
                    refine j_if_ne C 148 dX5_go_129 (by decide) (fun c129 => ?_) (fun c129 => ?_)
                    · exact absurd hx c129 -- stop
                    · refine k_aload_n C dX5_go_132 rfl ?_
                      refine j_getr C fX5_91 rfl (by first | decide | omega) (by first | assumption | rfl) (congrFun rP _) dX5_go_133 ?_
                      refine k_iload_n C dX5_go_136 rfl ?_
                      refine k_aload_n C dX5_go_137 rfl ?_
                      refine j_getr C fX5_48 rfl (by first | decide | omega) (by first | assumption | rfl) (congrFun rP _) dX5_go_138 ?_
                      refine k_iload C dX5_go_141 rfl ?_
                      refine j_iald C (by first | decide | omega) (by first | assumption | rfl) (rfl) ((by omega)) (by decide) dX5_go_143 ?_
                      rw [ppH_o (by omega), oA (by omega), c2']
                      refine j_iast C (by first | decide | omega) (by first | assumption | rfl) (rfl) ((by omega)) (by decide) dX5_go_144 ?_
                      refine j_goto C 174 dX5_go_145 (by decide) ?_
                      refine j_goto C 2 dX5_go_174 (by decide) ?_
                      exact drop fin
              · exact absurd (by first | exact c101 | exact Classical.not_not.mp c101) (show ¬ nI 8 = 11 by decide) -- stop
            · exact absurd (by first | exact c64 | exact Classical.not_not.mp c64) (show ¬ nI 8 = 10 by decide) -- stop
          · have es : eStep PG sz a0 (fl, tk, mx, (m, i, p, A, T) :: fs, [x]) = .inl (fl, tk, mx, (m, i, p + 1, A, T) :: fs, []) := by unfold eStep; simp only [he]; rw [if_neg (show ¬ [x].getD 0 0 = 0 from hx)]
            have fin : J X w (ppH gA (wds a0 fs ++ T).length) 2 [(0, .ref (jad w 70)), (1, .int 0)] [] := by
              refine nxt _ _ es (gF_pp GA) (gR_top R ?_ (fun k j z1 z2 z4 z3 => by rw [ppH_o (by omega)]; exact oA (by omega)) (fun j z => by rw [ppH_o (by omega)]; exact oA (by omega)) (by rw [List.append_nil]; exact WP))
              rw [ppH_o (by omega), hRs, egA]; dsimp only; rw [up2_s]; rfl
            refine k_iload C dX5_go_60 rfl ?_
            refine j_bipush (v := 10) C dX5_go_62 (by decide) ?_
            refine j_icmp_ne C 97 dX5_go_64 (by decide) (fun c64 => ?_) (fun c64 => ?_)
            · refine k_iload C dX5_go_97 rfl ?_
              refine j_bipush (v := 11) C dX5_go_99 (by decide) ?_
              refine j_icmp_ne C 111 dX5_go_101 (by decide) (fun c101 => ?_) (fun c101 => ?_)
              · refine k_iload C dX5_go_111 rfl ?_
                refine j_bipush (v := 9) C dX5_go_113 (by decide) ?_
                refine j_icmp_eq C 132 dX5_go_115 (by decide) (fun c115 => ?_) (fun c115 => ?_)
                · exact absurd (by first | exact c115 | exact Classical.not_not.mp c115) (show ¬ nI 8 = 9 by decide) -- stop
                · refine k_iload C dX5_go_118 rfl ?_
                  refine j_bipush (v := 8) C dX5_go_120 (by decide) ?_
                  refine j_icmp_ne C 148 dX5_go_122 (by decide) (fun c122 => ?_) (fun c122 => ?_)
                  · exact absurd rfl c122 -- stop
                  · refine k_aload_n C dX5_go_125 rfl ?_
                    refine k_callV (k := 70) (ci := 5) (As := []) C mX5_281 (hpop) jCl5.1 (by first | decide | omega) (by first | assumption | rfl) rfl rfl (Nat.le_of_ble_eq_true rfl) (jroom hR (by first | decide | omega) (by decide)) dX5_go_126 ?_
                    rintro v9 h9 ⟨rfl, rfl⟩
                    rw [e1]
                    refine j_if_ne C 148 dX5_go_129 (by decide) (fun c129 => ?_) (fun c129 => ?_)
                    · refine k_iload C dX5_go_148 rfl ?_
                      refine j_bipush (v := 8) C dX5_go_150 (by decide) ?_
                      refine j_icmp_eq C 174 dX5_go_152 (by decide) (fun c152 => ?_) (fun c152 => ?_)
                      · refine j_goto C 2 dX5_go_174 (by decide) ?_
                        exact drop fin
                      · exact absurd rfl c152 -- stop
                    · exact absurd (by first | exact c129 | exact Classical.not_not.mp c129) hx -- stop
              · exact absurd (by first | exact c101 | exact Classical.not_not.mp c101) (show ¬ nI 8 = 11 by decide) -- stop
            · exact absurd (by first | exact c64 | exact Classical.not_not.mp c64) (show ¬ nI 8 = 10 by decide) -- stop
        case h_13 =>
          obtain ⟨k1, k2, k3⟩ := hok
          obtain ⟨c1, c2, c3⟩ := c0 rfl
          have c2' : g.1 83 (130 * m + Rc (PG m).2.1 p) = nI (Rc (PG m).2.1 eo) := c2
          have hlt' := hlt rfl
          have es : eStep PG sz a0 (fl, tk, mx, (m, i, p, A, T) :: fs, V) = .inl (fl, tk, mx, (m, i, eo, A, T) :: fs, V) := by unfold eStep; simp only [he]
          have fin : J X w (up2 gA.1 95 fs.length (nI (Rc (PG m).2.1 eo)), gA.2) 2 [(0, .ref (jad w 70)), (1, .int 0)] [] := by
            refine nxt _ _ es (gF_up GA (by omega)) (gR_top R (by dsimp only; rw [up2_s]) (fun k j z1 z2 z4 z3 => by dsimp only; rw [up2_n (by omega)]; exact oA (by omega)) (fun j z => by dsimp only; rw [up2_n (by omega)]; exact oA (by omega)) (wSt_o wA (by dsimp only; rw [up2_n (by omega)]) (fun j _ => by dsimp only; rw [up2_n (by omega)])))
          refine head rfl ?_
          refine k_iload C dX5_go_60 rfl ?_
          refine j_bipush (v := 10) C dX5_go_62 (by decide) ?_
          refine j_icmp_ne C 97 dX5_go_64 (by decide) (fun c64 => ?_) (fun c64 => ?_)
          · refine k_iload C dX5_go_97 rfl ?_
            refine j_bipush (v := 11) C dX5_go_99 (by decide) ?_
            refine j_icmp_ne C 111 dX5_go_101 (by decide) (fun c101 => ?_) (fun c101 => ?_)
            · refine k_iload C dX5_go_111 rfl ?_
              refine j_bipush (v := 9) C dX5_go_113 (by decide) ?_
              refine j_icmp_eq C 132 dX5_go_115 (by decide) (fun c115 => ?_) (fun c115 => ?_)
              · refine k_aload_n C dX5_go_132 rfl ?_
                refine j_getr C fX5_91 rfl (by first | decide | omega) (by first | assumption | rfl) (congrFun rA _) dX5_go_133 ?_
                refine k_iload_n C dX5_go_136 rfl ?_
                refine k_aload_n C dX5_go_137 rfl ?_
                refine j_getr C fX5_48 rfl (by first | decide | omega) (by first | assumption | rfl) (congrFun rA _) dX5_go_138 ?_
                refine k_iload C dX5_go_141 rfl ?_
                refine j_iald C (by first | decide | omega) (by first | assumption | rfl) (rfl) ((by omega)) (by decide) dX5_go_143 ?_
                rw [oA (by omega), c2']
                refine j_iast C (by first | decide | omega) (by first | assumption | rfl) (rfl) ((by omega)) (by decide) dX5_go_144 ?_
                refine j_goto C 174 dX5_go_145 (by decide) ?_
                refine j_goto C 2 dX5_go_174 (by decide) ?_
                exact drop fin
              · exact absurd rfl c115 -- stop
            · exact absurd (by first | exact c101 | exact Classical.not_not.mp c101) (show ¬ nI 9 = 11 by decide) -- stop
          · exact absurd (by first | exact c64 | exact Classical.not_not.mp c64) (show ¬ nI 9 = 10 by decide) -- stop
        case h_14 =>
          obtain ⟨k1, o, nm, s', rfl, k3, k4, k5, k6⟩ := hok
          have hv0 : V = [] := List.eq_nil_of_length_eq_zero (by omega)
          subst hv0
          obtain ⟨c1, c2, c3⟩ := c0 rfl
          have c2' : g.1 83 (130 * m + Rc (PG m).2.1 p) = nI (o * 26 + nm) := c2
          have c3' : g.1 84 (130 * m + Rc (PG m).2.1 p) = nI T.length := by rw [c3 rfl, ← g1]
          have hlt' := hlt rfl
          obtain ⟨j, j1, j2, hj, j3, j4, j5⟩ := (hL m f1 f2).2 o nm s' k4
          have U3 := (hL _ j1 j2).1
          have ed : dfx (PG (calM m (o * 26 + nm))).1 nm = some j := dfx_dst U3.2.2.1 hj j3 j4
          have esg3 : sgo PG (calM m (o * 26 + nm)) j = s' := by unfold sgo; rw [gtD hj]; exact j5
          have es : eStep PG sz a0 (fl, tk, mx, (m, i, p, A, T) :: fs, []) = eEnter PG sz a0 (calM m (o * 26 + nm)) j (fl, tk, mx, (m, i, p + 1, A, T) :: fs, []) := by
            unfold eStep
            simp only [he, show (o * 26 + nm) % 26 = nm by omega, ed]
          have wl' : (wds a0 fs ++ T).length = (wds a0 fs).length + T.length := by simp
          rw [List.append_nil] at wA
          have MA : rM PG pr gA := rM_keep (fun k j z => oA (by omega)) hMg
          have e40A : gA.1 70 40 = nI (fs.length + 1) := by rw [oA (by omega)]; exact q40
          have hen := r_enter (l := jXl X) (h := gA) (PG := PG) (pr := pr) (m := calM m (o * 26 + nm)) (i := j) (ly := ht a0.length fs + 2 + T.length) (F := fs.length + 1) (n := (wds a0 fs ++ T).length) (sz := sz) (fl := fl) (tk := tk) (mx := mx) hw rA MA j1 j2 hj j3 (by omega) e40A (by omega) wA.1 (by omega) (by rw [esg3]; omega) (by rw [oA (by omega), G.2 70 1 (by omega)]; exact h1) hsz (by rw [oA (by omega)]; exact q46) (by omega) (by rw [oA (by omega)]; exact q47) (by rw [oA (by omega)]; exact q48) (by omega)
          have hiv := r_invoke (l := jXl X) (h := gA) (PG := PG) (pr := pr) (m := m) (o := o) (nm := nm) (s' := s') (j := j) (ly := ht a0.length fs + 2 + T.length) hw rA MA hfit f1 f2 k3 k4 ed (fun v h' z => by
            unfold enP at z
            split at z
            · exact ⟨_, z.1⟩
            · split at z
              · exact ⟨_, z.1⟩
              · exact ⟨_, z.1⟩) hen
          have elg : nI (ht a0.length fs + 2) + nI T.length = nI (ht a0.length fs + 2 + T.length) := nI_add _ _
          have hht' : ht a0.length ((m, i, p + 1, A, T) :: fs) = ht a0.length fs + 2 + T.length := rfl
          have after : ∀ v h9, enP PG sz gA (fs.length + 1) (wds a0 fs ++ T).length fl tk mx (calM m (o * 26 + nm)) j (ht a0.length fs + 2 + T.length) v h9 → J X w h9 93 [(0, .ref (jad w 70)), (1, .int 0), (2, .int (nI fs.length)), (3, .int (nI m)), (4, .int (nI (130 * m + Rc (PG m).2.1 p))), (5, .int (nI 10))] (jcons v []) := by
            intro v h9 p9
            have go : ∀ (z : Nat), v = some (.int (nI z)) → J X w h9 2 [(0, .ref (jad w 70)), (1, .int (nI z))] [] → J X w h9 93 [(0, .ref (jad w 70)), (1, .int 0), (2, .int (nI fs.length)), (3, .int (nI m)), (4, .int (nI (130 * m + Rc (PG m).2.1 p))), (5, .int (nI 10))] (jcons v []) := by
              intro z hv kk
              subst hv
              refine k_istore_n C dX5_go_93 (by rw [hnL]; decide) ?_
              refine j_goto C 174 dX5_go_94 (by decide) ?_
              refine j_goto C 2 dX5_go_174 (by decide) ?_
              exact j_mono (lv' := [(0, .ref (jad w 70)), (1, .int (nI z))]) (fun q hq => List.mem_append_left [(2, Value.int (nI fs.length)), (3, Value.int (nI m)), (4, Value.int (nI (130 * m + Rc (PG m).2.1 p))), (5, Value.int (nI 10))] hq) kk
            rw [es] at hq' nxt
            unfold enP at p9
            unfold eEnter at hq' nxt
            dsimp only at hq' nxt
            rw [hht'] at hq' nxt
            by_cases hf0 : fl = 0
            · rw [if_pos hf0] at p9 hq'
              simp only [Option.some.injEq] at hq'
              obtain ⟨p1, rfl⟩ := p9
              refine go 2 p1 (ex h9 (2, (fl, tk, mx, (m, i, p + 1, A, T) :: fs, [])) (by dsimp only; omega) (Or.inl (by dsimp only; omega)) (by rw [hrun, ← hq']) (gF_tr G GA) (by rw [oA (by omega)]; exact q47) (by rw [oA (by omega)]; exact q48) (fun z => by cases z))
            · rw [if_neg hf0] at p9 hq' nxt
              by_cases hov : sz < ht a0.length fs + 2 + T.length + 2 + rmo PG (calM m (o * 26 + nm)) j
              · rw [if_pos hov] at p9 hq'
                simp only [Option.some.injEq] at hq'
                obtain ⟨p1, rfl⟩ := p9
                refine go 1 p1 (ex _ (1, (fl - 1, tk + 1, mx, (m, i, p + 1, A, T) :: fs, [])) (by dsimp only; omega) (Or.inl (by dsimp only; omega)) (by rw [hrun, ← hq']) (gF_tr G (gF_tr GA ⟨rfl, fun k j z => e1H_o (by omega)⟩)) (by unfold e1H; dsimp only; rw [up2_s]) (by rw [e1H_o (by omega), oA (by omega)]; exact q48) (fun z => by cases z))
              · rw [if_neg hov] at p9 nxt
                obtain ⟨p1, rfl⟩ := p9
                refine go 0 p1 (nxt _ _ rfl ?_ ?_)
                · refine gF_tr GA ⟨rfl, fun k j z => ?_⟩
                  unfold enR; dsimp only
                  rw [up2_n (by omega), up2_n (by omega), up2_n (by omega), up2_n (by omega), up2_n (by omega), up2_n (by omega), up2_n (by omega), e1H_o (by omega)]
                · have oE : ∀ {k j' : Nat}, ¬ (k = 70 ∧ (j' = 40 ∨ j' = 46 ∨ j' = 47 ∨ j' = 48)) → ¬ (93 ≤ k ∧ k ≤ 97 ∧ j' = fs.length + 1) → (enR (e1H gA fl tk) (fs.length + 1) (wds a0 fs ++ T).length (calM m (o * 26 + nm)) j (Rc (PG (calM m (o * 26 + nm))).2.1 (bgo PG (calM m (o * 26 + nm)) j)) (wb (sgo PG (calM m (o * 26 + nm)) j) 4) (ht a0.length fs + 2 + T.length) (max mx (ht a0.length fs + 2 + T.length + 2 + rmo PG (calM m (o * 26 + nm)) j))).1 k j' = gA.1 k j' := fun {k j'} z1 z2 => by
                    unfold enR; dsimp only
                    rw [up2_n (by omega), up2_n (by omega), up2_n (by omega), up2_n (by omega), up2_n (by omega), up2_n (by omega), up2_n (by omega), e1H_o (by omega)]
                  have hwbT : wb (sgo PG (calM m (o * 26 + nm)) j) 4 ≤ T.length := by rw [esg3]; omega
                  have hlA : (lastN (wb (sgo PG (calM m (o * 26 + nm)) j) 4) T).length = wb (sgo PG (calM m (o * 26 + nm)) j) 4 := lastN_len hwbT
                  refine ⟨?_, ?_, ?_, ?_, ⟨?_, ?_, ?_, ?_, ?_, ?_, ?_, ?_⟩, ?_⟩
                  · unfold enR; dsimp only; rw [up2_n (by omega), up2_n (by omega), up2_n (by omega), up2_n (by omega), up2_n (by omega), up2_n (by omega), up2_n (by omega)]; unfold e1H; dsimp only; rw [up2_n (by omega), up2_s]
                  · unfold enR; dsimp only; rw [up2_n (by omega), up2_n (by omega), up2_n (by omega), up2_n (by omega), up2_n (by omega), up2_n (by omega), up2_n (by omega)]; unfold e1H; dsimp only; rw [up2_s]
                  · unfold enR; dsimp only; rw [up2_n (by omega), up2_n (by omega), up2_n (by omega), up2_n (by omega), up2_n (by omega), up2_n (by omega), up2_s]
                  · unfold enR; dsimp only; rw [up2_s]; rfl
                  · unfold enR; dsimp only [List.length_cons]; rw [up2_n (by omega), up2_n (by omega), up2_n (by omega), up2_n (by omega), up2_n (by omega), up2_s]
                  · unfold enR; dsimp only [List.length_cons]; rw [up2_n (by omega), up2_n (by omega), up2_n (by omega), up2_n (by omega), up2_s]
                  · unfold enR; dsimp only [List.length_cons]; rw [up2_n (by omega), up2_n (by omega), up2_n (by omega), up2_s]
                  · dsimp only [topT]; rw [hlA]; unfold enR; dsimp only [List.length_cons]; rw [up2_n (by omega), up2_n (by omega), up2_s]; rfl
                  · unfold enR; dsimp only [List.length_cons]; rw [up2_n (by omega), up2_s]; rfl
                  · dsimp only [topT]; rw [hlA]; show _ ≤ (wds a0 fs ++ T).length; omega
                  · intro jj hjj
                    dsimp only [topT] at hjj ⊢
                    rw [hlA] at hjj ⊢
                    show (lastN _ T).getD jj 0 = (wds a0 fs ++ T).getD ((wds a0 fs ++ T).length - wb (sgo PG (calM m (o * 26 + nm)) j) 4 + jj) 0
                    rw [gD_r (by omega), wl']
                    unfold lastN
                    rw [List.getD_eq_getElem?_getD, List.getElem?_drop, ← List.getD_eq_getElem?_getD]
                    congr 1
                    omega
                  · refine fRs_top (h := g) (p := p) (T := T) qF ?_ (fun k j' z1 z2 z4 z3 => by rw [oE (by omega) (by omega)]; exact oA (by omega))
                    rw [oE (by omega) (by omega), hRs, egA]; dsimp only; rw [up2_s]; rfl
                  · show wSt _ (wds a0 fs ++ T ++ [] ++ [])
                    rw [List.append_nil, List.append_nil]
                    exact wSt_o wA (oE (by omega) (by omega)) (fun jj _ => oE (by omega) (by omega))
          refine head rfl ?_
          refine k_iload C dX5_go_60 rfl ?_
          refine j_bipush (v := 10) C dX5_go_62 (by decide) ?_
          refine j_icmp_ne C 97 dX5_go_64 (by decide) (fun c64 => ?_) (fun c64 => ?_)
          · exact absurd rfl c64 -- stop
          · refine k_aload_n C dX5_go_67 rfl ?_
            refine k_iload_n C dX5_go_68 rfl ?_
            refine k_aload_n C dX5_go_69 rfl ?_
            refine j_getr C fX5_48 rfl (by first | decide | omega) (by first | assumption | rfl) (congrFun rA _) dX5_go_70 ?_
            refine k_iload C dX5_go_73 rfl ?_
            refine j_iald C (by first | decide | omega) (by first | assumption | rfl) (rfl) ((by omega)) (by decide) dX5_go_75 ?_
            rw [oA (by omega), c2']
            refine k_aload_n C dX5_go_76 rfl ?_
            refine j_getr C fX5_97 rfl (by first | decide | omega) (by first | assumption | rfl) (congrFun rA _) dX5_go_77 ?_
            refine k_iload_n C dX5_go_80 rfl ?_
            refine j_iald C (by first | decide | omega) (by first | assumption | rfl) (rfl) ((by omega)) (by decide) dX5_go_81 ?_
            rw [oA (by omega), u5]
            refine k_aload_n C dX5_go_82 rfl ?_
            refine j_getr C fX5_51 rfl (by first | decide | omega) (by first | assumption | rfl) (congrFun rA _) dX5_go_83 ?_
            refine k_iload C dX5_go_86 rfl ?_
            refine j_iald C (by first | decide | omega) (by first | assumption | rfl) (rfl) ((by omega)) (by decide) dX5_go_88 ?_
            rw [oA (by omega), c3']
            refine j_iadd C dX5_go_89 ?_
            rw [elg]
            refine k_callV (k := 70) (ci := 5) (As := [.int (nI m), .int (nI (o * 26 + nm)), .int (nI (ht a0.length fs + 2 + T.length))]) C mX5_290 hiv jCl5.1 (by decide) rfl rfl rfl (Nat.le_of_ble_eq_true rfl) (jroom hR (by omega) (by decide)) dX5_go_90 ?_
            exact after
        case h_15 => exact hok.elim
        all_goals
          obtain ⟨k1, k2, k3⟩ := hok
          obtain ⟨x, rfl⟩ := len1 (V := V) (by omega)
          obtain ⟨u, hu1, hu2⟩ := last1 (T := T) (by omega)
          have l1 : (wds a0 fs ++ T ++ [x]).length - 1 = (wds a0 fs ++ T).length := by simp
          have hT1 : (wds a0 fs ++ T.take (T.length - 1) ++ [u]) = wds a0 fs ++ T := by rw [List.append_assoc, ← hu1]
          have lT : (wds a0 fs ++ T.take (T.length - 1)).length = (wds a0 fs ++ T).length - 1 := by rw [← hT1]; simp
          have lT1 : 1 ≤ (wds a0 fs ++ T).length := by rw [List.length_append]; omega
          have l2 : (wds a0 fs ++ T ++ [x]).length - 2 = (wds a0 fs ++ T.take (T.length - 1)).length := by rw [lT]; simp; omega
          have e1 : gA.1 92 ((wds a0 fs ++ T ++ [x]).length - 1) = x := wSt_at (l := wds a0 fs ++ T) (l' := []) wA l1
          have e2 : gA.1 92 ((wds a0 fs ++ T ++ [x]).length - 2) = u := wSt_at (l := wds a0 fs ++ T.take (T.length - 1)) (l' := [x]) (by rw [show wds a0 fs ++ T.take (T.length - 1) ++ u :: [x] = wds a0 fs ++ T ++ [x] by rw [← hT1]; simp]; exact wA) l2
          have WP : wSt (ppH (ppH gA ((wds a0 fs ++ T ++ [x]).length - 1)) ((wds a0 fs ++ T ++ [x]).length - 2)) (wds a0 fs ++ T.take (T.length - 1)) := wSt_pp (l' := [u]) (by rw [hT1]; exact wSt_pp wA l1) l2
        · refine wk rfl 3 0 (T.take (T.length - 1)) [u + x] rfl (by omega) (fun _ => by rw [wl]; simp; omega) (by rw [wl]; simp; omega) (fun z => by omega) (fun z => by omega) ?_ (by unfold eStep; simp only [he, hu2]; rfl)
          show wSt (psH (ppH (ppH gA ((wds a0 fs ++ T ++ [x]).length - 1)) ((wds a0 fs ++ T ++ [x]).length - 2)) ((wds a0 fs ++ T ++ [x]).length - 2) (gA.1 92 ((wds a0 fs ++ T ++ [x]).length - 2) + gA.1 92 ((wds a0 fs ++ T ++ [x]).length - 1))) _
          rw [e1, e2]
          exact wSt_ps WP l2
        · refine wk rfl 4 0 (T.take (T.length - 1)) [u - x] rfl (by omega) (fun _ => by rw [wl]; simp; omega) (by rw [wl]; simp; omega) (fun z => by omega) (fun z => by omega) ?_ (by unfold eStep; simp only [he, hu2]; rfl)
          show wSt (psH (ppH (ppH gA ((wds a0 fs ++ T ++ [x]).length - 1)) ((wds a0 fs ++ T ++ [x]).length - 2)) ((wds a0 fs ++ T ++ [x]).length - 2) (gA.1 92 ((wds a0 fs ++ T ++ [x]).length - 2) - gA.1 92 ((wds a0 fs ++ T ++ [x]).length - 1))) _
          rw [e1, e2]
          exact wSt_ps WP l2
        · refine wk rfl 5 0 (T.take (T.length - 1)) [u * x] rfl (by omega) (fun _ => by rw [wl]; simp; omega) (by rw [wl]; simp; omega) (fun z => by omega) (fun z => by omega) ?_ (by unfold eStep; simp only [he, hu2]; rfl)
          show wSt (psH (ppH (ppH gA ((wds a0 fs ++ T ++ [x]).length - 1)) ((wds a0 fs ++ T ++ [x]).length - 2)) ((wds a0 fs ++ T ++ [x]).length - 2) (gA.1 92 ((wds a0 fs ++ T ++ [x]).length - 2) * gA.1 92 ((wds a0 fs ++ T ++ [x]).length - 1))) _
          rw [e1, e2]
          exact wSt_ps WP l2
  obtain ⟨q, hq⟩ := eRun_end hL K s0 hI0 hK
  show J X w h 0 [(0, .ref (jad w 70))] []
  refine j_iconst (v := 0) C dX5_go_0 (by decide) ?_
  refine k_istore_n C dX5_go_1 (by rw [hnL]; decide) ?_
  exact loop K s0 h gF_rf hI0 hg0 hfu0 hmx0 q hq hq
end XY
