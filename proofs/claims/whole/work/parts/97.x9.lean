def parC (sg j : Nat) : CL := fun _ hd => if ta sg j = 0 then none else some (ta sg j, [(ta sg j, wb sg j, hd, 0)], 0)
section X9
variable {l : Launch} {w : jW} {h0 g1 gE g g' : jH} {t : Nat → Nat} {n : Nat} {dc gd ty ip : Bool} {H : Nat → Prop} {L c a s : Nat} {q qs : TA} {f f2 : CL} {e : List Ev} {tb : List HD} {x sg0 sg : Nat}
theorem nTk_iff {s k : Nat} (hs : sgn s) (hk : k ≤ 2) : k < nTk s ↔ ta s (k + 1) ≠ 0 := by
  refine ⟨nTk_ta, fun h => ?_⟩
  have z1 : ta s 1 = 0 → ta s 2 = 0 := hs 1 (by omega)
  have z2 : ta s 2 = 0 → ta s 3 = 0 := hs 2 (by omega)
  unfold nTk
  have hk3 : k = 0 ∨ k = 1 ∨ k = 2 := by omega
  by_cases c1 : ta s 1 = 0
  · exfalso
    rcases hk3 with rfl | rfl | rfl
    · exact h c1
    · exact h (z1 c1)
    · exact h (z2 (z1 c1))
  · rw [if_neg c1]
    by_cases c2 : ta s 2 = 0
    · rw [if_pos c2]
      rcases hk3 with rfl | rfl | rfl
      · omega
      · exact absurd c2 h
      · exact absurd (z2 c2) h
    · rw [if_neg c2]
      by_cases c3 : ta s 3 = 0
      · rw [if_pos c3]
        rcases hk3 with rfl | rfl | rfl
        · omega
        · omega
        · exact absurd c3 h
      · rw [if_neg c3]; omega
theorem leR_eq2 {u v : Int32} (i : Int32) : emD dc (up2 g.1 70 33 i, g.2) s u v = leR dc g s u v i := by
  refine Prod.ext ?_ rfl
  funext k j
  unfold leR
  dsimp only
  by_cases c : k = 70 ∧ j = 33
  · rw [c.1, c.2, up2_s, emD_o (by omega) (by omega)]; dsimp only; rw [up2_s]
  · rw [up2_n c]
theorem xW_dc {a' s' : Nat} {ty' : Bool} (hdc : dc = true) (F : xF h0 g') (o : g'.1 70 23 = nI (L + 1)) (sg : g'.1 70 21 = nI s') (b : s' + c + 1 ≤ a') (lf : lF L g g') (hi : g'.1 70 33 = bI ip) : xW h0 g g' dc H L c a' q f s' ty' ip := by
  subst hdc
  exact ⟨⟨F, o, sg, b, fun z => by cases z⟩, lf, hi, fun z => by cases z⟩
theorem xW_no {a' s' : Nat} {ty' : Bool} (hf : ∀ bs hd, f bs hd = none) (F : xF h0 g') (o : g'.1 70 23 = nI (L + 1)) (sg : g'.1 70 21 = nI s') (b : s' + c + 1 ≤ a') (lf : lF L g g') (hi : g'.1 70 33 = bI ip) (ht : dc = false → ty' = false) : xW h0 g g' dc H L c a' q f s' ty' ip := by
  have e1 : app q f = none := by unfold app; cases q with
    | none => rfl
    | some z => simp only [hf]
  have e2 : tyq q f = none := by unfold tyq; cases q with
    | none => rfl
    | some z => simp only [hf]
  exact ⟨⟨F, o, sg, b, fun z => by rw [e1]; exact ht z⟩, lf, hi, fun _ y hy => by rw [e2] at hy; cases hy⟩
theorem r_readParameter (hw : jok w) (T : xT h0 t n dc) (S : xS h0 tb x sg0) (hsg : dc = false → sg = sg0) (hn : n ≤ 120) (han : a ≤ n) (K : xK h0 g dc H L c a q s ty) : jM l w yX5_readParameter cX5_readParameter 3 none 2 [.ref (jad w 70)] (pv g a true ty) (fun r h' => r = none ∧ ∃ g' a' ty', a' ≤ 200 ∧ if 49 ≤ pek t n a ∧ pek t n a ≤ 51 then h' = pv g' (a + 1) true ty' ∧ ∃ s' ip', xW h0 g g' dc H L c (a + 1) q (parC sg (pek t n a - 48)) s' ty' ip' else h' = pv g' a' false ty' ∧ xZ h0 g') := by
  refine jM_of (by decide) hw (Nat.le_of_ble_eq_true rfl) ?_
  intro X C hl hR hnL hrt hE
  subst hl
  have C : jC X w cX5_readParameter RX5 := C
  have sa := K.2.2.2.1
  obtain ⟨hr, ht, hd⟩ := xT_g T K.1
  obtain ⟨i22, hx6, -, ⟨s1, s2, s3⟩, s4, s5, -⟩ := xS_g S K.1
  have hp := pek_le ht a
  have hk3 := nTk_le sg0
  obtain ⟨rg, hrg⟩ : ∃ rg : Bool, rg = decide (49 ≤ pek t n a ∧ pek t n a ≤ 51) := ⟨_, rfl⟩
  obtain ⟨ix, hix⟩ : ∃ ix : Nat, ix = if true = true ∧ 49 ≤ pek t n a ∧ pek t n a ≤ 51 then pek t n a - 49 else 0 := ⟨_, rfl⟩
  have hix2 : ix ≤ 2 := by rw [hix]; split <;> omega
  have post : ∀ (g' : jH) (ty' : Bool) (s' : Nat) (ip' : Bool), xF h0 g' → g'.1 70 21 = nI s' → s' ≤ 121 → ((49 ≤ pek t n a ∧ pek t n a ≤ 51) → xW h0 g g' dc H L c (a + 1) q (parC sg (pek t n a - 48)) s' ty' ip') → (none : Option Value) = none ∧ ∃ g'' a' ty'', a' ≤ 200 ∧ if 49 ≤ pek t n a ∧ pek t n a ≤ 51 then pv g' (a + 1) rg ty' = pv g'' (a + 1) true ty'' ∧ ∃ s' ip', xW h0 g g'' dc H L c (a + 1) q (parC sg (pek t n a - 48)) s' ty'' ip' else pv g' (a + 1) rg ty' = pv g'' a' false ty'' ∧ xZ h0 g'' := by
    intro g' ty' s' ip' F h21 hs' hW
    refine ⟨rfl, g', a + 1, ty', by omega, ?_⟩
    by_cases z : 49 ≤ pek t n a ∧ pek t n a ≤ 51
    · rw [if_pos z, hrg, decide_eq_true z]
      exact ⟨rfl, s', ip', hW z⟩
    · rw [if_neg z, hrg, decide_eq_false z]
      exact ⟨rfl, F, s', h21, by omega⟩
  have eix : (49 ≤ pek t n a ∧ pek t n a ≤ 51) → ix + 1 = pek t n a - 48 := fun z => by rw [hix, if_pos ⟨rfl, z⟩]; omega
  have start : (∀ b : Bool, b = decide (ix < nTk sg0) → J X w (pv g (a + 1) rg ty) 27 [(0, .ref (jad w 70)), (1, .int (nI ix))] [.int (bI b)]) → J X w (pv g a true ty) 0 [(0, .ref (jad w 70))] [] := by
    intro kk
    have e22 : (pv g (a + 1) rg ty).1 70 22 = nI (36 + x) := by rw [pv_o (by omega)]; exact i22
    have e77 : (pv g (a + 1) rg ty).1 77 (36 + x) = nI (nTk sg0) := by rw [pv_o (by omega)]; exact s1
    refine k_aload_n C dX5_readParameter_0 rfl ?_
    refine j_bipush (v := 49) C dX5_readParameter_1 (by decide) ?_
    refine j_bipush (v := 51) C dX5_readParameter_3 (by decide) ?_
    refine k_callV (k := 70) (ci := 5) (As := [.int (nI 49), .int (nI 51)]) C mX5_165 (r_letter hw hr ht (by omega) (lo := 49) (hi := 51) (by decide) (by decide) (by decide)) jCl5.1 (by first | decide | omega) (by first | assumption | rfl) rfl rfl (Nat.le_of_ble_eq_true rfl) (jroom hR (by first | decide | omega) (by decide)) dX5_readParameter_5 ?_
    rintro v9 h9 ⟨rfl, rfl⟩
    rw [← hix, Bool.true_and, ← hrg]
    refine k_istore_n C dX5_readParameter_8 (by rw [hnL]; decide) ?_
    refine k_iload_n C dX5_readParameter_9 rfl ?_
    refine k_aload_n C dX5_readParameter_10 rfl ?_
    refine j_getr C fX5_30 rfl (by first | decide | omega) (by first | assumption | rfl) (congrFun hr _) dX5_readParameter_11 ?_
    refine k_aload_n C dX5_readParameter_14 rfl ?_
    refine j_geti C fX5_169 rfl (by first | decide | omega) (by first | assumption | rfl) dX5_readParameter_15 ?_
    refine j_iald C (by first | decide | omega) (by first | assumption | rfl) (e22) ((by omega)) (by decide) dX5_readParameter_18 ?_
    refine j_icmp_ge C 26 dX5_readParameter_19 (by decide) (fun c19 => ?_) (fun c19 => ?_)
    · rw [e77, nI_leI (by omega) (by omega)] at c19
      refine j_iconst (v := 0) C dX5_readParameter_26 (by decide) ?_
      first | exact kk false (decide_eq_false (by omega)).symm | exact kk true (decide_eq_true (by omega)).symm
    · rw [e77, nI_leI (by omega) (by omega)] at c19
      refine j_iconst (v := 1) C dX5_readParameter_22 (by decide) ?_
      refine j_goto C 27 dX5_readParameter_23 (by decide) ?_
      first | exact kk false (decide_eq_false (by omega)).symm | exact kk true (decide_eq_true (by omega)).symm
  refine start (fun b hb => ?_)
  have e22 : (pv g (a + 1) rg (ty && b)).1 70 22 = nI (36 + x) := by rw [pv_o (by omega)]; exact i22
  cases b with
  | false =>
    have hz : ¬ ix < nTk sg0 := of_decide_eq_false hb.symm
    have hz2 : ta sg0 (ix + 1) = 0 := Classical.not_not.mp (fun z => hz ((nTk_iff s5 hix2).mpr z))
    refine k_istore_n C dX5_readParameter_27 (by rw [hnL]; decide) ?_
    refine k_aload_n C dX5_readParameter_28 rfl ?_
    refine k_iload_n C dX5_readParameter_29 rfl ?_
    refine k_callV (k := 70) (ci := 5) (As := [.int (bI false)]) C mX5_172 (r_type hw false) jCl5.1 (by first | decide | omega) (by first | assumption | rfl) rfl rfl (Nat.le_of_ble_eq_true rfl) (jroom hR (by first | decide | omega) (by decide)) dX5_readParameter_30 ?_
    rintro v9 h9 ⟨rfl, rfl⟩
    refine k_aload_n C dX5_readParameter_33 rfl ?_
    refine k_iload_n C dX5_readParameter_34 rfl ?_
    refine j_if_eq C 58 dX5_readParameter_35 (by decide) (fun c35 => ?_) (fun c35 => ?_)
    · refine j_iconst (v := 0) C dX5_readParameter_58 (by decide) ?_
      refine j_putz C fX5_162 rfl rfl (by first | decide | assumption) (by first | decide | omega) (by first | assumption | rfl) dX5_readParameter_59 ?_
      refine jeqh (show _ = pv (up2 g.1 70 33 0, g.2) (a + 1) rg (ty && false) from pv_put (by omega)) ?_
      refine k_iload_n C dX5_readParameter_62 rfl ?_
      refine j_if_eq C 91 dX5_readParameter_63 (by decide) (fun c63 => ?_) (fun c63 => ?_)
      · exact j_vret C hrt hE dX5_readParameter_91 (post (up2 g.1 70 33 0, g.2) (ty && false) s false (xF_up K.1 (by omega)) (by dsimp only; rw [up2_n (by omega)]; exact K.2.2.1) (by omega) (fun z => by cases hdc : dc; (exact xW_no (dc := false) (fun bs hd => by unfold parC; rw [← eix z, hsg hdc, if_pos hz2]) (xF_up K.1 (by omega)) (by dsimp only; rw [up2_n (by omega)]; exact K.2.1) (by dsimp only; rw [up2_n (by omega)]; exact K.2.2.1) (by omega) (lF_up lF_rf (by omega)) (by dsimp only; rw [up2_s]; rfl) (fun _ => Bool.and_false ty)); exact xW_dc rfl (xF_up K.1 (by omega)) (by dsimp only; rw [up2_n (by omega)]; exact K.2.1) (by dsimp only; rw [up2_n (by omega)]; exact K.2.2.1) (by omega) (lF_up lF_rf (by omega)) (by dsimp only; rw [up2_s]; rfl)))
      · exact absurd rfl c63 -- stop
    · exact absurd rfl c35 -- stop
  | true =>
    have hz : ix < nTk sg0 := of_decide_eq_true hb.symm
    have hz2 : ta sg0 (ix + 1) ≠ 0 := (nTk_iff s5 hix2).mp hz
    have hz3 := ta_le sg0 (ix + 1)
    have hz4 := s4 (ix + 1)
    obtain ⟨y, hy⟩ : ∃ y, y = ta sg0 (ix + 1) := ⟨_, rfl⟩
    have hy12 : y = 1 ∨ y = 2 := by omega
    have e78 : g.1 78 (3 * (36 + x) + ix) = bI (y == 2) := by rw [s2 ix hz, hy]
    have ei : (3 : Int32) * nI (36 + x) + nI ix = nI (3 * (36 + x) + ix) := by rw [show (3 : Int32) = nI 3 from rfl, pk_mul, nI_add]
    have e78' : (pv g (a + 1) rg (ty && true)).1 78 (3 * (36 + x) + ix) = bI (y == 2) := by rw [pv_o (by omega)]; exact e78
    have fin : J X w (pv (up2 g.1 70 33 (bI (y == 2)), g.2) (a + 1) rg (ty && true)) 62 [(0, .ref (jad w 70)), (1, .int (nI ix)), (2, .int (bI true))] [] := by
      have d22 : (pv (up2 g.1 70 33 (bI (y == 2)), g.2) (a + 1) rg (ty && true)).1 70 22 = nI (36 + x) := by rw [pv_o (by omega)]; dsimp only; rw [up2_n (by omega)]; exact i22
      have d33 : (pv (up2 g.1 70 33 (bI (y == 2)), g.2) (a + 1) rg (ty && true)).1 70 33 = bI (y == 2) := by rw [pv_o (by omega)]; dsimp only; rw [up2_s]
      have d78 : ∀ q, q < nTk sg0 → (pv (up2 g.1 70 33 (bI (y == 2)), g.2) (a + 1) rg (ty && true)).1 78 (3 * (36 + x) + q) = bI (ta sg0 (q + 1) == 2) := fun q hq => by rw [pv_o (by omega)]; dsimp only; rw [up2_n (by omega)]; exact s2 q hq
      have hre : (up2 g.1 70 33 (bI (y == 2)), g.2).2.1 70 = rMap := hr
      have fin2 : J X w (pv (up2 g.1 70 33 (bI (y == 2)), g.2) (a + 1) rg (ty && true)) 79 [(0, .ref (jad w 70)), (1, .int (nI ix)), (2, .int (bI true))] [.int (nI y), .ref (jad w 70)] := by
        refine k_aload_n C dX5_readParameter_79 rfl ?_
        refine k_aload_n C dX5_readParameter_80 rfl ?_
        refine j_geti C fX5_169 rfl (by first | decide | omega) (by first | assumption | rfl) dX5_readParameter_81 ?_
        rw [d22]
        refine k_iload_n C dX5_readParameter_84 rfl ?_
        refine k_callV (k := 70) (ci := 5) (As := [.int (nI (36 + x)), .int (nI ix)]) C mX5_147 (r_before (h := pv (up2 g.1 70 33 (bI (y == 2)), g.2) (a + 1) rg (ty && true)) hw hr (x := 36 + x) (s := sg0) (k := ix) (by omega) (by omega) s4 d78) jCl5.1 (by first | decide | omega) (by first | assumption | rfl) rfl rfl (Nat.le_of_ble_eq_true rfl) (jroom hR (by first | decide | omega) (by decide)) dX5_readParameter_85 ?_
        rintro v9 h9 ⟨rfl, rfl⟩
        refine k_callV (k := 70) (ci := 5) (As := [.int (nI y), .int (nI (wb sg0 (ix + 1)))]) C mX5_158 (r_emit hw (g := (up2 g.1 70 33 (bI (y == 2)), g.2)) hre (by dsimp only; rw [up2_n (by omega)]; exact hd) (by dsimp only; rw [up2_n (by omega)]; exact K.2.2.1) (by omega) (nI y) (nI (wb sg0 (ix + 1)))) jCl5.1 (by first | decide | omega) (by first | assumption | rfl) rfl rfl (Nat.le_of_ble_eq_true rfl) (jroom hR (by first | decide | omega) (by decide)) dX5_readParameter_88 ?_
        rintro v9 h9 ⟨rfl, rfl⟩
        rw [leR_eq2]
        exact j_vret C hrt hE dX5_readParameter_91 (post _ (ty && true) (sD dc s) (y == 2) (leR_xF K.1) (leR_21 K.2.2.1) (by have := sD_le (dc := dc) (s := s); omega) (fun z => by rw [Bool.and_true]; cases hdc : dc; (refine xW_leaf (by omega) (by omega) hy12 (fun bs hd => ?_) (hdc ▸ K); unfold parC; rw [← eix z, hsg hdc, if_neg hz2, ← hy]); exact xW_dc rfl (leR_xF K.1) (by rw [leR_o (by omega) (by omega)]; exact K.2.1) (leR_21 K.2.2.1) (by show s + c + 1 ≤ a + 1; omega) (leR_lF lF_rf) leR_33))
      rcases hy12 with rfl | rfl
      · skip
        refine k_iload_n C dX5_readParameter_62 rfl ?_
        refine j_if_eq C 91 dX5_readParameter_63 (by decide) (fun c63 => ?_) (fun c63 => ?_)
        · exact absurd c63 (by decide) -- stop
        · refine k_aload_n C dX5_readParameter_66 rfl ?_
          refine k_aload_n C dX5_readParameter_67 rfl ?_
          refine j_geti C fX5_162 rfl (by first | decide | omega) (by first | assumption | rfl) dX5_readParameter_68 ?_
          refine j_if_eq C 78 dX5_readParameter_71 (by decide) (fun c71 => ?_) (fun c71 => ?_)
          · refine j_iconst (v := 1) C dX5_readParameter_78 (by decide) ?_
            exact fin2
          · exact absurd d33 c71 -- stop
      · skip
        refine k_iload_n C dX5_readParameter_62 rfl ?_
        refine j_if_eq C 91 dX5_readParameter_63 (by decide) (fun c63 => ?_) (fun c63 => ?_)
        · exact absurd c63 (by decide) -- stop
        · refine k_aload_n C dX5_readParameter_66 rfl ?_
          refine k_aload_n C dX5_readParameter_67 rfl ?_
          refine j_geti C fX5_162 rfl (by first | decide | omega) (by first | assumption | rfl) dX5_readParameter_68 ?_
          refine j_if_eq C 78 dX5_readParameter_71 (by decide) (fun c71 => ?_) (fun c71 => ?_)
          · exact absurd (d33.symm.trans c71) (by decide) -- stop
          · refine j_iconst (v := 2) C dX5_readParameter_74 (by decide) ?_
            refine j_goto C 79 dX5_readParameter_75 (by decide) ?_
            exact fin2
    rcases hy12 with rfl | rfl
    · skip
      refine k_istore_n C dX5_readParameter_27 (by rw [hnL]; decide) ?_
      refine k_aload_n C dX5_readParameter_28 rfl ?_
      refine k_iload_n C dX5_readParameter_29 rfl ?_
      refine k_callV (k := 70) (ci := 5) (As := [.int (bI true)]) C mX5_172 (r_type hw true) jCl5.1 (by first | decide | omega) (by first | assumption | rfl) rfl rfl (Nat.le_of_ble_eq_true rfl) (jroom hR (by first | decide | omega) (by decide)) dX5_readParameter_30 ?_
      rintro v9 h9 ⟨rfl, rfl⟩
      refine k_aload_n C dX5_readParameter_33 rfl ?_
      refine k_iload_n C dX5_readParameter_34 rfl ?_
      refine j_if_eq C 58 dX5_readParameter_35 (by decide) (fun c35 => ?_) (fun c35 => ?_)
      · exact absurd c35 (by decide) -- stop
      · refine k_aload_n C dX5_readParameter_38 rfl ?_
        refine j_getr C fX5_33 rfl (by first | decide | omega) (by first | assumption | rfl) (congrFun hr _) dX5_readParameter_39 ?_
        refine j_iconst (v := 3) C dX5_readParameter_42 (by decide) ?_
        refine k_aload_n C dX5_readParameter_43 rfl ?_
        refine j_geti C fX5_169 rfl (by first | decide | omega) (by first | assumption | rfl) dX5_readParameter_44 ?_
        refine j_imul C dX5_readParameter_47 ?_
        refine k_iload_n C dX5_readParameter_48 rfl ?_
        refine j_iadd C dX5_readParameter_49 ?_
        rw [e22]
        refine j_zald C (by first | decide | omega) (by first | assumption | rfl) (ei) ((by omega)) (by decide) dX5_readParameter_50 ?_
        refine j_if_eq C 58 dX5_readParameter_51 (by decide) (fun c51 => ?_) (fun c51 => ?_)
        · refine j_iconst (v := 0) C dX5_readParameter_58 (by decide) ?_
          refine j_putz C fX5_162 rfl rfl (by first | decide | assumption) (by first | decide | omega) (by first | assumption | rfl) dX5_readParameter_59 ?_
          refine jeqh (show _ = pv (up2 g.1 70 33 0, g.2) (a + 1) rg (ty && true) from pv_put (by omega)) ?_
          exact fin
        · exact absurd e78' c51 -- stop
    · skip
      refine k_istore_n C dX5_readParameter_27 (by rw [hnL]; decide) ?_
      refine k_aload_n C dX5_readParameter_28 rfl ?_
      refine k_iload_n C dX5_readParameter_29 rfl ?_
      refine k_callV (k := 70) (ci := 5) (As := [.int (bI true)]) C mX5_172 (r_type hw true) jCl5.1 (by first | decide | omega) (by first | assumption | rfl) rfl rfl (Nat.le_of_ble_eq_true rfl) (jroom hR (by first | decide | omega) (by decide)) dX5_readParameter_30 ?_
      rintro v9 h9 ⟨rfl, rfl⟩
      refine k_aload_n C dX5_readParameter_33 rfl ?_
      refine k_iload_n C dX5_readParameter_34 rfl ?_
      refine j_if_eq C 58 dX5_readParameter_35 (by decide) (fun c35 => ?_) (fun c35 => ?_)
      · exact absurd c35 (by decide) -- stop
      · refine k_aload_n C dX5_readParameter_38 rfl ?_
        refine j_getr C fX5_33 rfl (by first | decide | omega) (by first | assumption | rfl) (congrFun hr _) dX5_readParameter_39 ?_
        refine j_iconst (v := 3) C dX5_readParameter_42 (by decide) ?_
        refine k_aload_n C dX5_readParameter_43 rfl ?_
        refine j_geti C fX5_169 rfl (by first | decide | omega) (by first | assumption | rfl) dX5_readParameter_44 ?_
        refine j_imul C dX5_readParameter_47 ?_
        refine k_iload_n C dX5_readParameter_48 rfl ?_
        refine j_iadd C dX5_readParameter_49 ?_
        rw [e22]
        refine j_zald C (by first | decide | omega) (by first | assumption | rfl) (ei) ((by omega)) (by decide) dX5_readParameter_50 ?_
        refine j_if_eq C 58 dX5_readParameter_51 (by decide) (fun c51 => ?_) (fun c51 => ?_)
        · exact absurd (e78'.symm.trans c51) (by decide) -- stop
        · refine j_iconst (v := 1) C dX5_readParameter_54 (by decide) ?_
          refine j_goto C 59 dX5_readParameter_55 (by decide) ?_
          refine j_putz C fX5_162 rfl rfl (by first | decide | assumption) (by first | decide | omega) (by first | assumption | rfl) dX5_readParameter_59 ?_
          refine jeqh (show _ = pv (up2 g.1 70 33 1, g.2) (a + 1) rg (ty && true) from pv_put (by omega)) ?_
          exact fin
end X9
