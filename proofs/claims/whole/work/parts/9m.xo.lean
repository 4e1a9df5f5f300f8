/-- what stays while an expression is read -/
def yS (g : jH) (t : Nat → Nat) (n : Nat) (dc : Bool) (tb : List HD) (x sg0 : Nat) : Prop := g.2.1 70 = rMap ∧ rtx g t n ∧ g.1 70 7 = bI dc ∧ x < 6 ∧ rIt g 6 tb ∧ rSg g (36 + x) sg0 ∧ (∀ k, ta sg0 k ≠ 3) ∧ sgn sg0 ∧ (ta sg0 0 = 1 ∨ ta sg0 0 = 2) ∧ ∀ i (hi : i < tb.length), (∀ k, ta (tb[i]).2.2.1 k ≠ 3) ∧ sgn (tb[i]).2.2.1 ∧ (ta (tb[i]).2.2.1 0 = 1 ∨ ta (tb[i]).2.2.1 0 = 2)
def yF (x : Nat) (g g' : jH) : Prop := g'.2 = g.2 ∧ ∀ k j, ¬ ((k = 70 ∧ (j = 4 ∨ j = 5 ∨ j = 6 ∨ j = 21 ∨ j = 22 ∨ j = 23 ∨ j = 31 ∨ j = 32 ∨ j = 33)) ∨ (85 ≤ k ∧ k ≤ 91) ∨ (82 ≤ k ∧ k ≤ 84 ∧ 780 ≤ j) ∨ ((k = 80 ∨ k = 81) ∧ j = 36 + x)) → g'.1 k j = g.1 k j
def eQ (g' : jH) (x sg s' : Nat) (f : CL) (q0 : Option (List Ev)) (ty' : Bool) : Prop := match q0 with
  | none => ty' = false
  | some ev => match f ev.length 0 with
    | none => ty' = false
    | some y => if y.1 = ta sg 0 then ty' = true ∧ s' = rpos (ev ++ (y.2.1 ++ [(14, 0, 0, y.1)])) ∧ rR g' (fun _ => False) (ev ++ (y.2.1 ++ [(14, 0, 0, y.1)])) ∧ g'.1 80 (36 + x) = nI y.2.2 ∧ g'.1 81 (36 + x) = nI (rpos ev) else ty' = false
def qI (g : jH) (s : Nat) (ty : Bool) (q0 : Option (List Ev)) : Prop := match q0 with
  | none => ty = false
  | some ev => ty = true ∧ s = rpos ev ∧ rR g (fun _ => False) ev
def eP (g : jH) (t : Nat → Nat) (n : Nat) (hs : List (Nat × Nat × Nat)) (sg : Nat) (dc : Bool) (x a : Nat) (q0 : Option (List Ev)) (r : Option Value) (h' : jH) : Prop := r = none ∧ ∃ (g' : jH) (a' : Nat) (gd' ty' : Bool) (s' : Nat), h' = pv g' a' gd' ty' ∧ yF x g g' ∧ g'.1 70 21 = nI s' ∧ ((gd' = false ∧ a' ≤ 300 ∧ s' ≤ 128 ∧ bdV t n (pE t n hs sg 8 a)) ∨ (gd' = true ∧ ∃ f, pE t n hs sg 8 a = some (a', f) ∧ s' ≤ a' ∧ (dc = false → eQ g' x sg s' f q0 ty')))
section XO
variable {l : Launch} {w : jW} {h0 g g' : jH} {t : Nat → Nat} {n : Nat} {hs : List (Nat × Nat × Nat)} {dc gd ty : Bool} {a s x : Nat} {tb : List HD} {sg0 sg : Nat} {q0 : Option (List Ev)}
theorem r_readExpression (hw : jok w) (S : yS g t n dc tb x sg0) (hn : n ≤ 120) (han : a ≤ n) (h21 : g.1 70 21 = nI s) (hsa : s + 1 ≤ a) (hdc : dc = false → sg = sg0 ∧ hs = tb.map h3 ∧ dst tb) (hq : dc = false → qI g s ty q0) : jM l w yX5_readExpression cX5_readExpression 4 none 5 [.ref (jad w 70), .int (nI (36 + x))] (pv g a true ty) (eP g t n hs sg dc x a q0) := by
  refine jM_of (by decide) hw (Nat.le_of_ble_eq_true rfl) ?_
  intro X C hl hR hnL hrt hE
  subst hl
  have C : jC X w cX5_readExpression RX5 := C
  obtain ⟨hr, ht, hd, hx, N, sR, s3, sn, s0, tbf⟩ := S
  obtain ⟨g1, eg1⟩ : ∃ g1 : jH, g1 = (up2 (up2 (up2 (up2 g.1 70 22 (nI (36 + x))) 70 23 0) 70 31 0) 70 32 0, g.2) := ⟨_, rfl⟩
  obtain ⟨h0, eh0⟩ : ∃ h0 : jH, h0 = (up2 (opn g1 0 0).1 81 (36 + x) (nI s), (opn g1 0 0).2) := ⟨_, rfl⟩
  have o1 : ∀ {k j : Nat}, ¬ (k = 70 ∧ (j = 22 ∨ j = 23 ∨ j = 31 ∨ j = 32)) → g1.1 k j = g.1 k j := fun {k j} z => by rw [eg1]; dsimp only; rw [up2_n (by omega), up2_n (by omega), up2_n (by omega), up2_n (by omega)]
  have o2 : ∀ {k j : Nat}, ¬ (k = 70 ∧ (j = 22 ∨ j = 23 ∨ j = 31 ∨ j = 32)) → ¬ (85 ≤ k ∧ k ≤ 88 ∧ j = 0) → ¬ (k = 81 ∧ j = 36 + x) → h0.1 k j = g.1 k j := fun {k j} z1 z2 z3 => by rw [eh0]; dsimp only; rw [up2_n z3, opn_o z2 (by omega), o1 z1]
  have e2 : h0.2 = g.2 := by rw [eh0]; show g1.2 = g.2; rw [eg1]
  have r1 : g1.2.1 70 = rMap := by rw [eg1]; exact hr
  have r0 : h0.2.1 70 = rMap := by rw [e2]; exact hr
  have i22 : h0.1 70 22 = nI (36 + x) := by rw [eh0]; dsimp only; rw [up2_n (by omega), opn_o (by omega) (by omega), eg1]; dsimp only; rw [up2_n (by omega), up2_n (by omega), up2_n (by omega), up2_s]
  have i31 : h0.1 70 31 = nI 0 := by rw [eh0]; dsimp only; rw [up2_n (by omega), opn_o (by omega) (by omega), eg1]; dsimp only; rw [up2_n (by omega), up2_s]; rfl
  have i32 : h0.1 70 32 = nI 0 := by rw [eh0]; dsimp only; rw [up2_n (by omega), opn_o (by omega) (by omega), eg1]; dsimp only; rw [up2_s]; rfl
  have i23 : h0.1 70 23 = nI (0 + 1) := by rw [eh0]; dsimp only; rw [up2_n (by omega), opn_23]
  have i21 : h0.1 70 21 = nI s := by rw [o2 (by omega) (by omega) (by omega)]; exact h21
  have i81 : h0.1 81 (36 + x) = nI s := by rw [eh0]; dsimp only; rw [up2_s]
  have T0 : xT h0 t n dc := ⟨r0, rtx_keep (o2 (by omega) (by omega) (by omega)) (fun j => o2 (by omega) (by omega) (by omega)) ht, by rw [o2 (by omega) (by omega) (by omega)]; exact hd⟩
  have S0 : xS h0 tb x sg0 := by
    refine ⟨i22, hx, rIt_o N (fun k j z1 z2 => o2 (by omega) (by omega) (by omega)), ⟨?_, fun q hq => ?_, ?_⟩, s3, sn, tbf⟩
    · rw [o2 (by omega) (by omega) (by omega)]; exact sR.1
    · rw [o2 (by omega) (by omega) (by omega)]; exact sR.2.1 q hq
    · rw [o2 (by omega) (by omega) (by omega)]; exact sR.2.2
  have B : xCx X w h0 t n hs sg dc tb x sg0 := ⟨hw, C, hR, hnL, T0, S0, hn, hdc⟩
  have yF0 : ∀ {g' : jH} {v : Int32}, xF h0 g' → yF x g (up2 g'.1 80 (36 + x) v, g'.2) := fun {g' v} F => ⟨by rw [F.1, e2], fun k j z => by dsimp only; rw [up2_n (by omega), F.2 k j (by omega), o2 (by omega) (by omega) (by omega)]⟩
  -- the end
  have fin : ∀ (g' : jH) (a' : Nat) (gd' ty' : Bool) (s' : Nat), xF h0 g' → g'.1 70 21 = nI s' → s' ≤ 127 → (∀ b : Bool, (∀ ip, g'.1 70 33 = bI ip → b = (ip == (ta sg0 0 == 2))) → eP g t n hs sg dc x a q0 none (pv (up2 (emD dc g' s' 11 0).1 80 (36 + x) (g'.1 70 32), (emD dc g' s' 11 0).2) a' gd' (ty' && b))) → J X w (pv g' a' gd' ty') 112 (lvZ w x) [] := by
    intro g' a' gd' ty' s' F h21' hs' hP
    obtain ⟨hr', ht', hd'⟩ := xT_g T0 F
    have f79 : (pv g' a' gd' ty').1 79 (36 + x) = bI (ta sg0 0 == 2) := by rw [pv_o (by omega), F.2 79 (36 + x) (by omega), o2 (by omega) (by omega) (by omega)]; exact sR.2.2
    have hrE : (emD dc g' s' 11 0).2.1 70 = rMap := by rw [emD_ref]; exact hr'
    have fin2 : ∀ b : Bool, (∀ ip, g'.1 70 33 = bI ip → b = (ip == (ta sg0 0 == 2))) → J X w (pv g' a' gd' ty') 131 [(0, .ref (jad w 70)), (1, .int (nI (36 + x)))] [.int (bI b), .ref (jad w 70)] := by
      intro b hb
      have f32 : (pv (emD dc g' s' 11 0) a' gd' (ty' && b)).1 70 32 = g'.1 70 32 := by rw [pv_o (by omega), emD_o (by omega) (by omega)]
      refine k_callV (k := 70) (ci := 5) (As := [.int (bI b)]) C mX5_172 (r_type hw b) jCl5.1 (by first | decide | omega) (by first | assumption | rfl) rfl rfl (Nat.le_of_ble_eq_true rfl) (jroom hR (by first | decide | omega) (by decide)) dX5_readExpression_131 ?_
      rintro v9 h9 ⟨rfl, rfl⟩
      refine k_aload_n C dX5_readExpression_134 rfl ?_
      refine j_bipush (v := 11) C dX5_readExpression_135 (by decide) ?_
      refine j_iconst (v := 0) C dX5_readExpression_137 (by decide) ?_
      refine k_callV (k := 70) (ci := 5) (As := [.int 11, .int 0]) C mX5_158 (r_emit hw hr' hd' h21' (by omega) 11 0) jCl5.1 (by first | decide | omega) (by first | assumption | rfl) rfl rfl (Nat.le_of_ble_eq_true rfl) (jroom hR (by first | decide | omega) (by decide)) dX5_readExpression_138 ?_
      rintro v9 h9 ⟨rfl, rfl⟩
      refine k_aload_n C dX5_readExpression_141 rfl ?_
      refine j_getr C fX5_39 rfl (by first | decide | omega) (by first | assumption | rfl) (congrFun hrE _) dX5_readExpression_142 ?_
      refine k_iload_n C dX5_readExpression_145 rfl ?_
      refine k_aload_n C dX5_readExpression_146 rfl ?_
      refine j_geti C fX5_144 rfl (by first | decide | omega) (by first | assumption | rfl) dX5_readExpression_147 ?_
      rw [f32]
      refine j_iast C (by first | decide | omega) (by first | assumption | rfl) (rfl) ((by omega)) (by decide) dX5_readExpression_150 ?_
      refine jeqh (pv_put (by omega)) ?_
      exact j_vret C hrt hE dX5_readExpression_151 (hP b hb)
    have f33 : (pv g' a' gd' ty').1 70 33 = g'.1 70 33 := pv_o (by omega)
    show J X w (pv g' a' gd' ty') 112 [(0, .ref (jad w 70)), (1, .int (nI (36 + x)))] []
    refine k_aload_n C dX5_readExpression_112 rfl ?_
    refine k_aload_n C dX5_readExpression_113 rfl ?_
    refine j_geti C fX5_162 rfl (by first | decide | omega) (by first | assumption | rfl) dX5_readExpression_114 ?_
    refine k_aload_n C dX5_readExpression_117 rfl ?_
    refine j_getr C fX5_36 rfl (by first | decide | omega) (by first | assumption | rfl) (congrFun hr' _) dX5_readExpression_118 ?_
    refine k_iload_n C dX5_readExpression_121 rfl ?_
    refine j_zald C (by first | decide | omega) (by first | assumption | rfl) (rfl) ((by omega)) (by decide) dX5_readExpression_122 ?_
    refine j_icmp_ne C 130 dX5_readExpression_123 (by decide) (fun c123 => ?_) (fun c123 => ?_)
    · rw [f33, f79] at c123
      refine j_iconst (v := 0) C dX5_readExpression_130 (by decide) ?_
      first | exact fin2 false (fun ip hi => by rw [hi] at c123; cases z : (ip == (ta sg0 0 == 2)); rfl; exact absurd (congrArg bI (by simpa using z)) c123) | exact fin2 true (fun ip hi => by rw [hi] at c123; rw [bI_inj c123]; simp)
    · rw [f33, f79] at c123
      refine j_iconst (v := 1) C dX5_readExpression_126 (by decide) ?_
      refine j_goto C 131 dX5_readExpression_127 (by decide) ?_
      first | exact fin2 false (fun ip hi => by rw [hi] at c123; cases z : (ip == (ta sg0 0 == 2)); rfl; exact absurd (congrArg bI (by simpa using z)) c123) | exact fin2 true (fun ip hi => by rw [hi] at c123; rw [bI_inj c123]; simp)
  have zero : ∀ V : Prop, (V → bdV t n (pE t n hs sg 8 a)) → xZs X w h0 x V := by
    intro V hV hv g' a' ty' hz ha'
    obtain ⟨F, s', h21', hs'⟩ := hz
    have sd := sD_le (dc := dc) (s := s')
    refine fin g' a' false ty' s' F h21' (by omega) (fun b _ => ⟨rfl, _, _, _, _, sD dc s', rfl, yF0 (xF_emD F), by dsimp only; rw [up2_n (by omega)]; exact emD_21 h21', Or.inl ⟨rfl, ha', by omega, hV hv⟩⟩)
  have K0 : xK h0 h0 dc (fun _ => False) 0 0 a (q0.map (fun ev => (ev, 0, 0))) s ty := by
    refine ⟨xF_rf, i23, i21, by omega, fun hdc => ?_⟩
    have := hq hdc
    cases q0 with
    | none => exact this
    | some ev => exact ⟨this.1, i31, i32, this.2.1, Nat.zero_le _, Nat.zero_le _, rR_eq (fun k j z1 z2 => o2 (by omega) (by omega) (by omega)) this.2.2⟩
  have main : J X w (pv h0 a true ty) 48 (lvF w x) [] := by
    refine r_E (V := bdV t n (pE t n hs sg 8 a)) B (zero _ id) 8 0 rfl _ 0 a s _ ty h0 K0 han (Or.inl rfl) ?_ ?_ id ?_
    · rw [eh0]; dsimp only; rw [up2_n (by omega), opn_87]
    · rw [eh0]; dsimp only; rw [up2_n (by omega), opn_88]
    · intro g' a1 ty' s' ip' f hpe W
      have sa := W.1.2.2.2.1
      have ha1 := pgr_E 8 _ _ _ hpe
      have sd := sD_le (dc := dc) (s := s')
      refine g_S1 C hnL W.1.2.1 (fin g' a1 true ty' s' W.1.1 W.1.2.2.1 (by omega) ?_)
      intro b hb
      have hbb := hb ip' W.2.2.1
      refine ⟨rfl, _, _, _, _, sD dc s', rfl, yF0 (xF_emD W.1.1), by dsimp only; rw [up2_n (by omega)]; exact emD_21 W.1.2.2.1, Or.inr ⟨rfl, f, hpe, by omega, fun hdc9 => ?_⟩⟩
      obtain ⟨rfl, -, -⟩ := hdc hdc9
      have E2 := W.1.2.2.2.2 hdc9
      have T2 := W.2.2.2 hdc9
      subst hdc9
      unfold eQ
      cases q0 with
      | none => have : ty' = false := E2; rw [this]; rfl
      | some ev =>
        have el : (Option.map (fun ev => (ev, 0, 0)) (some ev) : TA) = some (ev, 0, 0) := rfl
        rw [el] at E2 T2
        cases hf : f ev.length 0 with
        | none => rw [app_0 hf] at E2; have : ty' = false := E2; rw [this]; simp only [hf]; rfl
        | some r =>
          obtain ⟨y, e, m⟩ := r
          rw [app_e hf] at E2
          obtain ⟨d1, d2, d3, d4, d5, d6, d7⟩ := E2
          obtain ⟨t1, t2⟩ := T2 y (tyq_e hf)
          dsimp only at d2 d3 d4 d5 d6 d7
          simp only [hf]
          by_cases hy : y = ta sg 0
          · rw [if_pos hy]
            have hbt : b = true := by rw [hbb, t2, ← hy]; simp
            refine ⟨by rw [d1, hbt]; rfl, ?_, ?_, ?_, ?_⟩
            · show s' + 1 = _
              rw [← List.append_assoc, rpos_app, d4]
              rfl
            · rw [← List.append_assoc]
              refine rR_emit (fun u => by simp at u) ?_ ?_ (fun u => by simp at u) (rR_keep (g := g') ?_ d7)
              · dsimp only; rw [up2_n (by omega), ← d4, emD_82]; rfl
              · intro _; dsimp only; rw [up2_n (by omega), ← d4, emD_83]; rfl
              · intro k j u1 u2 u3; dsimp only; rw [up2_n (by omega), emD_o (by omega) (by omega)]
            · rw [up2_s, d3]; congr 1
            · rw [up2_n (by omega), emD_o (by omega) (by omega), W.1.1.2 81 (36 + x) (by omega), i81, (hq rfl).2.1]
          · rw [if_neg hy]
            have hbf : b = false := by
              rw [hbb, t2]
              rcases t1 with rfl | rfl <;> rcases s0 with z | z <;> rw [z] at hy ⊢ <;> first | rfl | exact absurd rfl hy
            rw [hbf, Bool.and_false]
  show J X w (pv g a true ty) 0 [(0, .ref (jad w 70)), (1, .int (nI (36 + x)))] []
  have e21 : (pv (opn g1 0 0) a true ty).1 70 21 = nI s := by rw [pv_o (by omega), opn_o (by omega) (by omega), o1 (by omega)]; exact h21
  refine k_aload_n C dX5_readExpression_0 rfl ?_
  refine k_iload_n C dX5_readExpression_1 rfl ?_
  refine j_puti C fX5_169 rfl rfl (by first | decide | omega) (by first | assumption | rfl) dX5_readExpression_2 ?_
  refine jeqh (pv_put (by omega)) ?_
  refine k_aload_n C dX5_readExpression_5 rfl ?_
  refine j_iconst (v := 0) C dX5_readExpression_6 (by decide) ?_
  refine j_puti C fX5_151 rfl rfl (by first | decide | omega) (by first | assumption | rfl) dX5_readExpression_7 ?_
  refine jeqh (pv_put (by omega)) ?_
  refine k_aload_n C dX5_readExpression_10 rfl ?_
  refine j_iconst (v := 0) C dX5_readExpression_11 (by decide) ?_
  refine j_puti C fX5_141 rfl rfl (by first | decide | omega) (by first | assumption | rfl) dX5_readExpression_12 ?_
  refine jeqh (pv_put (by omega)) ?_
  refine k_aload_n C dX5_readExpression_15 rfl ?_
  refine j_iconst (v := 0) C dX5_readExpression_16 (by decide) ?_
  refine j_puti C fX5_144 rfl rfl (by first | decide | omega) (by first | assumption | rfl) dX5_readExpression_17 ?_
  refine jeqh (show _ = pv g1 a true ty from by rw [pv_put (by omega), eg1]) ?_
  refine k_aload_n C dX5_readExpression_20 rfl ?_
  refine j_iconst (v := 0) C dX5_readExpression_21 (by decide) ?_
  refine k_callV (k := 70) (ci := 5) (As := [.int 0]) C mX5_179 (r_opened hw r1 (o := 0) (by rw [eg1]; dsimp only; rw [up2_n (by omega), up2_n (by omega), up2_s]; rfl) (by decide) 0) jCl5.1 (by first | decide | omega) (by first | assumption | rfl) rfl rfl (Nat.le_of_ble_eq_true rfl) (jroom hR (by first | decide | omega) (by decide)) dX5_readExpression_22 ?_
  rintro v9 h9 ⟨rfl, rfl⟩
  rw [if_pos ⟨rfl, by decide⟩]
  refine k_aload_n C dX5_readExpression_25 rfl ?_
  refine j_getr C fX5_42 rfl (by first | decide | omega) (by first | assumption | rfl) (congrFun r1 _) dX5_readExpression_26 ?_
  refine k_iload_n C dX5_readExpression_29 rfl ?_
  refine k_aload_n C dX5_readExpression_30 rfl ?_
  refine j_geti C fX5_138 rfl (by first | decide | omega) (by first | assumption | rfl) dX5_readExpression_31 ?_
  rw [e21]
  refine j_iast C (by first | decide | omega) (by first | assumption | rfl) (rfl) ((by omega)) (by decide) dX5_readExpression_34 ?_
  refine jeqh (show _ = pv h0 a true ty from by rw [pv_put (by omega), eh0]) ?_
  refine j_iconst (v := 0) C dX5_readExpression_35 (by decide) ?_
  refine k_istore_n C dX5_readExpression_36 (by rw [hnL]; decide) ?_
  refine k_aload_n C dX5_readExpression_37 rfl ?_
  refine j_geti C fX5_116 rfl (by first | decide | omega) (by first | assumption | rfl) dX5_readExpression_38 ?_
  refine j_if_eq C 112 dX5_readExpression_41 (by decide) (fun c41 => ?_) (fun c41 => ?_)
  · exact absurd ((show (pv h0 a true ty).1 70 5 = 1 from pv_5).symm.trans c41) (by decide) -- stop
  · refine k_iload_n C dX5_readExpression_44 rfl ?_
    refine j_if_ne C 112 dX5_readExpression_45 (by decide) (fun c45 => ?_) (fun c45 => ?_)
    · exact absurd rfl c45 -- stop
    · exact main
end XO
