def tF (i : Nat) (g g' : jH) : Prop := g'.2 = g.2 ∧ ∀ k j, ¬ ((74 ≤ k ∧ k ≤ 79 ∧ k ≠ 78 ∧ j = 36 + i) ∨ (k = 78 ∧ 3 * (36 + i) ≤ j ∧ j < 3 * (36 + i) + 3) ∨ (k = 73 ∧ j = 6)) → g'.1 k j = g.1 k j
def tbN (dc : Bool) (tb : List HD) (d : HD) : List HD := if dc then tb ++ [d] else tb
section XR
variable {l : Launch} {w : jW} {h g g' : jH} {t : Nat → Nat} {n a : Nat} {gd ty dc : Bool} {i s : Nat} {hs : List (Nat × Nat × Nat)} {hsH tb : List HD} {q0 : Option (List Ev)}
theorem tF_zF (F : tF i g g') : zF i g g' := ⟨F.1, fun k j z => F.2 k j (by omega)⟩
theorem tF_rf : tF i g g := ⟨rfl, fun _ _ _ => rfl⟩
theorem tF_up (F : tF i g g') {k j : Nat} {v : Int32} (hk : (74 ≤ k ∧ k ≤ 79 ∧ k ≠ 78 ∧ j = 36 + i) ∨ (k = 73 ∧ j = 6)) : tF i g (up2 g'.1 k j v, g'.2) := ⟨F.1, fun k' j' z => by dsimp only; rw [up2_n (by omega)]; exact F.2 k' j' z⟩
theorem tF_sF {g2 : jH} (F : tF i g g') (G : sF (36 + i) g' g2) : tF i g g2 := ⟨by rw [G.1, F.1], fun k j z => by rw [G.2 k j (by omega) (by omega)]; exact F.2 k j z⟩
theorem tF_rt (F : tF i g g') (hr : g.2.1 70 = rMap) (ht : rtx g t n) : g'.2.1 70 = rMap ∧ rtx g' t n := ⟨by rw [F.1]; exact hr, rtx_keep (F.2 70 3 (by omega)) (fun j => F.2 71 j (by omega)) ht⟩
theorem r_readItem (hw : jok w) (hr : g.2.1 70 = rMap) (ht : rtx g t n) (hn : n ≤ 120) (han : a ≤ n) (hi : i < 6) (hd : g.1 70 7 = bI dc) (h21 : g.1 70 21 = nI s) (hsa : s + 1 ≤ a) (N : rIt g 6 tb) (tbf : ∀ i (hi : i < tb.length), (∀ k, ta (tb[i]).2.2.1 k ≠ 3) ∧ sgn (tb[i]).2.2.1 ∧ (ta (tb[i]).2.2.1 0 = 1 ∨ ta (tb[i]).2.2.1 0 = 2)) (hT : dc = true → tb.length = i ∧ hsH = tb) (hFf : dc = false → ∃ hit : i < tb.length, tb[i] = hdD t n hsH (some a) ∧ hs = tb.map h3 ∧ dst tb ∧ lkp (hsH.map h3) (hdO t n (some a)) (hdN t n (some a)) = none) (hq : dc = false → qI g s ty q0) : jM l w yX5_readItem cX5_readItem 7 none 6 [.ref (jad w 70), .int (nI i)] (pv g a true ty) (riP g t n hs hsH dc ty i a s q0 (tbN dc tb (hdD t n hsH (some a)))) := by
  refine jM_of (by decide) hw (Nat.le_of_ble_eq_true rfl) ?_
  intro X C hl hR hnL hrt hE
  subst hl
  have C : jC X w cX5_readItem RX5 := C
  have hl6 := N.1.2.1
  show J X w (pv g a true ty) 0 [(0, .ref (jad w 70)), (1, .int (nI i))] []
  refine rI_head hw C hR hnL hr ht hn han hi ?_
  intro a2 gd2 imp ex o' nm' ha2 ho' hnm' himp hg2 hb2
  -- the text is wrong
  have b160 : ∀ (g' : jH) (b : Nat), zF i g g' → g'.1 70 21 = nI s → b ≤ 300 → (hdP6 t n hsH (some a) = none) → J X w (pv g' b false ty) 160 [(0, .ref (jad w 70)), (1, .int (nI i)), (2, .int (nI (36 + i))), (3, .int (bI imp)), (4, .int (oI o')), (5, .int (bI ex)), (6, .int (nI nm'))] [] := by
    intro g' b F h21' hb hv
    refine k_iload_n C dX5_readItem_160 rfl ?_
    refine j_if_ne C 171 dX5_readItem_161 (by decide) (fun c161 => ?_) (fun c161 => ?_)
    · exact j_vret C hrt hE dX5_readItem_171 (⟨rfl, g', b, false, ty, s, rfl, F, h21', by omega, hb, Or.inl ⟨rfl, Or.inl hv⟩⟩)
    · refine k_aload_n C dX5_readItem_164 rfl ?_
      refine j_geti C fX5_116 rfl (by first | decide | omega) (by first | assumption | rfl) dX5_readItem_165 ?_
      refine j_if_ne C 172 dX5_readItem_168 (by decide) (fun c168 => ?_) (fun c168 => ?_)
      · exact absurd pv_5 c168 -- stop
      · exact j_vret C hrt hE dX5_readItem_171 (⟨rfl, g', b, false, ty, s, rfl, F, h21', by omega, hb, Or.inl ⟨rfl, Or.inl hv⟩⟩)
  have b143 : ∀ (g' : jH) (b : Nat), tF i g g' → b ≤ 300 → (hdP6 t n hsH (some a) = none) → J X w (pv g' b false ty) 143 [(0, .ref (jad w 70)), (1, .int (nI i)), (2, .int (nI (36 + i))), (3, .int (bI imp)), (4, .int (oI o')), (5, .int (bI ex)), (6, .int (nI nm'))] [] := by
    intro g' b F hb hv
    have e7 : (pv g' b false ty).1 70 7 = bI dc := by rw [pv_o (by omega), F.2 70 7 (by omega)]; exact hd
    obtain ⟨hr', -⟩ := tF_rt F hr ht
    cases dc with
    | true =>
      refine k_aload_n C dX5_readItem_143 rfl ?_
      refine j_geti C fX5_135 rfl (by first | decide | omega) (by first | assumption | rfl) dX5_readItem_144 ?_
      refine j_if_eq C 160 dX5_readItem_147 (by decide) (fun c147 => ?_) (fun c147 => ?_)
      · exact absurd (e7.symm.trans c147) (by decide) -- stop
      · refine k_aload_n C dX5_readItem_150 rfl ?_
        refine j_getr C fX5_17 rfl (by first | decide | omega) (by first | assumption | rfl) (congrFun hr' _) dX5_readItem_151 ?_
        refine j_bipush (v := 6) C dX5_readItem_154 (by decide) ?_
        refine k_iload_n C dX5_readItem_156 rfl ?_
        refine j_iconst (v := 1) C dX5_readItem_157 (by decide) ?_
        refine j_iadd C dX5_readItem_158 ?_
        refine j_iast C (by first | decide | omega) (by first | assumption | rfl) ((show (6 : Int32) = nI 6 from rfl)) ((by omega)) (by decide) dX5_readItem_159 ?_
        refine jeqh (pv_put (by omega)) ?_
        exact b160 _ b (tF_zF (tF_up F (by omega))) (by dsimp only; rw [up2_n (by omega), F.2 70 21 (by omega)]; exact h21) hb hv
    | false =>
      refine k_aload_n C dX5_readItem_143 rfl ?_
      refine j_geti C fX5_135 rfl (by first | decide | omega) (by first | assumption | rfl) dX5_readItem_144 ?_
      refine j_if_eq C 160 dX5_readItem_147 (by decide) (fun c147 => ?_) (fun c147 => ?_)
      · exact b160 g' b (tF_zF F) (by rw [F.2 70 21 (by omega)]; exact h21) hb hv
      · exact absurd e7 c147 -- stop
  have b131 : ∀ (g' : jH) (b : Nat), tF i g g' → b ≤ 300 → (hdP6 t n hsH (some a) = none) → J X w (pv g' b false ty) 131 [(0, .ref (jad w 70)), (1, .int (nI i)), (2, .int (nI (36 + i))), (3, .int (bI imp)), (4, .int (oI o')), (5, .int (bI ex)), (6, .int (nI nm'))] [] := by
    intro g' b F hb hv
    refine k_aload_n C dX5_readItem_131 rfl ?_
    refine j_geti C fX5_116 rfl (by first | decide | omega) (by first | assumption | rfl) dX5_readItem_132 ?_
    refine j_if_eq C 143 dX5_readItem_135 (by decide) (fun c135 => ?_) (fun c135 => ?_)
    · exact b143 g' b F hb hv
    · exact absurd pv_5 c135 -- stop
  have P4none : hdP4 t n hsH (some a) = none → hdP6 t n hsH (some a) = none := by
    intro z
    unfold hdP6
    rw [z, sgF_none]
    split
    · exact tk_none
    · rfl
  -- the head is well
  have g160 : hdP4 t n hsH (some a) ≠ none → ∀ (G : jH) (c : Nat), tF i g G → (sgF t n (hdP4 t n hsH (some a))).2 = some c → rIt G 6 (tbN dc tb (hdD t n hsH (some a))) → rSg G (36 + i) (hdS t n hsH (some a)) → J X w (pv G c true ty) 160 [(0, .ref (jad w 70)), (1, .int (nI i)), (2, .int (nI (36 + i))), (3, .int (bI imp)), (4, .int (oI o')), (5, .int (bI ex)), (6, .int (nI nm'))] [] := by
    intro hP4 G c F hsg NG sR
    obtain ⟨hr', ht'⟩ := tF_rt F hr ht
    have n5 : ∀ {b : Nat}, ¬ (pv G b true ty).1 70 5 = 0 := fun {b} => by rw [pv_5]; decide
    have hG21 : G.1 70 21 = nI s := by rw [F.2 70 21 (by omega)]; exact h21
    have hGc : ∀ k j, 82 ≤ k → k ≤ 84 → G.1 k j = g.1 k j := fun k j z1 z2 => F.2 k j (by omega)
    have hcn : c ≤ n := sgF_p hdP4_ok c hsg
    have hac : a ≤ c := by
      have h1 := hdP6_ge (t := t) (hs := hsH) (n := n) (p := some a) (fun b hb => by cases hb; exact han)
      have h3 := sgF_ge (t := t) (hdP4_ok (t := t) (n := n) (hs := hsH) (p := some a))
      have h0 : (some a : Option Nat).getD n ≤ (hdP4 t n hsH (some a)).getD n := by
        unfold hdP4
        split
        · have q1 := am_ge (t := t) (lo := 97) (hi := 122) (hdP2_ok (t := t) (n := n) (p := some a) (fun b hb => by cases hb; exact han))
          have q2 : (some a : Option Nat).getD n ≤ (hdP2 t n (some a)).getD n := by
            unfold hdP2
            split
            · exact Nat.le_trans (tkI_ge (t := t) (ch := 63)) (Nat.le_trans (am_ge (tkI_ok (by decide) (fun b hb => by cases hb; exact han))) (tk_ge (am_ok (by decide))))
            · exact Nat.le_trans (tkI_ge (t := t) (ch := 63)) (tkI_ge (t := t) (ch := 43))
          exact Nat.le_trans q2 q1
        · exact han
      rw [hsg] at h3
      exact Nat.le_trans h0 h3
    cases hib : imp with
    | true =>
      have hO := himp.mp hib
      have e6 : hdP6 t n hsH (some a) = some c := by unfold hdP6; rw [if_neg hO]; exact hsg
      refine k_iload_n C dX5_readItem_160 rfl ?_
      refine j_if_ne C 171 dX5_readItem_161 (by decide) (fun c161 => ?_) (fun c161 => ?_)
      · exact j_vret C hrt hE dX5_readItem_171 (⟨rfl, G, c, true, ty, s, rfl, tF_zF F, hG21, by omega, by omega, Or.inr ⟨rfl, c, e6, NG, by omega, Or.inl ⟨hO, rfl, rfl, rfl, hGc⟩⟩⟩)
      · exact absurd (by first | exact c161 | exact Classical.not_not.mp c161) (by decide) -- stop
    | false =>
      have hO : hdO t n (some a) = 0 := Classical.not_not.mp (fun z => by have := himp.mpr z; rw [hib] at this; cases this)
      have e6 : hdP6 t n hsH (some a) = tk t n 61 (some c) := by unfold hdP6; rw [if_pos hO, hsg]
      by_cases c61 : pek t n c = 61
      · have b61 : (true && pek t n c == 61) = true := by simp [c61]
        have e6' : hdP6 t n hsH (some a) = some (c + 1) := by rw [e6]; unfold tk pkO; simp [c61]
        have hc1 := pek_in c61 (by decide)
        obtain ⟨k1, k2, k3⟩ := sgF_ok (t := t) (n := n) (p := hdP4 t n hsH (some a))
        have k4 := sgF_n (t := t) (n := n) (p := hdP4 t n hsH (some a))
        have yy : yS G t n dc (tbN dc tb (hdD t n hsH (some a))) i (hdS t n hsH (some a)) := by
          refine ⟨hr', ht', by rw [F.2 70 7 (by omega)]; exact hd, hi, NG, sR, k2, k4, k3, ?_⟩
          intro j hj
          unfold tbN at hj ⊢
          cases dc with
          | false => exact tbf j hj
          | true =>
            simp only [if_true] at hj ⊢
            by_cases hjl : j < tb.length
            · simp only [List.getElem_append_left hjl]; exact tbf j hjl
            · simp only [List.getElem_append_right (show tb.length ≤ j by omega)]
              have : j - tb.length = 0 := by simp at hj; omega
              simp only [this, List.getElem_cons_zero]
              exact ⟨k2, k4, k3⟩
        have hre := r_readExpression (l := jXl X) (dc := dc) (hs := hs) (sg := hdS t n hsH (some a)) (q0 := q0) (ty := ty) hw yy hn (show c + 1 ≤ n by omega) hG21 (by omega) (fun hdc => by
            obtain ⟨hit, q1, q2, q3, q4⟩ := hFf hdc
            subst hdc
            exact ⟨rfl, q2, q3⟩) (fun hdc => by
            have := hq hdc
            cases q0 with
            | none => exact this
            | some ev => exact ⟨this.1, this.2.1, rR_eq hGc this.2.2⟩)
        have post : ∀ h9, eP G t n hs (hdS t n hsH (some a)) dc i (c + 1) q0 none h9 → riP g t n hs hsH dc ty i a s q0 (tbN dc tb (hdD t n hsH (some a))) none h9 := by
          rintro h9 ⟨-, g9, a9, gd9, ty9, s9, rfl, Y, i21, p9⟩
          refine ⟨rfl, g9, a9, gd9, ty9, s9, rfl, zF_yF (tF_zF F) Y, i21, ?_⟩
          rcases p9 with ⟨p1, p2, p3, p4⟩ | ⟨p1, f, p2, p3, p4⟩
          · exact ⟨p3, p2, Or.inl ⟨p1, Or.inr ⟨hO, c + 1, e6', p4⟩⟩⟩
          · have := pgr_E 8 _ _ _ p2
            exact ⟨by omega, by omega, Or.inr ⟨p1, c + 1, e6', rIt_o NG (fun k j z1 z2 => Y.2 k j (by omega)), p3, Or.inr ⟨hO, f, p2, p4⟩⟩⟩
        refine k_iload_n C dX5_readItem_160 rfl ?_
        refine j_if_ne C 171 dX5_readItem_161 (by decide) (fun c161 => ?_) (fun c161 => ?_)
        · exact absurd rfl c161 -- stop
        · refine k_aload_n C dX5_readItem_164 rfl ?_
          refine j_geti C fX5_116 rfl (by first | decide | omega) (by first | assumption | rfl) dX5_readItem_165 ?_
          refine j_if_ne C 172 dX5_readItem_168 (by decide) (fun c168 => ?_) (fun c168 => ?_)
          · refine k_aload_n C dX5_readItem_172 rfl ?_
            refine j_bipush (v := 61) C dX5_readItem_173 (by decide) ?_
            refine k_callV (k := 70) (ci := 5) (As := [.int (nI 61)]) C mX5_175 (r_expect hw hr' ht' (by omega) (ch := 61) (by decide)) jCl5.1 (by first | decide | omega) (by first | assumption | rfl) rfl rfl (Nat.le_of_ble_eq_true rfl) (jroom hR (by first | decide | omega) (by decide)) dX5_readItem_175 ?_
            rintro v9 h9 ⟨rfl, rfl⟩
            rw [b61, if_pos c61]
            refine k_aload_n C dX5_readItem_178 rfl ?_
            refine j_geti C fX5_116 rfl (by first | decide | omega) (by first | assumption | rfl) dX5_readItem_179 ?_
            refine j_if_eq C 190 dX5_readItem_182 (by decide) (fun c182 => ?_) (fun c182 => ?_)
            · exact absurd c182 n5 -- stop
            · refine k_aload_n C dX5_readItem_185 rfl ?_
              refine k_iload_n C dX5_readItem_186 rfl ?_
              refine k_callV (k := 70) (ci := 5) (As := [.int (nI (36 + i))]) C mX5_234 (hre) jCl5.1 (by first | decide | omega) (by first | assumption | rfl) rfl rfl (Nat.le_of_ble_eq_true rfl) (jroom hR (by first | decide | omega) (by decide)) dX5_readItem_187 ?_
              intro v9 h9 p9
              obtain rfl := p9.1
              exact j_vret C hrt hE dX5_readItem_190 (post _ p9)
          · exact absurd (by first | exact c168 | exact Classical.not_not.mp c168) n5 -- stop
      · have b61 : (true && pek t n c == 61) = false := by simp [c61]
        have e6' : hdP6 t n hsH (some a) = none := by rw [e6]; unfold tk pkO; simp [c61]
        refine k_iload_n C dX5_readItem_160 rfl ?_
        refine j_if_ne C 171 dX5_readItem_161 (by decide) (fun c161 => ?_) (fun c161 => ?_)
        · exact absurd rfl c161 -- stop
        · refine k_aload_n C dX5_readItem_164 rfl ?_
          refine j_geti C fX5_116 rfl (by first | decide | omega) (by first | assumption | rfl) dX5_readItem_165 ?_
          refine j_if_ne C 172 dX5_readItem_168 (by decide) (fun c168 => ?_) (fun c168 => ?_)
          · refine k_aload_n C dX5_readItem_172 rfl ?_
            refine j_bipush (v := 61) C dX5_readItem_173 (by decide) ?_
            refine k_callV (k := 70) (ci := 5) (As := [.int (nI 61)]) C mX5_175 (r_expect hw hr' ht' (by omega) (ch := 61) (by decide)) jCl5.1 (by first | decide | omega) (by first | assumption | rfl) rfl rfl (Nat.le_of_ble_eq_true rfl) (jroom hR (by first | decide | omega) (by decide)) dX5_readItem_175 ?_
            rintro v9 h9 ⟨rfl, rfl⟩
            rw [b61, if_neg c61]
            refine k_aload_n C dX5_readItem_178 rfl ?_
            refine j_geti C fX5_116 rfl (by first | decide | omega) (by first | assumption | rfl) dX5_readItem_179 ?_
            refine j_if_eq C 190 dX5_readItem_182 (by decide) (fun c182 => ?_) (fun c182 => ?_)
            · exact j_vret C hrt hE dX5_readItem_190 (⟨rfl, G, c, false, ty, s, rfl, tF_zF F, hG21, by omega, by omega, Or.inl ⟨rfl, Or.inl e6'⟩⟩)
            · exact absurd pv_5 c182 -- stop
          · exact absurd (by first | exact c168 | exact Classical.not_not.mp c168) n5 -- stop
  cases dc with
  | true =>
    obtain ⟨hTl, rfl⟩ := hT rfl
    have e7 : ∀ {b : Nat} {gd : Bool}, (pv g b gd ty).1 70 7 = 1 := fun {b gd} => by rw [pv_o (by omega)]; exact hd
    obtain ⟨G, eG⟩ : ∃ G : jH, G = (up2 (up2 (up2 g.1 74 (36 + i) (nI nm')) 75 (36 + i) (oI o')) 76 (36 + i) (bI ex), g.2) := ⟨_, rfl⟩
    have FG : tF i g G := by rw [eG]; exact tF_up (g' := (up2 (up2 g.1 74 (36 + i) (nI nm')) 75 (36 + i) (oI o'), g.2)) (tF_up (g' := (up2 g.1 74 (36 + i) (nI nm'), g.2)) (tF_up tF_rf (by omega)) (by omega)) (by omega)
    have hrG : G.2.1 70 = rMap ∧ rtx G t n := tF_rt FG hr ht
    -- behind the heads' row
    have m104 : ∀ b : Bool, J X w (pv G a2 (gd2 && b) ty) 131 [(0, .ref (jad w 70)), (1, .int (nI i)), (2, .int (nI (36 + i))), (3, .int (bI imp)), (4, .int (oI o')), (5, .int (bI ex)), (6, .int (nI nm'))] [] → J X w (pv g a2 gd2 ty) 104 [(0, .ref (jad w 70)), (1, .int (nI i)), (2, .int (nI (36 + i))), (3, .int (bI imp)), (4, .int (oI o')), (5, .int (bI ex)), (6, .int (nI nm'))] [.int (bI b), .ref (jad w 70)] := by
      intro b kk
      have hr2 : (up2 g.1 74 (36 + i) (nI nm'), g.2).2.1 70 = rMap := hr
      have hr3 : (up2 (up2 g.1 74 (36 + i) (nI nm')) 75 (36 + i) (oI o'), g.2).2.1 70 = rMap := hr
      refine k_callV (k := 70) (ci := 5) (As := [.int (bI b)]) C mX5_131 (r_must hw b) jCl5.1 (by first | decide | omega) (by first | assumption | rfl) rfl rfl (Nat.le_of_ble_eq_true rfl) (jroom hR (by first | decide | omega) (by decide)) dX5_readItem_104 ?_
      rintro v9 h9 ⟨rfl, rfl⟩
      refine k_aload_n C dX5_readItem_107 rfl ?_
      refine j_getr C fX5_21 rfl (by first | decide | omega) (by first | assumption | rfl) (congrFun hr _) dX5_readItem_108 ?_
      refine k_iload_n C dX5_readItem_111 rfl ?_
      refine k_iload C dX5_readItem_112 rfl ?_
      refine j_iast C (by first | decide | omega) (by first | assumption | rfl) (rfl) ((by omega)) (by decide) dX5_readItem_114 ?_
      refine jeqh (pv_put (by omega)) ?_
      refine k_aload_n C dX5_readItem_115 rfl ?_
      refine j_getr C fX5_24 rfl (by first | decide | omega) (by first | assumption | rfl) (congrFun hr2 _) dX5_readItem_116 ?_
      refine k_iload_n C dX5_readItem_119 rfl ?_
      refine k_iload C dX5_readItem_120 rfl ?_
      refine j_iast C (by first | decide | omega) (by first | assumption | rfl) (rfl) ((by omega)) (by decide) dX5_readItem_122 ?_
      refine jeqh (pv_put (by omega)) ?_
      refine k_aload_n C dX5_readItem_123 rfl ?_
      refine j_getr C fX5_27 rfl (by first | decide | omega) (by first | assumption | rfl) (congrFun hr3 _) dX5_readItem_124 ?_
      refine k_iload_n C dX5_readItem_127 rfl ?_
      refine k_iload C dX5_readItem_128 rfl ?_
      refine j_zast C (by first | decide | omega) (by first | assumption | rfl) (rfl) ((by omega)) (by decide) (bI_01 ex) dX5_readItem_130 ?_
      refine jeqh (show _ = pv G a2 (gd2 && b) ty from by rw [pv_put (by omega), eG]) ?_
      exact kk
    cases gd2 with
    | false =>
      have hv := P4none (show hdP4 t n hsH (some a) = none from by unfold hdP4; rw [hb2 rfl]; split <;> rfl)
      refine k_aload_n C dX5_readItem_70 rfl ?_
      refine j_geti C fX5_135 rfl (by first | decide | omega) (by first | assumption | rfl) dX5_readItem_71 ?_
      refine j_if_eq C 131 dX5_readItem_74 (by decide) (fun c74 => ?_) (fun c74 => ?_)
      · exact absurd (e7.symm.trans c74) (by decide) -- stop
      · refine k_aload_n C dX5_readItem_77 rfl ?_
        refine k_aload_n C dX5_readItem_78 rfl ?_
        refine j_geti C fX5_116 rfl (by first | decide | omega) (by first | assumption | rfl) dX5_readItem_79 ?_
        refine j_if_eq C 103 dX5_readItem_82 (by decide) (fun c82 => ?_) (fun c82 => ?_)
        · refine j_iconst (v := 0) C dX5_readItem_103 (by decide) ?_
          exact m104 false (b131 G a2 FG (by omega) hv)
        · exact absurd pv_5 c82 -- stop
    | true =>
      obtain ⟨q1, q2, q3, q4⟩ := hg2 rfl
      have ha2n : a2 ≤ n := am_ok (by decide) a2 q1
      subst q2 q3
      have hNp : rNF (pv g a2 true ty) 6 hsH := ⟨by rw [pv_o (by omega)]; exact N.1.1, N.1.2.1, fun i hi => by rw [pv_o (by omega), pv_o (by omega)]; exact N.1.2.2 i hi⟩
      have hlk := lkp_lix0 (tb := hsH) (ow := hdO t n (some a)) (fun i hi => (N.1.2.2 i hi).2.2.2) hnm'
      have hm1 := ixI_m1 (m := 6) (o := lix hsH (hdO t n (some a)) (nI (hdN t n (some a))) hsH.length) (by decide) (fun i hi => by have := lix_lt hi; omega)
      have n5 : ∀ {G : jH} {b : Nat}, ¬ (pv G b true ty).1 70 5 = 0 := fun {G b} => by rw [pv_5]; decide
      cases elk : lix hsH (hdO t n (some a)) (nI (hdN t n (some a))) hsH.length with
      | some j =>
        have hv := P4none (show hdP4 t n hsH (some a) = none from by unfold hdP4; rw [if_neg (fun z => by rw [hlk.mp z] at elk; cases elk)])
        refine k_aload_n C dX5_readItem_70 rfl ?_
        refine j_geti C fX5_135 rfl (by first | decide | omega) (by first | assumption | rfl) dX5_readItem_71 ?_
        refine j_if_eq C 131 dX5_readItem_74 (by decide) (fun c74 => ?_) (fun c74 => ?_)
        · exact absurd (e7.symm.trans c74) (by decide) -- stop
        · refine k_aload_n C dX5_readItem_77 rfl ?_
          refine k_aload_n C dX5_readItem_78 rfl ?_
          refine j_geti C fX5_116 rfl (by first | decide | omega) (by first | assumption | rfl) dX5_readItem_79 ?_
          refine j_if_eq C 103 dX5_readItem_82 (by decide) (fun c82 => ?_) (fun c82 => ?_)
          · exact absurd c82 n5 -- stop
          · refine k_aload_n C dX5_readItem_85 rfl ?_
            refine j_bipush (v := 6) C dX5_readItem_86 (by decide) ?_
            refine k_iload C dX5_readItem_88 rfl ?_
            refine k_iload C dX5_readItem_90 rfl ?_
            refine k_callV (k := 70) (ci := 5) (As := [.int (nI 6), .int (nI (hdN t n (some a))), .int (oI (hdO t n (some a)))]) C mX5_183 (r_find (h := pv g a2 true ty) hw hr (m := 6) (by decide) hNp (o := hdO t n (some a)) ho' (nI (hdN t n (some a)))) jCl5.1 (by first | decide | omega) (by first | assumption | rfl) rfl rfl (Nat.le_of_ble_eq_true rfl) (jroom hR (by first | decide | omega) (by decide)) dX5_readItem_92 ?_
            rintro v9 h9 ⟨rfl, rfl⟩
            refine j_iconst (v := -1) C dX5_readItem_95 (by decide) ?_
            refine j_icmp_ne C 103 dX5_readItem_96 (by decide) (fun c96 => ?_) (fun c96 => ?_)
            · refine j_iconst (v := 0) C dX5_readItem_103 (by decide) ?_
              exact m104 false (b131 G a2 FG (by omega) hv)
            · exact absurd (hm1.mp (by first | exact c96 | exact Classical.not_not.mp c96)) (by rw [elk]; simp) -- stop
      | none =>
        have e4 : hdP4 t n hsH (some a) = some a2 := by unfold hdP4; rw [if_pos (hlk.mpr elk)]; exact q1
        have g131 : J X w (pv G a2 (true && true) ty) 131 [(0, .ref (jad w 70)), (1, .int (nI i)), (2, .int (nI (36 + i))), (3, .int (bI imp)), (4, .int (oI (hdO t n (some a)))), (5, .int (bI ex)), (6, .int (nI (hdN t n (some a))))] [] := by
          have mid : ∀ h9, sgP G t n (36 + i) a2 ty none h9 → J X w h9 143 [(0, .ref (jad w 70)), (1, .int (nI i)), (2, .int (nI (36 + i))), (3, .int (bI imp)), (4, .int (oI (hdO t n (some a)))), (5, .int (bI ex)), (6, .int (nI (hdN t n (some a))))] [] := by
            rintro h9 ⟨-, G2, a9, gd9, rfl, F2, ha9, p9⟩
            cases hsg : (sgF t n (some a2)).2 with
            | none =>
              rw [hsg] at p9
              subst p9
              refine b143 G2 a9 (tF_sF FG F2) (by omega) ?_
              unfold hdP6
              rw [e4, hsg]
              split
              · exact tk_none
              · rfl
            | some c =>
              rw [hsg] at p9
              obtain ⟨rfl, rfl, sR⟩ := p9
              have FG2 := tF_sF FG F2
              have e72 : (pv G2 a9 true ty).1 70 7 = 1 := by rw [pv_o (by omega), FG2.2 70 7 (by omega)]; exact hd
              have hr2 : G2.2.1 70 = rMap := by rw [FG2.1]; exact hr
              have hS : hdS t n hsH (some a) = (sgF t n (some a2)).1 := by unfold hdS; rw [e4]
              obtain ⟨G3, eG3⟩ : ∃ G3 : jH, G3 = (up2 G2.1 73 6 (nI (i + 1)), G2.2) := ⟨_, rfl⟩
              have FG3 : tF i g G3 := by rw [eG3]; exact tF_up FG2 (by omega)
              have o3 : ∀ k j, k ≠ 73 → G3.1 k j = G2.1 k j := fun k j z => by rw [eG3]; exact up2_n (by omega)
              have sR3 : rSg G3 (36 + i) (hdS t n hsH (some a)) := by
                rw [hS]
                exact ⟨by rw [o3 _ _ (by omega)]; exact sR.1, fun q hq => by rw [o3 _ _ (by omega)]; exact sR.2.1 q hq, by rw [o3 _ _ (by omega)]; exact sR.2.2⟩
              have N3 : rIt G3 6 (tbN true hsH (hdD t n hsH (some a))) := by
                have hln : (hsH ++ [hdD t n hsH (some a)]).length = i + 1 := by simp [hTl]
                show rIt _ 6 (hsH ++ [hdD t n hsH (some a)])
                have cell : ∀ k j, 74 ≤ k → k ≤ 76 → G3.1 k j = G.1 k j := fun k j z1 z2 => by rw [o3 _ _ (by omega)]; exact F2.2 k j (by omega) (by omega)
                have e66 : 6 * 6 + i = 36 + i := by omega
                refine ⟨⟨by rw [eG3]; dsimp only; rw [up2_s, hln], by omega, fun j hj => ?_⟩, fun j hj => ?_⟩
                · by_cases hjl : j < hsH.length
                  · simp only [List.getElem_append_left hjl]
                    obtain ⟨u1, u2, u3⟩ := N.1.2.2 j hjl
                    exact ⟨by rw [FG3.2 _ _ (by omega)]; exact u1, by rw [FG3.2 _ _ (by omega)]; exact u2, u3⟩
                  · have hj0 : j = i := by omega
                    subst hj0
                    simp only [List.getElem_append_right (show hsH.length ≤ j by omega), show j - hsH.length = 0 by omega, List.getElem_cons_zero]
                    refine ⟨?_, ?_, ho', hnm'⟩
                    · rw [cell 74 _ (by omega) (by omega), eG, e66]; dsimp only; rw [up2_n (by omega), up2_n (by omega), up2_s]; rfl
                    · rw [cell 75 _ (by omega) (by omega), eG, e66]; dsimp only; rw [up2_n (by omega), up2_s]; rfl
                · by_cases hjl : j < hsH.length
                  · simp only [List.getElem_append_left hjl]
                    obtain ⟨u1, u2, u3, u4⟩ := N.2 j hjl
                    have hk3 := nTk_le (hsH[j]).2.2.1
                    exact ⟨by rw [FG3.2 _ _ (by omega)]; exact u1, by rw [FG3.2 _ _ (by omega)]; exact u2, fun q hq => by rw [FG3.2 _ _ (by omega)]; exact u3 q hq, by rw [FG3.2 _ _ (by omega)]; exact u4⟩
                  · have hj0 : j = i := by omega
                    subst hj0
                    simp only [List.getElem_append_right (show hsH.length ≤ j by omega), show j - hsH.length = 0 by omega, List.getElem_cons_zero]
                    refine ⟨?_, by rw [e66]; exact sR3⟩
                    rw [cell 76 _ (by omega) (by omega), eG, e66]; dsimp only; rw [up2_s]; exact q4
              refine k_aload_n C dX5_readItem_143 rfl ?_
              refine j_geti C fX5_135 rfl (by first | decide | omega) (by first | assumption | rfl) dX5_readItem_144 ?_
              refine j_if_eq C 160 dX5_readItem_147 (by decide) (fun c147 => ?_) (fun c147 => ?_)
              · exact absurd (e72.symm.trans c147) (by decide) -- stop
              · refine k_aload_n C dX5_readItem_150 rfl ?_
                refine j_getr C fX5_17 rfl (by first | decide | omega) (by first | assumption | rfl) (congrFun hr2 _) dX5_readItem_151 ?_
                refine j_bipush (v := 6) C dX5_readItem_154 (by decide) ?_
                refine k_iload_n C dX5_readItem_156 rfl ?_
                refine j_iconst (v := 1) C dX5_readItem_157 (by decide) ?_
                refine j_iadd C dX5_readItem_158 ?_
                rw [nI_1]
                refine j_iast C (by first | decide | omega) (by first | assumption | rfl) ((show (6 : Int32) = nI 6 from rfl)) ((by omega)) (by decide) dX5_readItem_159 ?_
                refine jeqh (show _ = pv G3 a9 true ty from by rw [pv_put (by omega), eG3]) ?_
                exact g160 (by rw [e4]; simp) _ a9 FG3 (by rw [e4]; exact hsg) N3 sR3
          refine k_aload_n C dX5_readItem_131 rfl ?_
          refine j_geti C fX5_116 rfl (by first | decide | omega) (by first | assumption | rfl) dX5_readItem_132 ?_
          refine j_if_eq C 143 dX5_readItem_135 (by decide) (fun c135 => ?_) (fun c135 => ?_)
          · exact absurd c135 n5 -- stop
          · refine k_aload_n C dX5_readItem_138 rfl ?_
            refine k_iload_n C dX5_readItem_139 rfl ?_
            refine k_callV (k := 70) (ci := 5) (As := [.int (nI (36 + i))]) C mX5_231 (r_readSignature hw hrG.1 hrG.2 hn (by omega) (by omega)) jCl5.1 (by first | decide | omega) (by first | assumption | rfl) rfl rfl (Nat.le_of_ble_eq_true rfl) (jroom hR (by first | decide | omega) (by decide)) dX5_readItem_140 ?_
            intro v9 h9 p9
            obtain rfl := p9.1
            exact mid _ p9
        refine k_aload_n C dX5_readItem_70 rfl ?_
        refine j_geti C fX5_135 rfl (by first | decide | omega) (by first | assumption | rfl) dX5_readItem_71 ?_
        refine j_if_eq C 131 dX5_readItem_74 (by decide) (fun c74 => ?_) (fun c74 => ?_)
        · exact absurd (e7.symm.trans c74) (by decide) -- stop
        · refine k_aload_n C dX5_readItem_77 rfl ?_
          refine k_aload_n C dX5_readItem_78 rfl ?_
          refine j_geti C fX5_116 rfl (by first | decide | omega) (by first | assumption | rfl) dX5_readItem_79 ?_
          refine j_if_eq C 103 dX5_readItem_82 (by decide) (fun c82 => ?_) (fun c82 => ?_)
          · exact absurd c82 n5 -- stop
          · refine k_aload_n C dX5_readItem_85 rfl ?_
            refine j_bipush (v := 6) C dX5_readItem_86 (by decide) ?_
            refine k_iload C dX5_readItem_88 rfl ?_
            refine k_iload C dX5_readItem_90 rfl ?_
            refine k_callV (k := 70) (ci := 5) (As := [.int (nI 6), .int (nI (hdN t n (some a))), .int (oI (hdO t n (some a)))]) C mX5_183 (r_find (h := pv g a2 true ty) hw hr (m := 6) (by decide) hNp (o := hdO t n (some a)) ho' (nI (hdN t n (some a)))) jCl5.1 (by first | decide | omega) (by first | assumption | rfl) rfl rfl (Nat.le_of_ble_eq_true rfl) (jroom hR (by first | decide | omega) (by decide)) dX5_readItem_92 ?_
            rintro v9 h9 ⟨rfl, rfl⟩
            refine j_iconst (v := -1) C dX5_readItem_95 (by decide) ?_
            refine j_icmp_ne C 103 dX5_readItem_96 (by decide) (fun c96 => ?_) (fun c96 => ?_)
            · exact absurd (hm1.mpr elk) c96 -- stop
            · refine j_iconst (v := 1) C dX5_readItem_99 (by decide) ?_
              refine j_goto C 104 dX5_readItem_100 (by decide) ?_
              exact m104 true g131
  | false =>
    obtain ⟨hit, d1, d2, d3, d4⟩ := hFf rfl
    have e7 : ∀ {b : Nat} {gd : Bool}, (pv g b gd ty).1 70 7 = 0 := fun {b gd} => by rw [pv_o (by omega)]; exact hd
    have n5 : ∀ {G : jH} {b : Nat}, ¬ (pv G b true ty).1 70 5 = 0 := fun {G b} => by rw [pv_5]; decide
    have e4' : hdP4 t n hsH (some a) = am t n 97 122 (hdP2 t n (some a)) := by unfold hdP4; rw [if_pos d4]
    cases gd2 with
    | false =>
      refine k_aload_n C dX5_readItem_70 rfl ?_
      refine j_geti C fX5_135 rfl (by first | decide | omega) (by first | assumption | rfl) dX5_readItem_71 ?_
      refine j_if_eq C 131 dX5_readItem_74 (by decide) (fun c74 => ?_) (fun c74 => ?_)
      · exact b131 g a2 tF_rf (by omega) (P4none (by rw [e4']; exact hb2 rfl))
      · exact absurd e7 c74 -- stop
    | true =>
      obtain ⟨q1, q2, q3, q4⟩ := hg2 rfl
      have ha2n : a2 ≤ n := am_ok (by decide) a2 q1
      have e4 : hdP4 t n hsH (some a) = some a2 := by rw [e4']; exact q1
      have mid : ∀ h9, sgP g t n (36 + i) a2 ty none h9 → J X w h9 143 [(0, .ref (jad w 70)), (1, .int (nI i)), (2, .int (nI (36 + i))), (3, .int (bI imp)), (4, .int (oI o')), (5, .int (bI ex)), (6, .int (nI nm'))] [] := by
        rintro h9 ⟨-, G2, a9, gd9, rfl, F2, ha9, p9⟩
        cases hsg : (sgF t n (some a2)).2 with
        | none =>
          rw [hsg] at p9
          subst p9
          refine b143 G2 a9 (tF_sF tF_rf F2) (by omega) ?_
          unfold hdP6
          rw [e4, hsg]
          split
          · exact tk_none
          · rfl
        | some c =>
          rw [hsg] at p9
          obtain ⟨rfl, rfl, sR⟩ := p9
          have FG2 : tF i g G2 := tF_sF tF_rf F2
          have e72 : (pv G2 a9 true ty).1 70 7 = 0 := by rw [pv_o (by omega), FG2.2 70 7 (by omega)]; exact hd
          have hS : hdS t n hsH (some a) = (sgF t n (some a2)).1 := by unfold hdS; rw [e4]
          rw [← hS] at sR
          have hS2 : (tb[i]).2.2.1 = hdS t n hsH (some a) := by rw [d1]; rfl
          have N3 : rIt G2 6 (tbN false tb (hdD t n hsH (some a))) := by
            show rIt G2 6 tb
            refine ⟨⟨by rw [F2.2 _ _ (by omega) (by omega)]; exact N.1.1, hl6, fun j hj => ?_⟩, fun j hj => ?_⟩
            · obtain ⟨u1, u2, u3⟩ := N.1.2.2 j hj
              exact ⟨by rw [F2.2 _ _ (by omega) (by omega)]; exact u1, by rw [F2.2 _ _ (by omega) (by omega)]; exact u2, u3⟩
            · obtain ⟨u1, u2, u3, u4⟩ := N.2 j hj
              refine ⟨by rw [F2.2 _ _ (by omega) (by omega)]; exact u1, ?_⟩
              by_cases hji : j = i
              · subst hji
                rw [hS2, show 6 * 6 + j = 36 + j by omega]
                exact sR
              · have hk3 := nTk_le (tb[j]).2.2.1
                exact ⟨by rw [F2.2 _ _ (by omega) (by omega)]; exact u2, fun q hq => by rw [F2.2 _ _ (by omega) (by omega)]; exact u3 q hq, by rw [F2.2 _ _ (by omega) (by omega)]; exact u4⟩
          refine k_aload_n C dX5_readItem_143 rfl ?_
          refine j_geti C fX5_135 rfl (by first | decide | omega) (by first | assumption | rfl) dX5_readItem_144 ?_
          refine j_if_eq C 160 dX5_readItem_147 (by decide) (fun c147 => ?_) (fun c147 => ?_)
          · exact g160 (by rw [e4]; simp) G2 a9 FG2 (by rw [e4]; exact hsg) N3 sR
          · exact absurd e72 c147 -- stop
      refine k_aload_n C dX5_readItem_70 rfl ?_
      refine j_geti C fX5_135 rfl (by first | decide | omega) (by first | assumption | rfl) dX5_readItem_71 ?_
      refine j_if_eq C 131 dX5_readItem_74 (by decide) (fun c74 => ?_) (fun c74 => ?_)
      · refine k_aload_n C dX5_readItem_131 rfl ?_
        refine j_geti C fX5_116 rfl (by first | decide | omega) (by first | assumption | rfl) dX5_readItem_132 ?_
        refine j_if_eq C 143 dX5_readItem_135 (by decide) (fun c135 => ?_) (fun c135 => ?_)
        · exact absurd c135 n5 -- stop
        · refine k_aload_n C dX5_readItem_138 rfl ?_
          refine k_iload_n C dX5_readItem_139 rfl ?_
          refine k_callV (k := 70) (ci := 5) (As := [.int (nI (36 + i))]) C mX5_231 (r_readSignature hw hr ht hn (by omega) (by omega)) jCl5.1 (by first | decide | omega) (by first | assumption | rfl) rfl rfl (Nat.le_of_ble_eq_true rfl) (jroom hR (by first | decide | omega) (by decide)) dX5_readItem_140 ?_
          intro v9 h9 p9
          obtain rfl := p9.1
          exact mid _ p9
      · exact absurd e7 c74 -- stop
end XR
