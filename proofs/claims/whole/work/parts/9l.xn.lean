section XN
variable {X : jX} {w : jW} {h h0 g1 gi gE g g' G : jH} {t : Nat → Nat} {n : Nat} {hs : List (Nat × Nat × Nat)} {dc gd ty ip kp : Bool} {H : Nat → Prop} {L c a a0 a1 s M ow nm k j st kq x : Nat} {tb : List HD} {sg0 sg : Nat} {q qs : TA} {f f2 : CL} {V : Prop} {sub : Nat → PR} {br : Bool}
theorem pWho_cl (hd9 : ¬ (48 ≤ pek t n a ∧ pek t n a ≤ 57)) (h36 : pek t n a ≠ 36) (h40 : pek t n a ≠ 40) (h123 : pek t n a ≠ 123) (h91 : pek t n a ≠ 91) : pWho t n hs sg true sub a = match clP t n a with
    | none => none
    | some z => pCall t n hs sub z.1 z.2.1 z.2.2 := by
  unfold pWho clP
  rw [if_neg hd9, if_neg h36, if_neg (by decide)]
  by_cases c1 : 97 ≤ pek t n a ∧ pek t n a ≤ 122
  · rw [if_pos c1, if_pos c1]
    by_cases c2 : pek t n (a + 1) = 40
    · rw [if_pos c2, if_pos c2]
    · rw [if_neg c2, if_neg c2]
  · rw [if_neg c1, if_neg c1]
    by_cases c2 : 65 ≤ pek t n a ∧ pek t n a ≤ 70
    · rw [if_pos c2, if_pos c2]
      by_cases c3 : pek t n (a + 1) = 46 ∧ (97 ≤ pek t n (a + 2) ∧ pek t n (a + 2) ≤ 122) ∧ pek t n (a + 3) = 40
      · rw [if_pos c3, if_pos c3]
      · rw [if_neg c3, if_neg c3]
    · rw [if_neg c2, if_neg c2, if_neg h40, if_neg h123, if_neg h91]
theorem r_W (B : xCx X w h0 t n hs sg dc tb x sg0) (hZ : xZs X w h0 x V) (hp : pgr n sub) (hL : L ≤ 8) (hbr : br = true ↔ L + 1 < 9) (hsub : br = true → xEL X w h0 t n sub dc x V (L + 1)) (han : a ≤ n) (K : xK h0 g dc H L c a q s ty) (hV : bdV t n (pWho t n hs sg br sub a) → V) (KD : ∀ (g' : jH) (a1 : Nat) (ty' : Bool) (s' : Nat) (ip' : Bool) (f : CL), pWho t n hs sg br sub a = some (a1, f) → xW h0 g g' dc H L c a1 q f s' ty' ip' → J X w (pv g' a1 true ty') 68 (lvD w x) []) : J X w (pv g a true ty) 48 (lvF w x) [] := by
  have hB := B
  obtain ⟨hw, C, hR, hnL, T, S, hn, B2⟩ := B
  have sa := K.2.2.2.1
  have bad : ∀ v h', bdP h0 v h' → V → ∃ (b gd : Bool) (g' : jH) (a' : Nat) (ty' : Bool), v = some (.int (bI b)) ∧ h' = pv g' a' gd ty' ∧ (gd = false → J X w h' 112 (lvZ w x) []) ∧ (gd = true → b = true → J X w h' 68 (lvD w x) []) ∧ (gd = true → b = false → J X w h' 48 (lvF w x) []) := by
    rintro v h' ⟨rb, g', a', ty', rfl, rfl, ha', hz⟩ hv
    exact ⟨rb, false, g', a', ty', rfl, rfl, fun _ => hZ hv _ _ _ hz (by omega), (fun z => by cases z), (fun z => by cases z)⟩
  by_cases hd9 : 48 ≤ pek t n a ∧ pek t n a ≤ 57
  · have eW : pWho t n hs sg br sub a = some ((nmb t n 4 a 0).1, fun _ hd => some (1, [(0, (nmb t n 4 a 0).2, hd, 0)], 0)) := by unfold pWho; rw [if_pos hd9]; rfl
    rw [eW] at hV KD
    refine g_F C hR hnL (r_bF_num hw T hn hd9 K) ?_
    intro v h' p
    by_cases z : 48 ≤ pek t n (nmb t n 4 a 0).1 ∧ pek t n (nmb t n 4 a 0).1 ≤ 57
    · rw [if_pos z] at p
      exact bad v h' p (hV z)
    · rw [if_neg z] at p
      obtain ⟨rfl, g', ty', s', ip', rfl, W⟩ := p
      exact ⟨true, true, _, _, _, rfl, rfl, (fun z => by cases z), fun _ _ => KD _ _ _ _ _ _ rfl W, (fun _ z => by cases z)⟩
  · by_cases h36 : pek t n a = 36
    · refine g_F C hR hnL (r_bF_par (sg := sg) hw T S (fun z => (B2 z).1) hn h36 K) ?_
      intro v h' p
      by_cases z : 49 ≤ pek t n (a + 1) ∧ pek t n (a + 1) ≤ 51
      · have eW : pWho t n hs sg br sub a = some (a + 2, parC sg (pek t n (a + 1) - 48)) := by unfold pWho pPar; rw [if_neg hd9, if_pos h36, if_pos z]; rfl
        rw [eW] at KD
        rw [if_pos z] at p
        obtain ⟨rfl, g', ty', s', ip', rfl, W⟩ := p
        exact ⟨true, true, _, _, _, rfl, rfl, (fun z => by cases z), fun _ _ => KD _ _ _ _ _ _ rfl W, (fun _ z => by cases z)⟩
      · have eW : pWho t n hs sg br sub a = none := by unfold pWho pPar; rw [if_neg hd9, if_pos h36, if_neg z]
        rw [eW] at hV
        rw [if_neg z] at p
        exact bad v h' p (hV trivial)
    · by_cases h40 : pek t n a = 40
      · cases br with
        | true =>
          have eW : pWho t n hs sg true sub a = pGrp t n sub a := by unfold pWho; rw [if_neg hd9, if_neg h36, if_neg (by decide), if_neg (by omega), if_neg (by omega), if_pos h40]
          rw [eW] at hV KD
          exact W_grp hB hZ hp (hsub rfl) (hbr.mp rfl) h40 K hV KD
        | false =>
          have eW : pWho t n hs sg false sub a = none := by unfold pWho; rw [if_neg hd9, if_neg h36, if_pos rfl]
          rw [eW] at hV
          refine g_F C hR hnL (r_bF_open hw T hn hL (Or.inl ⟨h40, rfl⟩) K) ?_
          intro v h' p
          rw [if_neg (fun z => by have := hbr.mpr z; cases this)] at p
          exact bad v h' p (hV trivial)
      · by_cases h123 : pek t n a = 123
        · cases br with
          | true =>
            have eW : pWho t n hs sg true sub a = pPair t n sub a := by unfold pWho; rw [if_neg hd9, if_neg h36, if_neg (by decide), if_neg (by omega), if_neg (by omega), if_neg h40, if_pos h123]
            rw [eW] at hV KD
            exact W_pair hB hZ hp (hsub rfl) (hbr.mp rfl) h123 K hV KD
          | false =>
            have eW : pWho t n hs sg false sub a = none := by unfold pWho; rw [if_neg hd9, if_neg h36, if_pos rfl]
            rw [eW] at hV
            refine g_F C hR hnL (r_bF_open hw T hn hL (Or.inr (Or.inl ⟨h123, rfl⟩)) K) ?_
            intro v h' p
            rw [if_neg (fun z => by have := hbr.mpr z; cases this)] at p
            exact bad v h' p (hV trivial)
        · by_cases h91 : pek t n a = 91
          · cases br with
            | true =>
              have eW : pWho t n hs sg true sub a = pCho t n sub a := by unfold pWho; rw [if_neg hd9, if_neg h36, if_neg (by decide), if_neg (by omega), if_neg (by omega), if_neg h40, if_neg h123, if_pos h91]
              rw [eW] at hV KD
              exact W_cho hB hZ hp (hsub rfl) (hbr.mp rfl) h91 K hV KD
            | false =>
              have eW : pWho t n hs sg false sub a = none := by unfold pWho; rw [if_neg hd9, if_neg h36, if_pos rfl]
              rw [eW] at hV
              refine g_F C hR hnL (r_bF_open hw T hn hL (Or.inr (Or.inr ⟨h91, rfl⟩)) K) ?_
              intro v h' p
              rw [if_neg (fun z => by have := hbr.mpr z; cases this)] at p
              exact bad v h' p (hV trivial)
          · cases hcl : clP t n a with
            | none =>
              have eW : pWho t n hs sg br sub a = none := by
                cases br with
                | true => rw [pWho_cl hd9 h36 h40 h123 h91, hcl]
                | false => unfold pWho; rw [if_neg hd9, if_neg h36, if_pos rfl]
              rw [eW] at hV
              refine g_F C hR hnL (r_bF_call hw T S hn han hL hd9 h36 h40 h123 h91 K) ?_
              intro v h' p
              unfold bcP at p
              rw [hcl] at p
              exact bad v h' p (hV trivial)
            | some z =>
              obtain ⟨ow, nm, a2⟩ := z
              cases br with
              | true =>
                have eW : pWho t n hs sg true sub a = pCall t n hs sub ow nm a2 := by rw [pWho_cl hd9 h36 h40 h123 h91, hcl]
                rw [eW] at hV KD
                exact W_call hB hZ hp (hsub rfl) (hbr.mp rfl) han hd9 h36 h40 h123 h91 hcl K hV KD
              | false =>
                have eW : pWho t n hs sg false sub a = none := by unfold pWho; rw [if_neg hd9, if_neg h36, if_pos rfl]
                rw [eW] at hV
                refine g_F C hR hnL (r_bF_call hw T S hn han hL hd9 h36 h40 h123 h91 K) ?_
                intro v h' p
                unfold bcP at p
                rw [hcl] at p
                simp only at p
                rw [if_neg (fun z => by have := hbr.mpr z; cases this)] at p
                exact bad v h' p (hV trivial)
theorem r_F (B : xCx X w h0 t n hs sg dc tb x sg0) (hZ : xZs X w h0 x V) (hp : pgr n sub) (hL : L ≤ 8) (hbr : br = true ↔ L + 1 < 9) (hsub : br = true → xEL X w h0 t n sub dc x V (L + 1)) (hlok : lok gE dc L) : ∀ (N a : Nat) (sm : Option (Nat × CL)) (pd : Option CL) (g : jH) (s : Nat) (ty : Bool), n ≤ a + N → a ≤ n → (∀ z, sm = some z → z.1 = 5 ∨ z.1 = 6) → xK h0 g dc H L (c + cN sm + cN pd) a (qF qs sm pd) s ty → nF L gE g → g.1 88 L = bI pd.isSome → g.1 87 L = ssI sm → (bdV t n (restF t n hs sg br sub sm pd a) → V) → (∀ (g' : jH) (a1 : Nat) (ty' : Bool) (s' : Nat) (ip' : Bool) (f : CL), restF t n hs sg br sub sm pd a = some (a1, f) → xD h0 gE g' dc H L c a1 qs f s' ty' ip' → g'.1 88 L = 0 → g'.1 87 L = 0 → J X w (pv g' a1 true ty') 80 (lvD w x) []) → J X w (pv g a true ty) 48 (lvF w x) [] := by
  have hB := B
  obtain ⟨hw, C, hR, hnL, T, S, hn, B2⟩ := B
  intro N
  induction N with
  | zero =>
    intro a sm pd g s ty hN han hsm K nf h88 h87 hV KS
    have e0 : pWho t n hs sg br sub a = none := pWho_n (by omega)
    refine r_W hB hZ hp hL hbr hsub han K (fun _ => hV (by unfold restF; rw [e0]; trivial)) ?_
    intro g' a1 ty' s' ip' f hw9
    rw [e0] at hw9
    cases hw9
  | succ N ih =>
    intro a sm pd g s ty hN han hsm K nf h88 h87 hV KS
    refine r_W hB hZ hp hL hbr hsub han K ?_ ?_
    · intro z
      refine hV ?_
      unfold restF
      cases e : pWho t n hs sg br sub a with
      | none => trivial
      | some p =>
        rw [e] at z
        simp only
        rw [rest_dig (show 48 ≤ pek t n p.1 ∧ pek t n p.1 ≤ 57 from z)]
        exact z
    · intro g' a1 ty' s' ip' f hwh W
      have eR : restF t n hs sg br sub sm pd a = restD t n hs sg br sub sm pd f a1 := by unfold restF; rw [hwh]
      rw [eR] at hV KS
      have ha1 := pgr_Who (t := t) (hs := hs) (sg := sg) (br := br) hp _ _ _ hwh
      have D : xD h0 gE g' dc H L (c + cN sm + cN pd) a1 (qF qs sm pd) f s' ty' ip' := ⟨W.1, fun k j z1 z2 z3 z4 => by rw [W.2.1 k j z1 z2 z3]; exact nf k j z1 z2 z3 z4, W.2.2.1, W.2.2.2⟩
      have h88' : g'.1 88 L = bI pd.isSome := by rw [W.2.1 88 L (by omega) (by omega) (by omega)]; exact h88
      have h87' : g'.1 87 L = ssI sm := by rw [W.2.1 87 L (by omega) (by omega) (by omega)]; exact h87
      refine g_D C hR hnL (r_endFactor hw T hn ha1.2 hL hsm D h88' h87') ?_
      intro v h' p
      unfold efP at p
      obtain ⟨rb, g2, a2, ty2, s2, rfl, p⟩ := p
      cases hpr : prjR t n a1 f with
      | none =>
        rw [hpr] at p
        obtain ⟨rfl, p1, p2, p3⟩ := p
        have hv : V := hV (by unfold restD; rw [hpr]; trivial)
        refine ⟨rb, false, _, _, _, rfl, rfl, fun _ _ => hZ hv _ _ _ ⟨p3.1, s2, p3.2.2.2.1, by omega⟩ (by omega), (fun _ z => by cases z), fun _ => ?_⟩
        exact S_bad hw C hR hnL T S p3 p2 p1 hL hlok (hZ hv)
      | some p9 =>
        rw [hpr] at p
        simp only at p
        obtain ⟨rfl, p⟩ := p
        have hle : p9.1 ≤ n ∧ a1 ≤ p9.1 := by
          have hF := pgr_Fac (t := t) (hs := hs) (sg := sg) (br := br) hp a p9.1 p9.2
          rw [pFac_prj, hwh] at hF
          refine ⟨(hF hpr).2, ?_⟩
          unfold prjR at hpr
          split at hpr
          · split at hpr
            · simp only [Option.some.injEq] at hpr; rw [← hpr]; dsimp only; omega
            · split at hpr
              · simp only [Option.some.injEq] at hpr; rw [← hpr]; dsimp only; omega
              · cases hpr
          · simp only [Option.some.injEq] at hpr; rw [← hpr]; exact Nat.le_refl _
        rcases p with ⟨c42, rfl, rfl, K2, nf2, i88, i87⟩ | ⟨c42, c43, rfl, rfl, K2, nf2, i88, i87⟩ | ⟨c42, c43, c45, rfl, rfl, ⟨ip2, D2⟩, i88, i87⟩
        · refine ⟨true, true, _, _, _, rfl, rfl, (fun _ z => by cases z), fun _ _ => ?_, (fun z => by cases z)⟩
          rw [rest_star hp hpr c42] at hV KS
          have := pek_in c42 (by decide)
          exact ih (p9.1 + 1) sm (some (fPr pd p9.2)) g2 s2 ty2 (by omega) (by omega) hsm K2 nf2 i88 i87 hV KS
        · refine ⟨true, true, _, _, _, rfl, rfl, (fun _ z => by cases z), fun _ _ => ?_, (fun z => by cases z)⟩
          rw [rest_sum hp hpr c42 c43] at hV KS
          have : p9.1 < n := pek_gt (t := t) (c := 0) (by omega)
          refine ih (p9.1 + 1) (some (if pek t n p9.1 = 43 then 5 else 6, fSm sm (fPr pd p9.2))) none g2 s2 ty2 (by omega) (by omega) ?_ K2 nf2 i88 i87 hV KS
          intro z hz
          simp only [Option.some.injEq] at hz
          rw [← hz]
          dsimp only
          split
          · exact Or.inl rfl
          · exact Or.inr rfl
        · refine ⟨false, true, _, _, _, rfl, rfl, (fun z => by cases z), (fun z => by cases z), fun _ => ?_⟩
          rw [rest_end hpr c42 c43 c45] at KS
          exact KS _ _ _ _ ip2 _ rfl D2 i88 i87
/-- an expression on level L -/
theorem r_sum (B : xCx X w h0 t n hs sg dc tb x sg0) (hZ : xZs X w h0 x V) (hp : pgr n sub) (hL : L ≤ 8) (hbr : br = true ↔ L + 1 < 9) (hsub : br = true → xEL X w h0 t n sub dc x V (L + 1)) : xEL X w h0 t n (pSum t n hs sg br sub) dc x V L := by
  intro H c a s q ty g K han hl h87 h88 hV KS
  rw [pSum_rest] at hV KS
  refine r_F B hZ hp hL hbr hsub hl n a none none g s ty (by omega) han (fun z hz => by cases hz) K nF_rf h88 h87 hV ?_
  intro g' a1 ty' s' ip' f hr D i88 i87
  refine KS g' a1 ty' s' ip' f hr ⟨D.1, ?_, D.2.2.1, D.2.2.2⟩
  intro k j z1 z2 z3
  by_cases z : (k = 87 ∨ k = 88) ∧ j = L
  · obtain ⟨z | z, rfl⟩ := z
    · rw [z, i87, h87]
    · rw [z, i88, h88]
  · exact D.2.1 k j z1 z2 z3 z
theorem r_E (B : xCx X w h0 t n hs sg dc tb x sg0) (hZ : xZs X w h0 x V) : ∀ (b L : Nat), b + L = 8 → xEL X w h0 t n (pE t n hs sg b) dc x V L
  | 0, L, h => r_sum (br := false) (sub := fun _ => none) B hZ (fun a a1 f h => by cases h) (by omega) ⟨(fun z => by cases z), fun z => by omega⟩ (fun z => by cases z)
  | b + 1, L, h => r_sum (br := true) B hZ (pgr_E b) (by omega) ⟨fun _ => by omega, fun _ => rfl⟩ (fun _ => r_E B hZ b (L + 1) (by omega))
end XN
