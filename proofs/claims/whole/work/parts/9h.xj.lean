/-- what a walk of readExpression knows -/
def xCx (X : jX) (w : jW) (h0 : jH) (t : Nat → Nat) (n : Nat) (hs : List (Nat × Nat × Nat)) (sg : Nat) (dc : Bool) (tb : List HD) (x sg0 : Nat) : Prop := jok w ∧ jC X w cX5_readExpression RX5 ∧ jXR X = jrm 5 ∧ (jXc X).maxLocals = 4 ∧ xT h0 t n dc ∧ xS h0 tb x sg0 ∧ n ≤ 120 ∧ (dc = false → sg = sg0 ∧ hs = tb.map h3 ∧ dst tb)
def xZs (X : jX) (w : jW) (h0 : jH) (x : Nat) (V : Prop) : Prop := V → ∀ (g' : jH) (a' : Nat) (ty' : Bool), xZ h0 g' → a' ≤ 300 → J X w (pv g' a' false ty') 112 (lvZ w x) []
/-- an expression on level L is read as sub says -/
def xEL (X : jX) (w : jW) (h0 : jH) (t : Nat → Nat) (n : Nat) (sub : Nat → PR) (dc : Bool) (x : Nat) (V : Prop) (L : Nat) : Prop := ∀ (H : Nat → Prop) (c a s : Nat) (q : TA) (ty : Bool) (g : jH), xK h0 g dc H L c a q s ty → a ≤ n → lok g dc L → g.1 87 L = 0 → g.1 88 L = 0 → (bdV t n (sub a) → V) → (∀ (g' : jH) (a1 : Nat) (ty' : Bool) (s' : Nat) (ip' : Bool) (f : CL), sub a = some (a1, f) → xW h0 g g' dc H L c a1 q f s' ty' ip' → J X w (pv g' a1 true ty') 80 (lvD w x) []) → J X w (pv g a true ty) 48 (lvF w x) []
section XJ
variable {X : jX} {w : jW} {h h0 g1 gi gE g g' G : jH} {t : Nat → Nat} {n : Nat} {hs : List (Nat × Nat × Nat)} {dc gd ty ip kp : Bool} {H : Nat → Prop} {L c a a1 s M ow nm k j st kq x : Nat} {tb : List HD} {sg0 sg : Nat} {q : TA} {f f2 : CL} {V : Prop} {sub : Nat → PR}
theorem opn_K {kd : Int32} (K : xK h0 g dc H L c a q s ty) : xK h0 (opn g (L + 1) kd) dc H (L + 1) c (a + 1) q s ty := ⟨opn_xF K.1, opn_23, by rw [opn_o (by omega) (by omega)]; exact K.2.2.1, xE_same (opn_o (by omega) (by omega)) (opn_o (by omega) (by omega)) (fun k j x y => opn_o (by omega) (by omega)) (by omega) (by omega) K.2.2.2⟩
theorem opn_lF {kd : Int32} : lF L g (opn g (L + 1) kd) := fun k j x y z => opn_o (by omega) (by omega)
theorem lF_le {L' : Nat} (h : L ≤ L') (F : lF L' g g') : lF L g g' := fun k j x y z => F k j x y (by omega)
theorem xW_dn {a' : Nat} (W : xW h0 gi g' dc H (L + 1) c a1 q f s ty ip) (hlf : lF L g gi) (F : xF h0 G) (h23 : G.1 70 23 = nI (L + 1)) (h21 : G.1 70 21 = g'.1 70 21) (h31 : G.1 70 31 = g'.1 70 31) (h32 : G.1 70 32 = g'.1 70 32) (h33 : G.1 70 33 = g'.1 70 33) (hc : ∀ k j, 82 ≤ k → k ≤ 84 → G.1 k j = g'.1 k j) (hl : lF L g' G) (ha : a1 ≤ a') : xW h0 g G dc H L c a' q f s ty ip := ⟨⟨F, h23, by rw [h21]; exact W.1.2.2.1, xE_same h31 h32 hc ha (by omega) W.1.2.2.2⟩, lF_tr hlf (lF_tr (lF_le (by omega) W.2.1) hl), by rw [h33]; exact W.2.2.1, W.2.2.2⟩
theorem W_grp (B : xCx X w h0 t n hs sg dc tb x sg0) (hZ : xZs X w h0 x V) (hp : pgr n sub) (hsub : xEL X w h0 t n sub dc x V (L + 1)) (hL : L + 1 < 9) (h40 : pek t n a = 40) (K : xK h0 g dc H L c a q s ty) (hV : bdV t n (pGrp t n sub a) → V) (KD : ∀ (g' : jH) (a1 : Nat) (ty' : Bool) (s' : Nat) (ip' : Bool) (f : CL), pGrp t n sub a = some (a1, f) → xW h0 g g' dc H L c a1 q f s' ty' ip' → J X w (pv g' a1 true ty') 68 (lvD w x) []) : J X w (pv g a true ty) 48 (lvF w x) [] := by
  obtain ⟨hw, C, hR, hnL, T, S, hn, -⟩ := B
  have han := pek_in h40 (by decide)
  refine g_F C hR hnL (r_bF_open hw T hn (by omega) (Or.inl ⟨h40, rfl⟩) K) ?_
  intro v h' p
  rw [if_pos hL] at p
  obtain ⟨rfl, rfl⟩ := p
  refine ⟨false, true, _, _, _, rfl, rfl, (fun z => by cases z), (fun _ z => by cases z), fun _ _ => ?_⟩
  refine hsub H c (a + 1) s q ty _ (opn_K K) (by omega) (Or.inr ⟨0, by rw [opn_86]; rfl, by omega, Or.inl (by rw [opn_85]; rfl)⟩) opn_87 opn_88 ?_ ?_
  · intro z
    refine hV ?_
    unfold pGrp
    cases e : sub (a + 1) with
    | none => trivial
    | some p =>
      obtain ⟨a1, f⟩ := p
      rw [e] at z
      simp only [bdV] at z ⊢
      rw [if_neg (by omega)]
      trivial
  · intro g' a1 ty' s' ip' f hsb W
    have h23 := W.1.2.1
    obtain ⟨hr, ht, hd⟩ := xT_g T W.1.1
    have e86 : g'.1 86 (L + 1) = nI 0 := by rw [W.2.1 86 (L + 1) (by omega) (by omega) (by omega), opn_86]; rfl
    have e85 : g'.1 85 (L + 1) = 1 := by rw [W.2.1 85 (L + 1) (by omega) (by omega) (by omega), opn_85]; rfl
    have sa := W.1.2.2.2.1
    have ha1 := hp _ _ _ hsb
    have eG : pGrp t n sub a = if pek t n a1 = 41 then some (a1 + 1, f) else none := by unfold pGrp; rw [hsb]
    refine g_S C hR hnL h23 (by omega) (by omega) (r_eS1 hw hr ht (by omega) h23 (by omega) e86 e85) ?_
    rintro v h' ⟨rfl, rfl⟩
    by_cases e41 : pek t n a1 = 41
    · have b41 : (true && pek t n a1 == 41) = true := by simp [e41]
      rw [b41, if_pos e41]
      refine ⟨false, true, _, _, _, rfl, rfl, (fun z => by cases z), fun _ _ => ?_, (fun _ z => by cases z)⟩
      refine KD _ (a1 + 1) ty' s' ip' f (by rw [eG, if_pos e41]) (xW_dn W opn_lF (xF_up (xF_up W.1.1 (by omega)) (by omega)) (by dsimp only; rw [up2_s]) ?_ ?_ ?_ ?_ ?_ ?_ (by omega))
      · dsimp only; rw [up2_n (by omega), up2_n (by omega)]
      · dsimp only; rw [up2_n (by omega), up2_n (by omega)]
      · dsimp only; rw [up2_n (by omega), up2_n (by omega)]
      · dsimp only; rw [up2_n (by omega), up2_n (by omega)]
      · intro k j z1 z2; dsimp only; rw [up2_n (by omega), up2_n (by omega)]
      · intro k j z1 z2 z3; dsimp only; rw [up2_n (by omega), up2_n (by omega)]
    · have b41 : (true && pek t n a1 == 41) = false := by simp [e41]
      rw [b41, if_neg e41]
      refine ⟨false, false, _, _, _, rfl, rfl, fun _ => ?_, (fun z => by cases z), (fun z => by cases z)⟩
      exact hZ (hV (by rw [eG, if_neg e41]; trivial)) _ _ _ ⟨xF_up (xF_up W.1.1 (by omega)) (by omega), s', by dsimp only; rw [up2_n (by omega), up2_n (by omega)]; exact W.1.2.2.1, by omega⟩ (by omega)
theorem W_pair (B : xCx X w h0 t n hs sg dc tb x sg0) (hZ : xZs X w h0 x V) (hp : pgr n sub) (hsub : xEL X w h0 t n sub dc x V (L + 1)) (hL : L + 1 < 9) (h40 : pek t n a = 123) (K : xK h0 g dc H L c a q s ty) (hV : bdV t n (pPair t n sub a) → V) (KD : ∀ (g' : jH) (a1 : Nat) (ty' : Bool) (s' : Nat) (ip' : Bool) (f : CL), pPair t n sub a = some (a1, f) → xW h0 g g' dc H L c a1 q f s' ty' ip' → J X w (pv g' a1 true ty') 68 (lvD w x) []) : J X w (pv g a true ty) 48 (lvF w x) [] := by
  obtain ⟨hw, C, hR, hnL, T, S, hn, -⟩ := B
  have han := pek_in h40 (by decide)
  refine g_F C hR hnL (r_bF_open hw T hn (by omega) (Or.inr (Or.inl ⟨h40, rfl⟩)) K) ?_
  intro v h' p
  rw [if_pos hL] at p
  obtain ⟨rfl, rfl⟩ := p
  refine ⟨false, true, _, _, _, rfl, rfl, (fun z => by cases z), (fun _ z => by cases z), fun _ _ => ?_⟩
  have e850 : (opn g (L + 1) (nI 2)).1 85 (L + 1) = 2 := by rw [opn_85]; rfl
  refine hsub H c (a + 1) s q ty _ (opn_K K) (by omega) (Or.inr ⟨0, by rw [opn_86]; rfl, by omega, Or.inr (Or.inl ⟨e850, by omega⟩)⟩) opn_87 opn_88 ?_ ?_
  · intro z
    refine hV ?_
    unfold pPair
    cases e : sub (a + 1) with
    | none => trivial
    | some p =>
      obtain ⟨a1, f⟩ := p
      rw [e] at z
      simp only [bdV] at z ⊢
      rw [if_neg (by omega)]
      trivial
  · intro g' a1 ty' s' ip' f hsb W
    have h23 := W.1.2.1
    obtain ⟨hr, ht, hd⟩ := xT_g T W.1.1
    have e86 : g'.1 86 (L + 1) = nI 0 := by rw [W.2.1 86 (L + 1) (by omega) (by omega) (by omega), opn_86]; rfl
    have e85 : g'.1 85 (L + 1) = 2 := by rw [W.2.1 85 (L + 1) (by omega) (by omega) (by omega)]; exact e850
    have e87 : g'.1 87 (L + 1) = 0 := by rw [W.2.1 87 (L + 1) (by omega) (by omega) (by omega), opn_87]
    have e88 : g'.1 88 (L + 1) = 0 := by rw [W.2.1 88 (L + 1) (by omega) (by omega) (by omega), opn_88]
    have sa := W.1.2.2.2.1
    have ha1 := hp _ _ _ hsb
    refine g_S C hR hnL h23 (by omega) (by omega) (r_eS2 hw hr ht (by omega) h23 (by omega) e86 e85 W.2.2.1) ?_
    rintro v h' ⟨rfl, rfl⟩
    by_cases e44 : pek t n a1 = 44
    · have b44 : (true && pek t n a1 == 44) = true := by simp [e44]
      rw [b44, if_pos e44]
      have ha1n := pek_in e44 (by decide)
      refine ⟨true, true, _, _, _, rfl, rfl, (fun z => by cases z), (fun _ z => by cases z), fun _ _ => ?_⟩
      have E2 : xE (e2R g' (L + 1)) dc H (c + 1) (a1 + 1) (hq1 q f) s' (ty' && !ip') := xE_hold (by omega) W.1.2.2.2 W.2.2.2 (fun _ => by
        refine ⟨?_, ?_, fun k j z1 z2 z3 => e2R_o (by omega) (by omega)⟩
        · unfold e2R; dsimp only; rw [up2_n (by omega), up2_n (by omega), grw_31]; dsimp only; rw [up2_n (by omega)]
        · unfold e2R; dsimp only; rw [up2_n (by omega), up2_n (by omega), grw_32]; dsimp only; simp only [show up2 g'.1 86 (L + 1) 1 70 31 = g'.1 70 31 from up2_n (by omega), show up2 g'.1 86 (L + 1) 1 70 32 = g'.1 70 32 from up2_n (by omega)])
      have K2 : xK h0 (e2R g' (L + 1)) dc H (L + 1) c (a1 + 1) (hq1 q f) s' (ty' && !ip') := ⟨e2R_xF W.1.1, by unfold e2R; dsimp only; rw [up2_s], by rw [e2R_o (by omega) (by omega)]; exact W.1.2.2.1, xE_same rfl rfl (fun _ _ _ _ => rfl) (Nat.le_refl _) (by omega) E2⟩
      refine hsub H c (a1 + 1) s' (hq1 q f) _ _ K2 (by omega) (Or.inr ⟨1, ?_, by omega, Or.inr (Or.inl ⟨by rw [e2R_o (by omega) (by omega)]; exact e85, by omega⟩)⟩) (by rw [e2R_o (by omega) (by omega)]; exact e87) (by rw [e2R_o (by omega) (by omega)]; exact e88) ?_ ?_
      · unfold e2R; dsimp only; rw [up2_n (by omega), up2_n (by omega), grw_o (by omega)]; dsimp only; rw [up2_s]; rfl
      · intro z
        refine hV ?_
        unfold pPair
        rw [hsb]
        simp only
        rw [if_pos e44]
        cases e : sub (a1 + 1) with
        | none => trivial
        | some p =>
          obtain ⟨a2, f2⟩ := p
          rw [e] at z
          simp only [bdV] at z ⊢
          rw [if_neg (by omega)]
          trivial
      · intro g2 a2 ty2 s2 ip2 f2 hsb2 W2
        have h232 := W2.1.2.1
        obtain ⟨hr2, ht2, hd2⟩ := xT_g T W2.1.1
        have e86' : g2.1 86 (L + 1) = nI 1 := by
          rw [W2.2.1 86 (L + 1) (by omega) (by omega) (by omega)]
          unfold e2R; dsimp only; rw [up2_n (by omega), up2_n (by omega), grw_o (by omega)]; dsimp only; rw [up2_s]; rfl
        have e85' : g2.1 85 (L + 1) = 2 := by rw [W2.2.1 85 (L + 1) (by omega) (by omega) (by omega), e2R_o (by omega) (by omega)]; exact e85
        have sa2 := W2.1.2.2.2.1
        have ha2 := hp _ _ _ hsb2
        have eG : pPair t n sub a = if pek t n a2 = 125 then some (a2 + 1, opC 8 f f2) else none := by unfold pPair; rw [hsb]; simp only; rw [if_pos e44, hsb2]; rfl
        refine g_S C hR hnL h232 (by omega) (by omega) (r_eS3 hw hr2 ht2 (by omega) h232 (by omega) e86' e85' W2.2.2.1) ?_
        rintro v h' ⟨rfl, rfl⟩
        by_cases e125 : pek t n a2 = 125
        · have b125 : (true && pek t n a2 == 125) = true := by simp [e125]
          rw [b125, if_pos e125]
          refine ⟨false, true, _, _, _, rfl, rfl, (fun z => by cases z), fun _ _ => ?_, (fun _ z => by cases z)⟩
          obtain ⟨E3, T3⟩ := xE_pair (g' := e3R g2 (L + 1)) W2.1.2.2.2 W2.2.2.2 (fun _ => by
            refine ⟨?_, e3R_o (by omega) (by omega), fun k j z1 z2 z3 => e3R_o (by omega) (by omega)⟩
            unfold e3R; dsimp only; rw [up2_n (by omega), up2_n (by omega), up2_s])
          refine KD _ (a2 + 1) _ s2 true (opC 8 f f2) (by rw [eG, if_pos e125]) ⟨⟨e3R_xF W2.1.1, by unfold e3R; dsimp only; rw [up2_s], by rw [e3R_o (by omega) (by omega)]; exact W2.1.2.2.1, E3⟩, ?_, by unfold e3R; dsimp only; rw [up2_n (by omega), up2_s]; rfl, fun hdc y hy => by rw [T3 hdc y hy]; exact ⟨Or.inr rfl, rfl⟩⟩
          intro k j z1 z2 z3
          rw [e3R_o (by omega) (by omega), W2.2.1 k j z1 z2 (by omega), e2R_o (by omega) (by omega), W.2.1 k j z1 z2 (by omega), opn_o (by omega) (by omega)]
        · have b125 : (true && pek t n a2 == 125) = false := by simp [e125]
          rw [b125, if_neg e125]
          refine ⟨false, false, _, _, _, rfl, rfl, fun _ => ?_, (fun z => by cases z), (fun z => by cases z)⟩
          exact hZ (hV (by rw [eG, if_neg e125]; trivial)) _ _ _ ⟨e3R_xF W2.1.1, s2, by rw [e3R_o (by omega) (by omega)]; exact W2.1.2.2.1, by omega⟩ (by omega)
    · have b44 : (true && pek t n a1 == 44) = false := by simp [e44]
      rw [b44, if_neg e44]
      refine ⟨true, false, _, _, _, rfl, rfl, fun _ => ?_, (fun z => by cases z), (fun z => by cases z)⟩
      exact hZ (hV (by unfold pPair; rw [hsb]; simp only; rw [if_neg e44]; trivial)) _ _ _ ⟨e2R_xF W.1.1, s', by rw [e2R_o (by omega) (by omega)]; exact W.1.2.2.1, by omega⟩ (by omega)
end XJ
