section XL
variable {X : jX} {w : jW} {h h0 g1 gi gE g g' G : jH} {t : Nat → Nat} {n : Nat} {hs : List (Nat × Nat × Nat)} {dc gd ty ip kp : Bool} {H : Nat → Prop} {L c a a1 s M ow nm k j st kq x : Nat} {tb : List HD} {sg0 sg : Nat} {q : TA} {f f2 : CL} {V : Prop} {sub : Nat → PR}
def clO (p : PR) : CL := match p with
  | none => fun _ _ => none
  | some z => z.2
theorem W_cho (B : xCx X w h0 t n hs sg dc tb x sg0) (hZ : xZs X w h0 x V) (hp : pgr n sub) (hsub : xEL X w h0 t n sub dc x V (L + 1)) (hL : L + 1 < 9) (h40 : pek t n a = 91) (K : xK h0 g dc H L c a q s ty) (hV : bdV t n (pCho t n sub a) → V) (KD : ∀ (g' : jH) (a1 : Nat) (ty' : Bool) (s' : Nat) (ip' : Bool) (f : CL), pCho t n sub a = some (a1, f) → xW h0 g g' dc H L c a1 q f s' ty' ip' → J X w (pv g' a1 true ty') 68 (lvD w x) []) : J X w (pv g a true ty) 48 (lvF w x) [] := by
  obtain ⟨hw, C, hR, hnL, T, S, hn, -⟩ := B
  have han := pek_in h40 (by decide)
  refine g_F C hR hnL (r_bF_open hw T hn (by omega) (Or.inr (Or.inr ⟨h40, rfl⟩)) K) ?_
  intro v h' p
  rw [if_pos hL] at p
  obtain ⟨rfl, rfl⟩ := p
  refine ⟨false, true, _, _, _, rfl, rfl, (fun z => by cases z), (fun _ z => by cases z), fun _ _ => ?_⟩
  have e850 : (opn g (L + 1) (nI 3)).1 85 (L + 1) = 3 := by rw [opn_85]; rfl
  refine hsub H c (a + 1) s q ty _ (opn_K K) (by omega) (Or.inr ⟨0, by rw [opn_86]; rfl, by omega, Or.inr (Or.inr (Or.inl ⟨e850, by omega, (fun z => by omega), (fun z => by omega)⟩))⟩) opn_87 opn_88 ?_ ?_
  · intro z
    refine hV ?_
    unfold pCho
    cases e : sub (a + 1) with
    | none => trivial
    | some p =>
      obtain ⟨a1, f⟩ := p
      rw [e] at z
      simp only [bdV] at z ⊢
      rw [if_neg (by omega)]
      trivial
  intro g' a1 ty' s' ip' f1 hsb W
  have h23 := W.1.2.1
  obtain ⟨hr, ht, hd⟩ := xT_g T W.1.1
  have e86 : g'.1 86 (L + 1) = nI 0 := by rw [W.2.1 86 (L + 1) (by omega) (by omega) (by omega), opn_86]; rfl
  have e85 : g'.1 85 (L + 1) = 3 := by rw [W.2.1 85 (L + 1) (by omega) (by omega) (by omega)]; exact e850
  have e87 : g'.1 87 (L + 1) = 0 := by rw [W.2.1 87 (L + 1) (by omega) (by omega) (by omega), opn_87]
  have e88 : g'.1 88 (L + 1) = 0 := by rw [W.2.1 88 (L + 1) (by omega) (by omega) (by omega), opn_88]
  have sa := W.1.2.2.2.1
  have sd := sD_le (dc := dc) (s := s')
  have ha1 := hp _ _ _ hsb
  obtain ⟨u1, eu1⟩ : ∃ u1 : jH, u1 = (up2 g'.1 86 (L + 1) (nI (0 + 1)), g'.2) := ⟨_, rfl⟩
  have o1 : ∀ {k j : Nat}, ¬ (k = 86 ∧ j = L + 1) → u1.1 k j = g'.1 k j := fun {k j} z => by rw [eu1]; exact up2_n z
  have F1 : xF h0 u1 := by rw [eu1]; exact xF_up W.1.1 (by omega)
  obtain ⟨hr1, ht1, hd1⟩ := xT_g T F1
  have hch0 := r_ch0 (l := jXl X) (dc := dc) (s := s') (M := L + 1) (a := a1) (gd := true) (ty := ty') (ip := ip') hw hr1 ht1 (by omega) hd1 (by rw [o1 (by omega)]; exact W.1.2.2.1) (by omega) (by omega) (by rw [o1 (by omega)]; exact W.2.2.1)
  refine g_S C hR hnL h23 (by omega) (by omega) (r_eS4 hw hr h23 (by omega) e86 e85 (fun v h' z => ⟨true, z.1⟩) (eu1 ▸ hch0)) ?_
  rintro v h' ⟨rfl, rfl⟩
  rw [← eu1]
  by_cases e63 : pek t n a1 = 63
  case neg =>
    have b63 : (true && pek t n a1 == 63) = false := by simp [e63]
    rw [b63, if_neg e63]
    refine ⟨true, false, _, _, _, rfl, rfl, fun _ => ?_, (fun z => by cases z), (fun z => by cases z)⟩
    exact hZ (hV (by unfold pCho; rw [hsb]; simp only; rw [if_neg e63]; trivial)) _ _ _ ⟨ch0_xF F1, sD dc s', ch0_21 (by rw [o1 (by omega)]; exact W.1.2.2.1), by omega⟩ (by omega)
  have b63 : (true && pek t n a1 == 63) = true := by simp [e63]
  rw [b63, if_pos e63]
  have ha1n := pek_in e63 (by decide)
  refine ⟨true, true, _, _, _, rfl, rfl, (fun z => by cases z), (fun _ z => by cases z), fun _ _ => ?_⟩
  obtain ⟨v1, ev1⟩ : ∃ v1 : jH, v1 = ch0 dc u1 (L + 1) s' := ⟨_, rfl⟩
  have q1 : ∀ {k j : Nat}, ¬ (82 ≤ k ∧ k ≤ 84 ∧ j = 780 + s') → ¬ (k = 90 ∧ j = L + 1) → ¬ (k = 70 ∧ j = 21) → ¬ (k = 86 ∧ j = L + 1) → v1.1 k j = g'.1 k j := fun {k j} z1 z2 z3 z4 => by rw [ev1, ch0_o z1 z2 z3, o1 z4]
  have E1 : xE v1 dc (fun p => H p ∨ p = pC1 q f1) c (a1 + 1) (qC1 q f1 (clO (sub (a1 + 1)))) (sD dc s') (ty' && !ip') := xE_ch0 W.1.2.2.2 W.2.2.2 (fun hdc => by
    refine ⟨q1 (by omega) (by omega) (by omega) (by omega), q1 (by omega) (by omega) (by omega) (by omega), fun k j z1 z2 z3 => q1 (by omega) (by omega) (by omega) (by omega), ?_⟩
    rw [ev1, hdc]
    exact emD_82)
  have K1 : xK h0 v1 dc (fun p => H p ∨ p = pC1 q f1) (L + 1) c (a1 + 1) (qC1 q f1 (clO (sub (a1 + 1)))) (sD dc s') (ty' && !ip') := ⟨by rw [ev1]; exact ch0_xF F1, by rw [q1 (by omega) (by omega) (by omega) (by omega)]; exact h23, by rw [ev1]; exact ch0_21 (by rw [o1 (by omega)]; exact W.1.2.2.1), E1⟩
  have v86 : v1.1 86 (L + 1) = nI 1 := by rw [ev1, ch0_o (by omega) (by omega) (by omega), eu1]; dsimp only; rw [up2_s]
  have v85 : v1.1 85 (L + 1) = 3 := by rw [q1 (by omega) (by omega) (by omega) (by omega)]; exact e85
  have v90 : v1.1 90 (L + 1) = nI s' := by rw [ev1]; unfold ch0; rw [emD_o (by omega) (by omega)]; dsimp only; rw [up2_s]
  have v87 : v1.1 87 (L + 1) = 0 := by rw [q1 (by omega) (by omega) (by omega) (by omega)]; exact e87
  have v88 : v1.1 88 (L + 1) = 0 := by rw [q1 (by omega) (by omega) (by omega) (by omega)]; exact e88
  rw [← ev1]
  refine hsub _ c (a1 + 1) _ _ _ _ K1 (by omega) (Or.inr ⟨1, v86, by omega, Or.inr (Or.inr (Or.inl ⟨v85, by omega, (fun _ _ => ⟨s', v90, by omega⟩), (fun z => by omega)⟩))⟩) v87 v88 ?_ ?_
  · intro z
    refine hV ?_
    unfold pCho
    rw [hsb]
    simp only
    rw [if_pos e63]
    cases e : sub (a1 + 1) with
    | none => trivial
    | some p =>
      obtain ⟨a2, f2⟩ := p
      rw [e] at z
      simp only [bdV] at z ⊢
      rw [if_neg (by omega)]
      trivial
  intro g2 a2 ty2 s2 ip2 f2 hsb2 W2
  rw [hsb2] at W2
  have W2 : xW h0 v1 g2 dc (fun p => H p ∨ p = pC1 q f1) (L + 1) c a2 (qC1 q f1 f2) f2 s2 ty2 ip2 := W2
  have h232 := W2.1.2.1
  obtain ⟨hr2, ht2, hd2⟩ := xT_g T W2.1.1
  have w86 : g2.1 86 (L + 1) = nI 1 := by rw [W2.2.1 86 (L + 1) (by omega) (by omega) (by omega)]; exact v86
  have w85 : g2.1 85 (L + 1) = 3 := by rw [W2.2.1 85 (L + 1) (by omega) (by omega) (by omega)]; exact v85
  have w90 : g2.1 90 (L + 1) = nI s' := by rw [W2.2.1 90 (L + 1) (by omega) (by omega) (by omega)]; exact v90
  have w87 : g2.1 87 (L + 1) = 0 := by rw [W2.2.1 87 (L + 1) (by omega) (by omega) (by omega)]; exact v87
  have w88 : g2.1 88 (L + 1) = 0 := by rw [W2.2.1 88 (L + 1) (by omega) (by omega) (by omega)]; exact v88
  have sa2 := W2.1.2.2.2.1
  have sd2 := sD_le (dc := dc) (s := s2)
  have ha2 := hp _ _ _ hsb2
  obtain ⟨u2, eu2⟩ : ∃ u2 : jH, u2 = (up2 g2.1 86 (L + 1) (nI (1 + 1)), g2.2) := ⟨_, rfl⟩
  have o2 : ∀ {k j : Nat}, ¬ (k = 86 ∧ j = L + 1) → u2.1 k j = g2.1 k j := fun {k j} z => by rw [eu2]; exact up2_n z
  have F2 : xF h0 u2 := by rw [eu2]; exact xF_up W2.1.1 (by omega)
  obtain ⟨hr2', ht2', hd2'⟩ := xT_g T F2
  have hch1 := r_ch1 (l := jXl X) (dc := dc) (s := s2) (M := L + 1) (a := a2) (gd := true) (ty := ty2) (ip := ip2) (kq := s') hw hr2' ht2' (by omega) hd2' (by rw [o2 (by omega)]; exact W2.1.2.2.1) (by omega) (by omega) (by rw [o2 (by omega)]; exact W2.2.2.1) (fun _ => by rw [o2 (by omega)]; exact w90) (by omega)
  refine g_S C hR hnL h232 (by omega) (by omega) (r_eS4 hw hr2 h232 (by omega) w86 w85 (fun v h' z => ⟨true, z.1⟩) (eu2 ▸ hch1)) ?_
  rintro v h' ⟨rfl, rfl⟩
  rw [← eu2]
  by_cases e58 : pek t n a2 = 58
  case neg =>
    have b58 : (true && pek t n a2 == 58) = false := by simp [e58]
    rw [b58, if_neg e58]
    refine ⟨true, false, _, _, _, rfl, rfl, fun _ => ?_, (fun z => by cases z), (fun z => by cases z)⟩
    exact hZ (hV (by unfold pCho; rw [hsb]; simp only; rw [if_pos e63, hsb2]; simp only; rw [if_neg e58]; trivial)) _ _ _ ⟨ch1_xF F2, sD dc s2, ch1_21 (by rw [o2 (by omega)]; exact W2.1.2.2.1), by omega⟩ (by omega)
  have b58 : (true && pek t n a2 == 58) = true := by simp [e58]
  rw [b58, if_pos e58]
  have ha2n := pek_in e58 (by decide)
  refine ⟨true, true, _, _, _, rfl, rfl, (fun z => by cases z), (fun _ z => by cases z), fun _ _ => ?_⟩
  obtain ⟨v2, ev2⟩ : ∃ v2 : jH, v2 = ch1 dc u2 (L + 1) s2 s' ip2 := ⟨_, rfl⟩
  have q2 : ∀ {k j : Nat}, ¬ (82 ≤ k ∧ k ≤ 84 ∧ j = 780 + s2) → ¬ ((k = 89 ∨ k = 90) ∧ j = L + 1) → ¬ (k = 70 ∧ j = 21) → ¬ (k = 83 ∧ j = 780 + s') → ¬ (k = 86 ∧ j = L + 1) → v2.1 k j = g2.1 k j := fun {k j} z1 z2 z3 z5 z4 => by rw [ev2, ch1_o z1 z2 z3 z5, o2 z4]
  have E2 : xE v2 dc (fun p => H p ∨ p = pC2 q f1 f2) c (a2 + 1) (qC2 q f1 f2 (clO (sub (a2 + 1)))) (sD dc s2) ty2 := xE_ch1 (kq := s') W2.1.2.2.2 (fun hdc z e1 m1 hq hf => by
      have := W.1.2.2.2.2 hdc
      rw [hq, app_e hf] at this
      exact this.2.2.2.1) (fun hdc => by
    refine ⟨q2 (by omega) (by omega) (by omega) (by omega) (by omega), q2 (by omega) (by omega) (by omega) (by omega) (by omega), fun k j z1 z2 z3 z4 => q2 (by omega) (by omega) (by omega) z4 (by omega), ?_, fun hlt => ?_⟩
    · rw [ev2, hdc]
      exact emD_82
    · rw [ev2, hdc]
      unfold ch1
      rw [emD_o (by omega) (by omega)]
      dsimp only
      rw [up2_n (by omega)]
      unfold ptR
      rw [if_neg (by decide)]
      dsimp only
      rw [up2_s])
  have K2 : xK h0 v2 dc (fun p => H p ∨ p = pC2 q f1 f2) (L + 1) c (a2 + 1) (qC2 q f1 f2 (clO (sub (a2 + 1)))) (sD dc s2) ty2 := ⟨by rw [ev2]; exact ch1_xF F2, by rw [q2 (by omega) (by omega) (by omega) (by omega) (by omega)]; exact h232, by rw [ev2]; exact ch1_21 (by rw [o2 (by omega)]; exact W2.1.2.2.1), E2⟩
  have x86 : v2.1 86 (L + 1) = nI 2 := by rw [ev2, ch1_o (by omega) (by omega) (by omega) (by omega), eu2]; dsimp only; rw [up2_s]
  have x85 : v2.1 85 (L + 1) = 3 := by rw [q2 (by omega) (by omega) (by omega) (by omega) (by omega)]; exact w85
  have x90 : v2.1 90 (L + 1) = nI s2 := by rw [ev2]; unfold ch1; rw [emD_o (by omega) (by omega)]; dsimp only; rw [up2_s]
  have x89 : v2.1 89 (L + 1) = bI ip2 := by rw [ev2]; unfold ch1; rw [emD_o (by omega) (by omega)]; dsimp only; rw [up2_n (by omega), ptR_o (by omega)]; dsimp only; rw [up2_s]
  have x87 : v2.1 87 (L + 1) = 0 := by rw [q2 (by omega) (by omega) (by omega) (by omega) (by omega)]; exact w87
  have x88 : v2.1 88 (L + 1) = 0 := by rw [q2 (by omega) (by omega) (by omega) (by omega) (by omega)]; exact w88
  rw [← ev2]
  refine hsub _ c (a2 + 1) _ _ _ _ K2 (by omega) (Or.inr ⟨2, x86, by omega, Or.inr (Or.inr (Or.inl ⟨x85, by omega, (fun _ _ => ⟨s2, x90, by omega⟩), (fun _ => ⟨ip2, x89⟩)⟩))⟩) x87 x88 ?_ ?_
  · intro z
    refine hV ?_
    unfold pCho
    rw [hsb]
    simp only
    rw [if_pos e63, hsb2]
    simp only
    rw [if_pos e58]
    cases e : sub (a2 + 1) with
    | none => trivial
    | some p =>
      obtain ⟨a3, f3⟩ := p
      rw [e] at z
      simp only [bdV] at z ⊢
      rw [if_neg (by omega)]
      trivial
  intro g3 a3 ty3 s3 ip3 f3 hsb3 W3
  rw [hsb3] at W3
  have W3 : xW h0 v2 g3 dc (fun p => H p ∨ p = pC2 q f1 f2) (L + 1) c a3 (qC2 q f1 f2 f3) f3 s3 ty3 ip3 := W3
  have h233 := W3.1.2.1
  obtain ⟨hr3, ht3, hd3⟩ := xT_g T W3.1.1
  have y86 : g3.1 86 (L + 1) = nI 2 := by rw [W3.2.1 86 (L + 1) (by omega) (by omega) (by omega)]; exact x86
  have y85 : g3.1 85 (L + 1) = 3 := by rw [W3.2.1 85 (L + 1) (by omega) (by omega) (by omega)]; exact x85
  have y90 : g3.1 90 (L + 1) = nI s2 := by rw [W3.2.1 90 (L + 1) (by omega) (by omega) (by omega)]; exact x90
  have y89 : g3.1 89 (L + 1) = bI ip2 := by rw [W3.2.1 89 (L + 1) (by omega) (by omega) (by omega)]; exact x89
  have sa3 := W3.1.2.2.2.1
  have ha3 := hp _ _ _ hsb3
  obtain ⟨u3, eu3⟩ : ∃ u3 : jH, u3 = (up2 g3.1 86 (L + 1) (nI (2 + 1)), g3.2) := ⟨_, rfl⟩
  have o3 : ∀ {k j : Nat}, ¬ (k = 86 ∧ j = L + 1) → u3.1 k j = g3.1 k j := fun {k j} z => by rw [eu3]; exact up2_n z
  have F3 : xF h0 u3 := by rw [eu3]; exact xF_up W3.1.1 (by omega)
  obtain ⟨hr3', ht3', hd3'⟩ := xT_g T F3
  have eG : pCho t n sub a = if pek t n a3 = 93 then some (a3 + 1, choC f1 f2 f3) else none := by unfold pCho; rw [hsb]; simp only; rw [if_pos e63, hsb2]; simp only; rw [if_pos e58, hsb3]; rfl
  have hch2 := r_ch2 (l := jXl X) (dc := dc) (s := s3) (M := L + 1) (a := a3) (gd := true) (ty := ty3) (ip := ip3) (kp := ip2) (kq := s2) hw hr3' ht3' (by omega) hd3' (by rw [o3 (by omega)]; exact W3.1.2.2.1) (by omega) (by omega) (by rw [o3 (by omega)]; exact h233) (by rw [o3 (by omega)]; exact W3.2.2.1) (by rw [o3 (by omega)]; exact y89) (fun _ => by rw [o3 (by omega)]; exact y90) (by omega)
  refine g_S C hR hnL h233 (by omega) (by omega) (r_eS4 hw hr3 h233 (by omega) y86 y85 (fun v h' z => ⟨false, z.1⟩) (eu3 ▸ hch2)) ?_
  rintro v h' ⟨rfl, rfl⟩
  rw [← eu3]
  by_cases e93 : pek t n a3 = 93
  case neg =>
    have b93 : (true && pek t n a3 == 93) = false := by simp [e93]
    rw [b93, if_neg e93]
    refine ⟨false, false, _, _, _, rfl, rfl, fun _ => ?_, (fun z => by cases z), (fun z => by cases z)⟩
    exact hZ (hV (by rw [eG, if_neg e93]; trivial)) _ _ _ ⟨ch2_xF F3, s3, by rw [ch2_o (by omega) (by omega), o3 (by omega)]; exact W3.1.2.2.1, by omega⟩ (by omega)
  have b93 : (true && pek t n a3 == 93) = true := by simp [e93]
  rw [b93, if_pos e93]
  refine ⟨false, true, _, _, _, rfl, rfl, (fun z => by cases z), fun _ _ => ?_, (fun _ z => by cases z)⟩
  obtain ⟨E3, T3⟩ := xE_ch2 (g' := ch2 dc u3 (L + 1) s3 s2 ip2) (kq := s2) W3.1.2.2.2 W3.2.2.2 W2.2.2.2 (fun hdc z e1 m1 y e2 m2 hq hf hf2 => by
      have := W2.1.2.2.2.2 hdc
      rw [hq, qC1_e hf] at this
      have el : (z.1 ++ (e1 ++ [(11, z.1.length + e1.length + 1 + tl (f2 (z.1.length + e1.length + 1) z.2.2) + 1, z.2.2, 1)])).length = z.1.length + e1.length + 1 := by simp; omega
      rw [app_e (by dsimp only; rw [el]; exact hf2), hf2] at this
      exact this.2.2.2.1) (fun hdc => by
    refine ⟨by rw [ch2_o (by omega) (by omega), o3 (by omega)], by rw [ch2_o (by omega) (by omega), o3 (by omega)], fun k j z1 z2 z3 => by rw [ch2_o (by omega) z3, o3 (by omega)], ?_⟩
    rw [hdc]
    unfold ch2
    dsimp only
    rw [up2_n (by omega)]
    unfold ptR
    rw [if_neg (by decide)]
    dsimp only
    rw [up2_s])
  refine KD _ (a3 + 1) _ s3 ip2 (choC f1 f2 f3) (by rw [eG, if_pos e93]) ⟨⟨ch2_xF F3, by unfold ch2; dsimp only; rw [up2_s], by rw [ch2_o (by omega) (by omega), o3 (by omega)]; exact W3.1.2.2.1, E3⟩, ?_, by unfold ch2; dsimp only; rw [up2_n (by omega), ptR_o (by omega)]; dsimp only; rw [up2_s], T3⟩
  intro k j z1 z2 z3
  rw [ch2_o (by omega) (by omega), o3 (by omega), W3.2.1 k j z1 z2 (by omega), q2 (by omega) (by omega) (by omega) (by omega) (by omega), W2.2.1 k j z1 z2 (by omega), q1 (by omega) (by omega) (by omega) (by omega), W.2.1 k j z1 z2 (by omega), opn_o (by omega) (by omega)]
end XL
