section X6
variable {l : Launch} {w : jW} {h0 g1 gE g g' : jH} {t : Nat → Nat} {n : Nat} {dc gd ty ip : Bool} {H : Nat → Prop} {L c a s : Nat} {q : TA} {f f2 : CL} {e : List Ev} {x y : Int32}
theorem xE_same {c' a' : Nat} (h31 : g'.1 70 31 = g.1 70 31) (h32 : g'.1 70 32 = g.1 70 32) (hc : ∀ k j, 82 ≤ k → k ≤ 84 → g'.1 k j = g.1 k j) (ha : a ≤ a') (hca : c' + a ≤ c + a') (E : xE g dc H c a q s ty) : xE g' dc H c' a' q s ty := by
  refine ⟨by have := E.1; omega, fun hdc => ?_⟩
  have E2 := E.2 hdc
  cases q with
  | none => exact E2
  | some z =>
    obtain ⟨e1, e2, e3, e4, e5, e6, e7⟩ := E2
    exact ⟨e1, by rw [h31]; exact e2, by rw [h32]; exact e3, e4, by omega, by omega, rR_keep (fun k j x y _ => hc k j x y) e7⟩
theorem xK_mono {c' a' : Nat} (ha : a ≤ a') (hca : c' + a ≤ c + a') (K : xK h0 g dc H L c a q s ty) : xK h0 g dc H L c' a' q s ty := ⟨K.1, K.2.1, K.2.2.1, xE_same rfl rfl (fun _ _ _ _ => rfl) ha hca K.2.2.2⟩
theorem xK_lv {k j : Nat} {v : Int32} (hk : (85 ≤ k ∧ k ≤ 91) ∨ (k = 70 ∧ j = 33)) (K : xK h0 g dc H L c a q s ty) : xK h0 (up2 g.1 k j v, g.2) dc H L c a q s ty := ⟨xF_up K.1 (by omega), by dsimp only; rw [up2_n (by omega)]; exact K.2.1, by dsimp only; rw [up2_n (by omega)]; exact K.2.2.1, xE_same (by dsimp only; rw [up2_n (by omega)]) (by dsimp only; rw [up2_n (by omega)]) (fun k' j' x y => by dsimp only; rw [up2_n (by omega)]) (Nat.le_refl _) (Nat.le_refl _) K.2.2.2⟩
theorem xD_lv {k : Nat} {v : Int32} (hk : k = 87 ∨ k = 88) (D : xD h0 gE g dc H L c a q f s ty ip) : xD h0 gE (up2 g.1 k L v, g.2) dc H L c a q f s ty ip := ⟨xK_lv (by omega) D.1, nF_up D.2.1 (by omega), by dsimp only; rw [up2_n (by omega)]; exact D.2.2.1, D.2.2.2⟩
theorem xB_lv {k : Nat} {v : Int32} (hk : k = 87 ∨ k = 88) (D : xB h0 gE g L s) : xB h0 gE (up2 g.1 k L v, g.2) L s := ⟨xF_up D.1 (by omega), nF_up D.2.1 (by omega), by dsimp only; rw [up2_n (by omega)]; exact D.2.2.1, by dsimp only; rw [up2_n (by omega)]; exact D.2.2.2.1, by obtain ⟨i, hi⟩ := D.2.2.2.2; exact ⟨i, by dsimp only; rw [up2_n (by omega)]; exact hi⟩⟩
theorem tyq_prj {k y : Nat} (h : tyq q (fun bs hd => tPrj k hd (f bs hd)) = some y) : y = 1 := by
  unfold tyq at h
  cases q with
  | none => cases h
  | some z =>
    simp only at h
    split at h
    · cases h
    · next r hr =>
      simp only [Option.some.injEq] at h
      unfold tPrj at hr
      split at hr
      · simp only [Option.some.injEq] at hr; rw [← h, ← hr]
      · cases hr
theorem tyq_op {k y : Nat} (hk : k ≠ 8) (h : tyq q (opC k f f2) = some y) : y = 1 := by
  unfold tyq opC at h
  cases q with
  | none => cases h
  | some z =>
    simp only at h
    split at h
    · cases h
    · next r hr =>
      simp only [Option.some.injEq] at h
      unfold tOp at hr
      split at hr
      · simp only [Option.some.injEq] at hr; rw [← h, ← hr, if_neg hk]
      · cases hr
theorem prR_o {k j : Nat} {kr : Int32} (h : ¬ (82 ≤ k ∧ k ≤ 84 ∧ j = 780 + s)) (h2 : ¬ (k = 70 ∧ (j = 21 ∨ j = 33))) : (prR dc g s kr).1 k j = g.1 k j := by
  show up2 (emD dc g s kr 0).1 70 33 0 k j = _
  rw [up2_n (by omega), emD_o (by omega) (by omega)]
theorem opR_o {k j : Nat} {kr : Int32} (h : ¬ (82 ≤ k ∧ k ≤ 84 ∧ j = 780 + s)) (h2 : ¬ (k = 70 ∧ (j = 21 ∨ j = 33 ∨ j = 31))) : (opR dc g s kr).1 k j = g.1 k j := by
  show up2 (emD dc (up2 g.1 70 31 (g.1 70 31 - 1), g.2) s kr 0).1 70 33 0 k j = _
  rw [up2_n (by omega), emD_o (by omega) (by omega)]
  dsimp only
  rw [up2_n (by omega)]
theorem grw_o {k j : Nat} {v : Int32} (h2 : ¬ (k = 70 ∧ (j = 31 ∨ j = 32))) : (grw g v).1 k j = g.1 k j := by
  show up2 (up2 g.1 70 31 _) 70 32 _ k j = _
  rw [up2_n (by omega), up2_n (by omega)]
theorem prR_33 {kr : Int32} : (prR dc g s kr).1 70 33 = bI false := by unfold prR; dsimp only; rw [up2_s]; rfl
theorem opR_33 {kr : Int32} : (opR dc g s kr).1 70 33 = bI false := by unfold opR; dsimp only; rw [up2_s]; rfl
theorem grw_31 {v : Int32} : (grw g v).1 70 31 = g.1 70 31 + v := by unfold grw; dsimp only; rw [up2_n (by omega), up2_s]
theorem grw_32 {v : Int32} : (grw g v).1 70 32 = (if g.1 70 31 + v ≤ g.1 70 32 then g.1 70 32 else g.1 70 31 + v) := by unfold grw; dsimp only; rw [up2_s]
theorem prR_2 {kr : Int32} : (prR dc g s kr).2 = g.2 := emD_ref
theorem opR_2 {kr : Int32} : (opR dc g s kr).2 = g.2 := emD_ref
theorem prR_xF {kr : Int32} (F : xF h0 g) : xF h0 (prR dc g s kr) := xF_up (xF_emD F) (by omega)
theorem opR_xF {kr : Int32} (F : xF h0 g) : xF h0 (opR dc g s kr) := xF_up (xF_emD (xF_up F (by omega))) (by omega)
theorem grw_xF {v : Int32} (F : xF h0 g) : xF h0 (grw g v) := ⟨F.1, fun k j z => by rw [grw_o (by omega)]; exact F.2 k j z⟩
theorem prR_nF {kr : Int32} (F : nF L gE g) : nF L gE (prR dc g s kr) := nF_up (nF_emD F) (by omega)
theorem opR_nF {kr : Int32} (F : nF L gE g) : nF L gE (opR dc g s kr) := nF_up (nF_emD (nF_up F (by omega))) (by omega)
theorem grw_nF {v : Int32} (F : nF L gE g) : nF L gE (grw g v) := fun k j a b c d => by rw [grw_o (by omega)]; exact F k j a b c d
theorem prR_21 {kr : Int32} (hs : g.1 70 21 = nI s) : (prR dc g s kr).1 70 21 = nI (sD dc s) := by
  show up2 (emD dc g s kr 0).1 70 33 0 70 21 = _
  rw [up2_n (by omega)]; exact emD_21 hs
theorem opR_21 {kr : Int32} (hs : g.1 70 21 = nI s) : (opR dc g s kr).1 70 21 = nI (sD dc s) := by
  show up2 (emD dc (up2 g.1 70 31 (g.1 70 31 - 1), g.2) s kr 0).1 70 33 0 70 21 = _
  rw [up2_n (by omega)]; exact emD_21 (by dsimp only; rw [up2_n (by omega)]; exact hs)
theorem xD_prj {k : Nat} {kr : Int32} (hk : (k = 9 ∧ kr = 6) ∨ (k = 10 ∧ kr = 7)) (D : xD h0 gE g dc H L c a q f s ty ip) : xD h0 gE (prR dc g s kr) dc H L c (a + 2) q (fun bs hd => tPrj k hd (f bs hd)) (sD dc s) (ty && ip) false := by
  obtain ⟨⟨F, o, sg, E⟩, m, i, T⟩ := D
  refine ⟨⟨prR_xF F, by rw [prR_o (by omega) (by omega)]; exact o, prR_21 sg, xE_prj hk E T ?_⟩, prR_nF m, by show up2 (emD dc g s kr 0).1 70 33 0 70 33 = _; rw [up2_s]; rfl, fun _ y hy => by rw [tyq_prj hy]; exact ⟨Or.inl rfl, rfl⟩⟩
  intro hdc
  subst hdc
  refine ⟨prR_o (by omega) (by omega), prR_o (by omega) (by omega), fun k j x y z => prR_o (by omega) (by omega), ?_, ?_⟩
  · show up2 (emD false g s kr 0).1 70 33 0 82 (780 + s) = _
    rw [up2_n (by omega)]; exact emD_82
  · show up2 (emD false g s kr 0).1 70 33 0 83 (780 + s) = _
    rw [up2_n (by omega)]; exact emD_83
theorem xD_op {k : Nat} {kr : Int32} (hk : (k = 5 ∧ kr = 3) ∨ (k = 6 ∧ kr = 4) ∨ (k = 7 ∧ kr = 5)) (D : xD h0 gE g dc H L (c + 1) a (hq1 q f) f2 s ty ip) : xD h0 gE (opR dc g s kr) dc H L c a q (opC k f f2) (sD dc s) (ty && !ip) false := by
  obtain ⟨⟨F, o, sg, E⟩, m, i, T⟩ := D
  refine ⟨⟨opR_xF F, by rw [opR_o (by omega) (by omega)]; exact o, opR_21 sg, xE_op hk E T ?_⟩, opR_nF m, opR_33, fun _ y hy => by rw [tyq_op (by omega) hy]; exact ⟨Or.inl rfl, rfl⟩⟩
  intro hdc
  subst hdc
  refine ⟨?_, opR_o (by omega) (by omega), fun k j x y z => opR_o (by omega) (by omega), ?_, ?_⟩
  · show up2 (emD false (up2 g.1 70 31 (g.1 70 31 - 1), g.2) s kr 0).1 70 33 0 70 31 = _
    rw [up2_n (by omega), emD_o (by omega) (by omega)]; simp [up2]
  · show up2 (emD false (up2 g.1 70 31 (g.1 70 31 - 1), g.2) s kr 0).1 70 33 0 82 (780 + s) = _
    rw [up2_n (by omega)]; exact emD_82
  · show up2 (emD false (up2 g.1 70 31 (g.1 70 31 - 1), g.2) s kr 0).1 70 33 0 83 (780 + s) = _
    rw [up2_n (by omega)]; exact emD_83
theorem xD_keep (ha : a ≤ 1000) (D : xD h0 gE g dc H L c a q f s ty ip) : xK h0 (grw g 1) dc H L (c + 1) (a + 1) (hq1 q f) s (ty && !ip) ∧ nF L gE (grw g 1) := by
  obtain ⟨⟨F, o, sg, E⟩, m, i, T⟩ := D
  exact ⟨⟨grw_xF F, by rw [grw_o (by omega)]; exact o, by rw [grw_o (by omega)]; exact sg, xE_hold ha E T (fun _ => ⟨grw_31, grw_32, fun k j x y z => grw_o (by omega)⟩)⟩, grw_nF m⟩
theorem xB_of (D : xD h0 gE g dc H L c a q f s ty ip) : xB h0 gE g L s := ⟨D.1.1, D.2.1, D.1.2.1, D.1.2.2.1, ip, D.2.2.1⟩
theorem xB_op {kr : Int32} (B : xB h0 gE g L s) : xB h0 gE (opR dc g s kr) L (sD dc s) := ⟨opR_xF B.1, opR_nF B.2.1, by rw [opR_o (by omega) (by omega)]; exact B.2.2.1, opR_21 B.2.2.2.1, false, opR_33⟩
theorem xB_prj {kr : Int32} (B : xB h0 gE g L s) : xB h0 gE (prR dc g s kr) L (sD dc s) := ⟨prR_xF B.1, prR_nF B.2.1, by rw [prR_o (by omega) (by omega)]; exact B.2.2.1, prR_21 B.2.2.2.1, false, prR_33⟩
theorem xB_grw {v : Int32} (B : xB h0 gE g L s) : xB h0 gE (grw g v) L s := ⟨grw_xF B.1, grw_nF B.2.1, by rw [grw_o (by omega)]; exact B.2.2.1, by rw [grw_o (by omega)]; exact B.2.2.2.1, by obtain ⟨i, hi⟩ := B.2.2.2.2; exact ⟨i, by rw [grw_o (by omega)]; exact hi⟩⟩
end X6
/-! a factor has been read on level L: pd: the product so far, sm: the sum so far -/
def qP (qs : TA) (sm : Option (Nat × CL)) : TA := match sm with
  | none => qs
  | some z => hq1 qs z.2
def qF (qs : TA) (sm : Option (Nat × CL)) (pd : Option CL) : TA := match pd with
  | none => qP qs sm
  | some fP => hq1 (qP qs sm) fP
def fPr (pd : Option CL) (f : CL) : CL := match pd with
  | none => f
  | some fP => opC 7 fP f
def fSm (sm : Option (Nat × CL)) (f : CL) : CL := match sm with
  | none => f
  | some z => opC z.1 z.2 f
def ssI (sm : Option (Nat × CL)) : Int32 := match sm with
  | none => 0
  | some z => if z.1 = 5 then 3 else 4
def cN {α : Type} (o : Option α) : Nat := match o with
  | none => 0
  | some _ => 1
def prjR (t : Nat → Nat) (n a : Nat) (f : CL) : PR := if pek t n a = 46 then (if pek t n (a + 1) = 48 then some (a + 2, fun bs hd => tPrj 9 hd (f bs hd)) else if pek t n (a + 1) = 49 then some (a + 2, fun bs hd => tPrj 10 hd (f bs hd)) else none) else some (a, f)
/-- what endFactor does -/
def efP (h0 gE : jH) (t : Nat → Nat) (n : Nat) (dc : Bool) (H : Nat → Prop) (L c : Nat) (qs : TA) (sm : Option (Nat × CL)) (pd : Option CL) (pr : PR) (r : Option Value) (h' : jH) : Prop := ∃ (rb : Bool) (g' : jH) (a' : Nat) (ty' : Bool) (s' : Nat), r = some (.int (bI rb)) ∧ match pr with
  | none => h' = pv g' a' false ty' ∧ a' ≤ 200 ∧ s' ≤ 124 ∧ xB h0 gE g' L s'
  | some p => h' = pv g' a' true ty' ∧
    ((pek t n p.1 = 42 ∧ rb = true ∧ a' = p.1 + 1 ∧ xK h0 g' dc H L (c + cN sm + 1) (p.1 + 1) (qF qs sm (some (fPr pd p.2))) s' ty' ∧ nF L gE g' ∧ g'.1 88 L = 1 ∧ g'.1 87 L = ssI sm)
    ∨ (pek t n p.1 ≠ 42 ∧ ((pek t n p.1 = 43 ∨ pek t n p.1 = 45) ∧ rb = true ∧ a' = p.1 + 1 ∧ xK h0 g' dc H L (c + 1) (p.1 + 1) (qF qs (some (if pek t n p.1 = 43 then 5 else 6, fSm sm (fPr pd p.2))) none) s' ty' ∧ nF L gE g' ∧ g'.1 88 L = 0 ∧ g'.1 87 L = ssI (some (if pek t n p.1 = 43 then 5 else 6, fSm sm (fPr pd p.2))))
    ∨ (pek t n p.1 ≠ 42 ∧ pek t n p.1 ≠ 43 ∧ pek t n p.1 ≠ 45 ∧ rb = false ∧ a' = p.1 ∧ (∃ ip', xD h0 gE g' dc H L c p.1 qs (fSm sm (fPr pd p.2)) s' ty' ip') ∧ g'.1 88 L = 0 ∧ g'.1 87 L = 0)))
