section XM
variable {X : jX} {w : jW} {h h0 g1 gi gE g g' G : jH} {t : Nat → Nat} {n : Nat} {hs : List (Nat × Nat × Nat)} {dc gd ty ip kp : Bool} {H : Nat → Prop} {L c a a0 a1 s M ow nm k j st kq x : Nat} {tb : List HD} {sg0 sg : Nat} {q : TA} {f f2 : CL} {V : Prop} {sub : Nat → PR} {cs : Option Nat} {it : Option Nat}
def restA (t : Nat → Nat) (n : Nat) (sub : Nat → PR) (cs : Option Nat) (ow nm fu k a : Nat) (qk : Nat → Nat → TA) : PR := match pArgs t n sub cs fu k a qk with
  | none => none
  | some p => if pek t n p.1 = 41 then some (p.1 + 1, fun bs hd => tCall cs ow nm p.2.1 (p.2.2 bs hd)) else none
theorem restA_s {fu : Nat} {qk : Nat → Nat → TA} : restA t n sub cs ow nm (fu + 1) k a qk = match sub a with
    | none => none
    | some p => if pek t n p.1 = 44 then restA t n sub cs ow nm fu (k + 1) (p.1 + 1) (fun bs hd => tArg cs k (qk bs hd) p.2 bs) else if pek t n p.1 = 41 then some (p.1 + 1, fun bs hd => tCall cs ow nm (k + 1) (tArg cs k (qk bs hd) p.2 bs)) else none := by
  unfold restA
  conv => lhs; unfold pArgs
  cases e : sub a with
  | none => rfl
  | some p =>
    obtain ⟨a1, f⟩ := p
    simp only
    by_cases h44 : pek t n a1 = 44
    · rw [if_pos h44, if_pos h44]
    · rw [if_neg h44, if_neg h44]
theorem pCall_rest (h : pek t n a ≠ 41) : pCall t n hs sub ow nm a = restA t n sub (lkp hs ow nm) ow nm (n - a) 0 a (fun _ hd => some ([], 0, hd)) := by
  unfold pCall restA
  rw [if_neg h]
  cases pArgs t n sub (lkp hs ow nm) (n - a) 0 a (fun _ hd => some ([], 0, hd)) with
  | none => rfl
  | some p => obtain ⟨a1, k, q⟩ := p; rfl
/-- the callee of a call, in the reference's tables -/
def xIt (dc : Bool) (tb : List HD) (cs it : Option Nat) : Prop := dc = false → (it.isSome = cs.isSome ∧ ∀ sgc, cs = some sgc → ctI tb it = sgc ∧ (∀ k, ta sgc k ≠ 3) ∧ sgn sgc ∧ (ta sgc 0 = 1 ∨ ta sgc 0 = 2))
theorem xIt_of (B : xCx X w h0 t n hs sg dc tb x sg0) (hnm : nm < 26) : xIt dc tb (lkp hs ow nm) (lix tb ow (nI nm) tb.length) := by
  intro hdc
  obtain ⟨-, -, -, -, -, S, -, B2⟩ := B
  obtain ⟨-, rfl, hd⟩ := B2 hdc
  have hl := lkp_lix (ow := ow) hd (fun i hi => (S.2.2.1.1.2.2 i hi).2.2.2) hnm
  rw [hl]
  cases e : lix tb ow (nI nm) tb.length with
  | none => exact ⟨rfl, fun sgc z => by cases z⟩
  | some i =>
    refine ⟨rfl, fun sgc z => ?_⟩
    simp only [Option.map_some, Option.some.injEq] at z
    have hi := lix_lt e
    rw [ctI_s hi] at z ⊢
    obtain ⟨s1, s2, s3⟩ := S.2.2.2.2.2.2 i hi
    rw [← z]
    exact ⟨rfl, s1, s2, s3⟩
theorem agB_iff (I : xIt dc tb cs it) (hdc : dc = false) {sgc y : Nat} (hc : cs = some sgc) (hy : y = 1 ∨ y = 2) (hi : ip = (y == 2)) : agB dc tb it k ip = true ↔ ta sgc (k + 1) = y := by
  obtain ⟨i1, i2⟩ := I hdc
  obtain ⟨j1, j2, j3, j4⟩ := i2 sgc hc
  have hs : it.isSome = true := by rw [i1, hc]; rfl
  have h3 := j2 (k + 1)
  have hle := ta_le sgc (k + 1)
  unfold agB
  rw [hdc, hs, j1, Bool.false_or, Bool.true_and, Bool.and_eq_true, decide_eq_true_eq, beq_iff_eq, hi]
  by_cases hk : k ≤ 2
  · rw [nTk_iff j3 hk]
    have h4 : ta sgc (k + 1) = 0 ∨ ta sgc (k + 1) = 1 ∨ ta sgc (k + 1) = 2 := by omega
    rcases h4 with z | z | z <;> rcases hy with rfl | rfl <;> simp [z]
  · have z : ta sgc (k + 1) = 0 := by unfold ta; rw [if_pos (by omega)]
    have := nTk_le sgc
    rw [z]
    constructor
    · intro u; omega
    · intro u; omega
theorem enB_iff (I : xIt dc tb cs it) (hdc : dc = false) {sgc : Nat} (hc : cs = some sgc) (hk : k ≤ nTk sgc) : (dc || (it.isSome && decide (k = nTk (ctI tb it)))) = true ↔ ta sgc (k + 1) = 0 := by
  obtain ⟨i1, i2⟩ := I hdc
  obtain ⟨j1, j2, j3, j4⟩ := i2 sgc hc
  have hs : it.isSome = true := by rw [i1, hc]; rfl
  have h3 := nTk_le sgc
  rw [hdc, hs, j1, Bool.false_or, Bool.true_and, decide_eq_true_eq]
  by_cases hk2 : k ≤ 2
  · have := nTk_iff j3 hk2
    constructor
    · intro z
      refine Classical.not_not.mp (fun u => ?_)
      have := this.mpr u
      omega
    · intro z
      have : ¬ k < nTk sgc := fun u => this.mp u z
      omega
  · have z : ta sgc (k + 1) = 0 := by unfold ta; rw [if_pos (by omega)]
    exact ⟨fun _ => z, fun _ => by omega⟩
theorem ip_iff (I : xIt dc tb cs it) {qk : Nat → Nat → TA} (hdc : dc = false) {y : Nat} (h : tyq q (fun bs hd => tCall cs ow nm k (qk bs hd)) = some y) : (y = 1 ∨ y = 2) ∧ (it.isSome && ta (ctI tb it) 0 == 2) = (y == 2) := by
  obtain ⟨sgc, hc, rfl⟩ := tyq_call h
  obtain ⟨i1, i2⟩ := I hdc
  obtain ⟨j1, j2, j3, j4⟩ := i2 sgc hc
  have hs : it.isSome = true := by rw [i1, hc]; rfl
  exact ⟨j4, by rw [hs, j1, Bool.true_and]⟩
/-- the call's end: back on level L -/
theorem xW_end {qk : Nat → Nat → TA} {a' : Nat} (I : xIt dc tb cs it) (K : xK h0 g dc H L c a0 q s ty) (ha0 : a0 ≤ a') {g2 : jH} {s2 : Nat} {ty2 : Bool} (F : xF h0 g2) (E : xE g2 dc H c a' (appC cs q qk) s2 ty2) (hsa : s2 + c + 2 ≤ a') (h21 : g2.1 70 21 = nI s2) (hlf : lF L g g2) (h90 : g2.1 90 (L + 1) = g.1 70 31) (hk : dc = false → ∀ sgc, cs = some sgc → appC cs q qk ≠ none → k ≤ nTk sgc) : xW h0 g (ecR dc g2 s2 (L + 1) (nI (26 * ow + nm)) (bI (it.isSome && ta (ctI tb it) 0 == 2))) dc H L c a' q (fun bs hd => tCall cs ow nm k (qk bs hd)) (sD dc s2) (ty2 && (dc || (it.isSome && decide (k = nTk (ctI tb it))))) (it.isSome && ta (ctI tb it) 0 == 2) := by
  refine ⟨⟨ecR_xF F, by unfold ecR; dsimp only; rw [up2_s], ecR_21 h21, xE_call E hsa (fun hdc sgc hc ha => enB_iff I hdc hc (hk hdc sgc hc ha)) ?_⟩, ?_, by unfold ecR; dsimp only; rw [up2_n (by omega), up2_s], fun hdc y hy => ip_iff I hdc hy⟩
  · intro hdc
    refine ⟨fun z hz _ => ?_, ?_, ?_, ?_, ?_, ?_⟩
    · have := K.2.2.2.2 hdc
      rw [hz] at this
      refine ⟨?_, by have := this.2.2.2.2.1; omega⟩
      unfold ecR
      dsimp only
      rw [up2_n (by omega), up2_n (by omega), up2_s, h90]
      exact this.2.1
    · unfold ecR; dsimp only; rw [up2_n (by omega), up2_n (by omega), up2_n (by omega), emD_o (by omega) (by omega)]
    · intro k j z1 z2 z3; exact ecR_o (by omega) (by omega)
    · subst hdc; unfold ecR; dsimp only; rw [up2_n (by omega), up2_n (by omega), up2_n (by omega)]; exact emD_82
    · subst hdc; unfold ecR; dsimp only; rw [up2_n (by omega), up2_n (by omega), up2_n (by omega)]; exact emD_83
    · subst hdc; unfold ecR; dsimp only; rw [up2_n (by omega), up2_n (by omega), up2_n (by omega)]; exact emD_84
  · intro k j z1 z2 z3
    rw [ecR_o (by omega) (by omega)]
    exact hlf k j z1 z2 z3
theorem A_loop (B : xCx X w h0 t n hs sg dc tb x sg0) (hZ : xZs X w h0 x V) (hp : pgr n sub) (hsub : xEL X w h0 t n sub dc x V (L + 1)) (hL : L + 1 < 9) (how : ow ≤ 6) (hnm : nm < 26) (hcs : cs = lkp hs ow nm) (K : xK h0 g dc H L c a0 q s ty) : ∀ (fu k a : Nat) (qk : Nat → Nat → TA) (g1 : jH) (ty1 : Bool) (s1 : Nat), n ≤ a + fu → a ≤ n → a0 ≤ a → k ≤ a → xK h0 g1 dc H (L + 1) c a (appC cs q qk) s1 ty1 → lF L g g1 → g1.1 85 (L + 1) = 4 → g1.1 86 (L + 1) = nI k → g1.1 87 (L + 1) = 0 → g1.1 88 (L + 1) = 0 → g1.1 90 (L + 1) = g.1 70 31 → g1.1 91 (L + 1) = nI (26 * ow + nm) → (dc = false → ∀ sgc, cs = some sgc → appC cs q qk ≠ none → k ≤ nTk sgc) → (bdV t n (restA t n sub cs ow nm fu k a qk) → V) → (∀ (g' : jH) (a1 : Nat) (ty' : Bool) (s' : Nat) (ip' : Bool) (f : CL), restA t n sub cs ow nm fu k a qk = some (a1, f) → xW h0 g g' dc H L c a1 q f s' ty' ip' → J X w (pv g' a1 true ty') 68 (lvD w x) []) → J X w (pv g1 a true ty1) 48 (lvF w x) [] := by
  have I := xIt_of (ow := ow) B hnm
  rw [← hcs] at I
  obtain ⟨hw, C, hR, hnL, T, S, hn, -⟩ := B
  intro fu
  induction fu with
  | zero =>
    intro k a qk g1 ty1 s1 hf han ha0 hka K1 lf1 h85 h86 h87 h88 h90 h91 hk hV KD
    refine hsub H c a s1 _ ty1 g1 K1 han (Or.inr ⟨k, h86, by omega, Or.inr (Or.inr (Or.inr ⟨h85, ow, nm, h91, how, hnm⟩))⟩) h87 h88 (fun _ => hV trivial) ?_
    intro g2 a1 ty2 s2 ip2 f hsb W
    have := hp _ _ _ hsb
    omega
  | succ fu ih =>
    intro k a qk g1 ty1 s1 hf han ha0 hka K1 lf1 h85 h86 h87 h88 h90 h91 hk hV KD
    rw [restA_s] at hV KD
    refine hsub H c a s1 _ ty1 g1 K1 han (Or.inr ⟨k, h86, by omega, Or.inr (Or.inr (Or.inr ⟨h85, ow, nm, h91, how, hnm⟩))⟩) h87 h88 ?_ ?_
    · intro z
      refine hV ?_
      cases e : sub a with
      | none => trivial
      | some p =>
        obtain ⟨a1, f⟩ := p
        rw [e] at z
        simp only [bdV] at z ⊢
        rw [if_neg (by omega), if_neg (by omega)]
        trivial
    intro g2 a1 ty2 s2 ip2 f hsb W
    rw [hsb] at hV KD
    simp only at hV KD
    have h23 := W.1.2.1
    obtain ⟨hr, ht, hd⟩ := xT_g T W.1.1
    obtain ⟨-, -, NI, -⟩ := xS_g S W.1.1
    have l2 : ∀ k, 85 ≤ k → k ≤ 91 → g2.1 k (L + 1) = g1.1 k (L + 1) := fun k z1 z2 => W.2.1 k (L + 1) z1 z2 (by omega)
    have sa := W.1.2.2.2.1
    have sd := sD_le (dc := dc) (s := s2)
    have ha1 := hp _ _ _ hsb
    have hes := r_eS5 (l := jXl X) (dc := dc) (s := s2) (M := L + 1) (a := a1) (gd := true) (ty := ty2) (ip := ip2) (ow := ow) (nm := nm) (st := k) hw hr ht (by omega) hd W.1.2.2.1 (by omega) NI h23 (by omega) (by rw [l2 91 (by omega) (by omega)]; exact h91) how hnm (by rw [l2 86 (by omega) (by omega)]; exact h86) (by omega) (by rw [l2 85 (by omega) (by omega)]; exact h85) W.2.2.1
    generalize lix tb ow (nI nm) tb.length = it at I hes
    have EA : xE (agR g2 (L + 1) k ip2) dc H c (a1 + 1) (appC cs q (fun bs hd => tArg cs k (qk bs hd) f bs)) s2 (ty2 && agB dc tb it k ip2) := xE_arg (by omega) W.1.2.2.2 W.2.2.2 (fun hdc sgc y hc hy hi => agB_iff I hdc hc hy hi) (fun _ => by
      refine ⟨?_, ?_, fun k j z1 z2 z3 => agR_o (by omega) (by omega)⟩
      · unfold agR; rw [grw_31]; dsimp only; rw [up2_n (by omega)]
      · unfold agR; rw [grw_32]; dsimp only; simp only [show up2 g2.1 86 (L + 1) (nI (k + 1)) 70 31 = g2.1 70 31 from up2_n (by omega), show up2 g2.1 86 (L + 1) (nI (k + 1)) 70 32 = g2.1 70 32 from up2_n (by omega)])
    have lfA : lF L g (agR g2 (L + 1) k ip2) := fun k j z1 z2 z3 => by rw [agR_o (by omega) (by omega), W.2.1 k j z1 z2 (by omega)]; exact lf1 k j z1 z2 z3
    have hk' : dc = false → ∀ sgc, cs = some sgc → appC cs q (fun bs hd => tArg cs k (qk bs hd) f bs) ≠ none → k + 1 ≤ nTk sgc := by
      intro hdc sgc hc hne
      obtain ⟨i1, i2⟩ := I hdc
      obtain ⟨j1, j2, j3, j4⟩ := i2 sgc hc
      subst hc
      cases q with
      | none => exact absurd rfl hne
      | some z =>
        unfold appC at hne
        simp only at hne
        cases hq : qk z.1.length z.2.2 with
        | none => simp only [hq, tArg] at hne; exact absurd rfl hne
        | some r =>
          obtain ⟨e, m, hc⟩ := r
          simp only [hq, tArg] at hne
          have e1 : appC (some sgc) (some z) qk = some (z.1 ++ e, max z.2.1 m, hc) := by unfold appC; simp only [hq]
          cases hf2 : f (z.1.length + e.length) hc with
          | none => simp only [hf2] at hne; exact absurd rfl hne
          | some r2 =>
            obtain ⟨y, e2, m2⟩ := r2
            simp only [hf2] at hne
            by_cases hy : ta sgc (k + 1) = y
            · have hT := W.2.2.2 hdc y (by rw [e1]; exact tyq_e (by dsimp only; rw [List.length_append]; exact hf2))
              have hne0 : ta sgc (k + 1) ≠ 0 := by omega
              by_cases hk2 : k ≤ 2
              · exact (nTk_iff j3 hk2).mpr hne0
              · exact absurd (by unfold ta; rw [if_pos (by omega)]) hne0
            · rw [if_neg hy] at hne; exact absurd rfl hne
    have h90A : (agR g2 (L + 1) k ip2).1 90 (L + 1) = g.1 70 31 := by rw [agR_o (by omega) (by omega), l2 90 (by omega) (by omega)]; exact h90
    refine g_S C hR hnL h23 (by omega) (by omega) hes ?_
    intro v h' p
    by_cases e41 : pek t n a1 = 41
    · rw [if_pos e41] at p
      obtain ⟨rfl, rfl⟩ := p
      rw [if_neg (by omega), if_pos e41] at hV KD
      refine ⟨false, true, _, _, _, rfl, rfl, (fun z => by cases z), fun _ _ => ?_, (fun _ z => by cases z)⟩
      exact KD _ (a1 + 1) _ _ _ _ rfl (xW_end (k := k + 1) I K (by omega) (agR_xF W.1.1) EA (by omega) (by rw [agR_o (by omega) (by omega)]; exact W.1.2.2.1) lfA h90A hk')
    · rw [if_neg e41] at p
      obtain ⟨rfl, rfl⟩ := p
      by_cases e44 : pek t n a1 = 44
      · have b44 : (true && pek t n a1 == 44) = true := by simp [e44]
        rw [b44, if_pos e44]
        rw [if_pos e44] at hV KD
        have ha1n := pek_in e44 (by decide)
        refine ⟨true, true, _, _, _, rfl, rfl, (fun z => by cases z), (fun _ z => by cases z), fun _ _ => ?_⟩
        refine ih (k + 1) (a1 + 1) _ _ _ s2 (by omega) (by omega) (by omega) (by omega) ⟨agR_xF W.1.1, by rw [agR_o (by omega) (by omega)]; exact h23, by rw [agR_o (by omega) (by omega)]; exact W.1.2.2.1, EA⟩ lfA ?_ agR_86 ?_ ?_ h90A ?_ hk' hV KD
        · rw [agR_o (by omega) (by omega), l2 85 (by omega) (by omega)]; exact h85
        · rw [agR_o (by omega) (by omega), l2 87 (by omega) (by omega)]; exact h87
        · rw [agR_o (by omega) (by omega), l2 88 (by omega) (by omega)]; exact h88
        · rw [agR_o (by omega) (by omega), l2 91 (by omega) (by omega)]; exact h91
      · have b44 : (true && pek t n a1 == 44) = false := by simp [e44]
        rw [b44, if_neg e44]
        rw [if_neg e44, if_neg e41] at hV
        refine ⟨true, false, _, _, _, rfl, rfl, fun _ => ?_, (fun z => by cases z), (fun z => by cases z)⟩
        exact hZ (hV trivial) _ _ _ ⟨agR_xF W.1.1, s2, by rw [agR_o (by omega) (by omega)]; exact W.1.2.2.1, by omega⟩ (by omega)
theorem appC_0 (h : cs ≠ none) : appC cs q (fun _ hd => some ([], 0, hd)) = q := by
  unfold appC
  cases cs with
  | none => exact absurd rfl h
  | some sgc =>
    cases q with
    | none => rfl
    | some z => simp
theorem W_call (B : xCx X w h0 t n hs sg dc tb x sg0) (hZ : xZs X w h0 x V) (hp : pgr n sub) (hsub : xEL X w h0 t n sub dc x V (L + 1)) (hL : L + 1 < 9) (han : a ≤ n) (hd9 : ¬ (48 ≤ pek t n a ∧ pek t n a ≤ 57)) (h36 : pek t n a ≠ 36) (h40 : pek t n a ≠ 40) (h123 : pek t n a ≠ 123) (h91 : pek t n a ≠ 91) {ow nm a2 : Nat} (hcl : clP t n a = some (ow, nm, a2)) (K : xK h0 g dc H L c a q s ty) (hV : bdV t n (pCall t n hs sub ow nm a2) → V) (KD : ∀ (g' : jH) (a1 : Nat) (ty' : Bool) (s' : Nat) (ip' : Bool) (f : CL), pCall t n hs sub ow nm a2 = some (a1, f) → xW h0 g g' dc H L c a1 q f s' ty' ip' → J X w (pv g' a1 true ty') 68 (lvD w x) []) : J X w (pv g a true ty) 48 (lvF w x) [] := by
  have hB := B
  obtain ⟨hw, C, hR, hnL, T, S, hn, -⟩ := B
  obtain ⟨z1, z2, z3, z4⟩ := clP_le hcl
  dsimp only at z1 z2 z3 z4
  have I := xIt_of (ow := ow) hB z2
  have sa := K.2.2.2.1
  have l1 : lF L g (rcR g (L + 1) (nI (26 * ow + nm))) := fun k j y1 y2 y3 => rcR_o (by omega) (by omega)
  have h21 : (rcR g (L + 1) (nI (26 * ow + nm))).1 70 21 = nI s := by rw [rcR_o (by omega) (by omega)]; exact K.2.2.1
  have E0 : ∀ a', a + 2 ≤ a' → xE (rcR g (L + 1) (nI (26 * ow + nm))) dc H c a' (appC (lkp hs ow nm) q (fun _ hd => some ([], 0, hd))) s (ty && (dc || (lix tb ow (nI nm) tb.length).isSome)) := by
    intro a' ha'
    cases hc : lkp hs ow nm with
    | none =>
      refine ⟨by omega, fun hdc => ?_⟩
      have := (I hdc).1
      rw [hc] at this
      rw [this, hdc]
      show (ty && (false || false)) = false
      simp
    | some sgc =>
      have E1 := xE_same (g' := rcR g (L + 1) (nI (26 * ow + nm))) (c' := c) (a' := a') (rcR_o (by omega) (by omega)) (rcR_o (by omega) (by omega)) (fun k j y1 y2 => rcR_o (by omega) (by omega)) (by omega) (by omega) K.2.2.2
      rw [appC_0 (by simp)]
      refine ⟨E1.1, fun hdc => ?_⟩
      have h1 := (I hdc).1
      rw [hc] at h1
      rw [h1, show (ty && (dc || (some sgc).isSome)) = ty by simp]
      exact E1.2 hdc
  refine g_F C hR hnL (r_bF_call hw T S hn han (by omega) hd9 h36 h40 h123 h91 K) ?_
  intro v h' p
  unfold bcP at p
  rw [hcl] at p
  simp only at p
  rw [if_pos hL] at p
  by_cases e41 : pek t n a2 = 41
  · rw [if_pos e41] at p
    obtain ⟨rfl, rfl⟩ := p
    refine ⟨true, true, _, _, _, rfl, rfl, (fun z => by cases z), fun _ _ => ?_, (fun _ z => by cases z)⟩
    refine KD _ (a2 + 1) _ _ _ (fun bs hd => tCall (lkp hs ow nm) ow nm 0 (some ([], 0, hd))) (by unfold pCall; rw [if_pos e41]) (xW_end (k := 0) (qk := fun _ hd => some ([], 0, hd)) I K (by omega) (rcR_xF K.1) (E0 (a2 + 1) (by omega)) (by omega) h21 l1 rcR_90 (fun _ _ _ _ => Nat.zero_le _))
  · rw [if_neg e41] at p
    obtain ⟨rfl, rfl⟩ := p
    refine ⟨false, true, _, _, _, rfl, rfl, (fun z => by cases z), (fun _ z => by cases z), fun _ _ => ?_⟩
    rw [pCall_rest e41] at hV KD
    refine A_loop hB hZ hp hsub hL z1 z2 rfl K (n - a2) 0 a2 _ _ _ s (by omega) z4 (by omega) (by omega) ⟨rcR_xF K.1, by rw [rcR_p (by omega), opn_23], h21, E0 a2 z3⟩ l1 (by rw [rcR_p (by omega), opn_85]) (by rw [rcR_p (by omega), opn_86]; rfl) (by rw [rcR_p (by omega), opn_87]) (by rw [rcR_p (by omega), opn_88]) rcR_90 rcR_91 (fun _ _ _ _ => Nat.zero_le _) hV KD
end XM
