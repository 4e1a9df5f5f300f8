/-- the text is wrong, or what is read ends at a digit -/
def bdV (t : Nat → Nat) (n : Nat) (p : PR) : Prop := match p with
  | none => True
  | some z => 48 ≤ pek t n z.1 ∧ pek t n z.1 ≤ 57
section XI
variable {t : Nat → Nat} {n : Nat} {hs : List (Nat × Nat × Nat)} {sg : Nat} {br : Bool} {sub : Nat → PR} {sm : Option (Nat × CL)} {pd : Option CL} {a : Nat} {f : CL}
def restD (t : Nat → Nat) (n : Nat) (hs : List (Nat × Nat × Nat)) (sg : Nat) (br : Bool) (sub : Nat → PR) (sm : Option (Nat × CL)) (pd : Option CL) (f : CL) (a : Nat) : PR := match prjR t n a f with
  | none => none
  | some p => match pMul t n hs sg br sub (n - p.1) p.1 (fPr pd p.2) with
    | none => none
    | some p2 => pAdd t n hs sg br sub (n - p2.1) p2.1 (fSm sm p2.2)
def restF (t : Nat → Nat) (n : Nat) (hs : List (Nat × Nat × Nat)) (sg : Nat) (br : Bool) (sub : Nat → PR) (sm : Option (Nat × CL)) (pd : Option CL) (a : Nat) : PR := match pWho t n hs sg br sub a with
  | none => none
  | some p => restD t n hs sg br sub sm pd p.2 p.1
theorem pFac_prj : pFac t n hs sg br sub a = match pWho t n hs sg br sub a with
    | none => none
    | some p => prjR t n p.1 p.2 := by
  unfold pFac
  cases pWho t n hs sg br sub a with
  | none => rfl
  | some p => obtain ⟨a1, f⟩ := p; rfl
theorem pSum_rest : pSum t n hs sg br sub a = restF t n hs sg br sub none none a := by
  unfold pSum pPro restF restD
  rw [pFac_prj]
  cases pWho t n hs sg br sub a with
  | none => rfl
  | some p =>
    simp only
    cases prjR t n p.1 p.2 with
    | none => rfl
    | some p1 =>
      obtain ⟨a1, f1⟩ := p1
      simp only
      show (match pMul t n hs sg br sub (n - a1) a1 f1 with
        | none => none
        | some (a1, f) => pAdd t n hs sg br sub (n - a1) a1 f) = match pMul t n hs sg br sub (n - a1) a1 f1 with
        | none => none
        | some p2 => pAdd t n hs sg br sub (n - p2.1) p2.1 p2.2
      cases pMul t n hs sg br sub (n - a1) a1 f1 with
      | none => rfl
      | some p2 => obtain ⟨a2, f2⟩ := p2; rfl
theorem pMul_s (q a : Nat) (f : CL) : pMul t n hs sg br sub (q + 1) a f = if pek t n a = 42 then (match pFac t n hs sg br sub (a + 1) with
    | none => none
    | some p => pMul t n hs sg br sub q p.1 (opC 7 f p.2)) else some (a, f) := by
  conv => lhs; unfold pMul
  split
  · cases pFac t n hs sg br sub (a + 1) with
    | none => rfl
    | some p => obtain ⟨a1, f⟩ := p; rfl
  · rfl
theorem pAdd_s (q a : Nat) (f : CL) : pAdd t n hs sg br sub (q + 1) a f = if pek t n a = 43 ∨ pek t n a = 45 then (match pPro t n hs sg br sub (a + 1) with
    | none => none
    | some p => pAdd t n hs sg br sub q p.1 (opC (if pek t n a = 43 then 5 else 6) f p.2)) else some (a, f) := by
  conv => lhs; unfold pAdd
  split
  · cases pPro t n hs sg br sub (a + 1) with
    | none => rfl
    | some p => obtain ⟨a1, f⟩ := p; rfl
  · rfl
theorem pMul_fu (hp : pgr n sub) : ∀ (q q' a : Nat) (f : CL), n ≤ a + q → n ≤ a + q' → pMul t n hs sg br sub q a f = pMul t n hs sg br sub q' a f
  | 0, 0, a, f, _, _ => rfl
  | 0, q' + 1, a, f, h1, _ => by
    rw [pMul_s, if_neg (by rw [pek_ge (by omega)]; decide)]
    rfl
  | q + 1, 0, a, f, _, h2 => by
    rw [pMul_s, if_neg (by rw [pek_ge (by omega)]; decide)]
    rfl
  | q + 1, q' + 1, a, f, h1, h2 => by
    rw [pMul_s, pMul_s]
    split
    · cases e : pFac t n hs sg br sub (a + 1) with
      | none => rfl
      | some p =>
        have := pgr_Fac (t := t) (hs := hs) (sg := sg) (br := br) hp _ _ _ e
        exact pMul_fu hp q q' _ _ (by omega) (by omega)
    · rfl
theorem pAdd_fu (hp : pgr n sub) : ∀ (q q' a : Nat) (f : CL), n ≤ a + q → n ≤ a + q' → pAdd t n hs sg br sub q a f = pAdd t n hs sg br sub q' a f
  | 0, 0, a, f, _, _ => rfl
  | 0, q' + 1, a, f, h1, _ => by
    rw [pAdd_s, if_neg (by rw [pek_ge (by omega)]; decide)]
    rfl
  | q + 1, 0, a, f, _, h2 => by
    rw [pAdd_s, if_neg (by rw [pek_ge (by omega)]; decide)]
    rfl
  | q + 1, q' + 1, a, f, h1, h2 => by
    rw [pAdd_s, pAdd_s]
    split
    · cases e : pPro t n hs sg br sub (a + 1) with
      | none => rfl
      | some p =>
        have := pgr_Pro (t := t) (hs := hs) (sg := sg) (br := br) hp _ _ _ e
        exact pAdd_fu hp q q' _ _ (by omega) (by omega)
    · rfl
theorem pMul_no (q : Nat) (h : pek t n a ≠ 42) : pMul t n hs sg br sub q a f = some (a, f) := by
  cases q with
  | zero => rfl
  | succ q => rw [pMul_s, if_neg h]
theorem pAdd_no (q : Nat) (h : ¬ (pek t n a = 43 ∨ pek t n a = 45)) : pAdd t n hs sg br sub q a f = some (a, f) := by
  cases q with
  | zero => rfl
  | succ q => rw [pAdd_s, if_neg h]
theorem rest_star (hp : pgr n sub) {p : Nat × CL} (h : prjR t n a f = some p) (h42 : pek t n p.1 = 42) : restD t n hs sg br sub sm pd f a = restF t n hs sg br sub sm (some (fPr pd p.2)) (p.1 + 1) := by
  have hlt := pek_in h42 (by decide)
  unfold restD restF
  rw [h]
  simp only
  rw [show n - p.1 = (n - p.1 - 1) + 1 by omega, pMul_s, if_pos h42, pFac_prj]
  cases e : pWho t n hs sg br sub (p.1 + 1) with
  | none => rfl
  | some p1 =>
    simp only
    unfold restD
    have hF := pgr_Fac (t := t) (hs := hs) (sg := sg) (br := br) hp (p.1 + 1)
    rw [pFac_prj, e] at hF
    simp only at hF
    cases e2 : prjR t n p1.1 p1.2 with
    | none => rfl
    | some p2 =>
      simp only
      have := hF p2.1 p2.2 e2
      rw [pMul_fu hp (n - p.1 - 1) (n - p2.1) _ _ (by omega) (by omega)]
      rfl
theorem pPro_s : pPro t n hs sg br sub a = match pFac t n hs sg br sub a with
    | none => none
    | some p => pMul t n hs sg br sub (n - p.1) p.1 p.2 := by
  unfold pPro
  cases pFac t n hs sg br sub a with
  | none => rfl
  | some p => obtain ⟨a1, f⟩ := p; rfl
theorem rest_sum (hp : pgr n sub) {p : Nat × CL} (h : prjR t n a f = some p) (h42 : pek t n p.1 ≠ 42) (h43 : pek t n p.1 = 43 ∨ pek t n p.1 = 45) : restD t n hs sg br sub sm pd f a = restF t n hs sg br sub (some (if pek t n p.1 = 43 then 5 else 6, fSm sm (fPr pd p.2))) none (p.1 + 1) := by
  have hlt : p.1 < n := pek_gt (t := t) (c := 0) (by omega)
  unfold restD restF
  rw [h]
  simp only
  rw [pMul_no _ h42]
  simp only
  rw [show n - p.1 = (n - p.1 - 1) + 1 by omega, pAdd_s, if_pos h43]
  have hPr := pgr_Pro (t := t) (hs := hs) (sg := sg) (br := br) hp (p.1 + 1)
  rw [pPro_s, pFac_prj] at hPr ⊢
  cases e : pWho t n hs sg br sub (p.1 + 1) with
  | none => rfl
  | some p1 =>
    rw [e] at hPr
    simp only at hPr ⊢
    unfold restD
    cases e2 : prjR t n p1.1 p1.2 with
    | none => rfl
    | some p2 =>
      rw [e2] at hPr
      simp only at hPr ⊢
      rw [show fPr none p2.2 = p2.2 from rfl]
      cases e3 : pMul t n hs sg br sub (n - p2.1) p2.1 p2.2 with
      | none => rfl
      | some p3 =>
        have := hPr p3.1 p3.2 e3
        exact pAdd_fu hp _ _ _ _ (by omega) (by omega)
theorem rest_end {p : Nat × CL} (h : prjR t n a f = some p) (h42 : pek t n p.1 ≠ 42) (h43 : pek t n p.1 ≠ 43) (h45 : pek t n p.1 ≠ 45) : restD t n hs sg br sub sm pd f a = some (p.1, fSm sm (fPr pd p.2)) := by
  unfold restD
  rw [h]
  simp only
  rw [pMul_no _ h42]
  simp only
  rw [pAdd_no _ (fun z => by rcases z with z | z; exact h43 z; exact h45 z)]
theorem rest_dig (hd : 48 ≤ pek t n a ∧ pek t n a ≤ 57) : restD t n hs sg br sub sm pd f a = some (a, fSm sm (fPr pd f)) := by
  have h : prjR t n a f = some (a, f) := by unfold prjR; rw [if_neg (by omega)]
  exact rest_end h (by dsimp only; omega) (by dsimp only; omega) (by dsimp only; omega)
end XI
