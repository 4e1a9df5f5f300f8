/-! no expression holds a semicolon; the heads' places go forward -/
def ns (t : Nat → Nat) (n a b : Nat) : Prop := ∀ j, a ≤ j → j < b → pek t n j ≠ 59
def nss (t : Nat → Nat) (n : Nat) (sub : Nat → PR) : Prop := ∀ a a1 f, sub a = some (a1, f) → ns t n a a1
section POS
variable {t : Nat → Nat} {n : Nat} {hs : List (Nat × Nat × Nat)} {sg : Nat}
theorem ns_tr {a b c : Nat} (h1 : ns t n a b) (h2 : ns t n b c) : ns t n a c := fun j x y => if h : j < b then h1 j x h else h2 j (by omega) y
theorem ns_1 {a c : Nat} (h : pek t n a = c) (hc : c ≠ 59) : ns t n a (a + 1) := fun j x y => by rw [show j = a by omega, h]; exact hc
theorem ns_r {a lo hi : Nat} (h : lo ≤ pek t n a ∧ pek t n a ≤ hi) (hc : hi < 59 ∨ 59 < lo) : ns t n a (a + 1) := ns_1 rfl (by omega)
theorem ns_0 {a : Nat} : ns t n a a := fun j x y => by omega
theorem ns_nmb : ∀ (f a v : Nat), ns t n a (nmb t n f a v).1
  | 0, a, v => ns_0
  | f + 1, a, v => by
    unfold nmb
    split
    · next c => exact ns_tr (ns_r c (by omega)) (ns_nmb f (a + 1) _)
    · exact ns_0
theorem ns_Args {sub : Nat → PR} (hp : nss t n sub) (cs : Option Nat) : ∀ (f k a : Nat) (q : Nat → Nat → TA) (a1 k1 : Nat) (q1 : Nat → Nat → TA), pArgs t n sub cs f k a q = some (a1, k1, q1) → ns t n a a1
  | 0, k, a, q, a1, k1, q1, h => by simp [pArgs] at h
  | f + 1, k, a, q, a1, k1, q1, h => by
    unfold pArgs at h
    split at h
    · cases h
    · next a2 g e =>
      have h2 := hp a a2 g e
      split at h
      · next c => exact ns_tr h2 (ns_tr (ns_1 c (by decide)) (ns_Args hp cs f (k + 1) (a2 + 1) _ a1 k1 q1 h))
      · simp only [Option.some.injEq, Prod.mk.injEq] at h
        obtain ⟨rfl, -⟩ := h
        exact h2
theorem ns_Call {sub : Nat → PR} (hp : nss t n sub) {o m a a1 : Nat} {f : Nat → Nat → TI} (h : pCall t n hs sub o m a = some (a1, f)) : ns t n a a1 := by
  unfold pCall at h
  split at h
  · next c =>
    simp only [Option.some.injEq, Prod.mk.injEq] at h
    obtain ⟨rfl, -⟩ := h
    exact ns_1 c (by decide)
  · split at h
    · cases h
    · next a2 k q e =>
      have h2 := ns_Args hp _ _ _ _ _ _ _ _ e
      split at h
      · next c =>
        simp only [Option.some.injEq, Prod.mk.injEq] at h
        obtain ⟨rfl, -⟩ := h
        exact ns_tr h2 (ns_1 c (by decide))
      · cases h
theorem ns_Who {br : Bool} {sub : Nat → PR} (hp : nss t n sub) : nss t n (pWho t n hs sg br sub) := by
  intro a a1 f h
  unfold pWho at h
  split at h
  · next c =>
    unfold pNum at h
    simp only [Option.some.injEq, Prod.mk.injEq] at h
    obtain ⟨rfl, -⟩ := h
    exact ns_nmb 4 a 0
  split at h
  · next c0 =>
    unfold pPar at h
    split at h
    · next c =>
      simp only [Option.some.injEq, Prod.mk.injEq] at h
      obtain ⟨rfl, -⟩ := h
      exact ns_tr (ns_1 c0 (by decide)) (ns_r c (by omega))
    · cases h
  split at h
  · cases h
  split at h
  · next c0 =>
    split at h
    · next c => exact ns_tr (ns_r c0 (by omega)) (ns_tr (ns_1 c (by decide)) (ns_Call hp h))
    · cases h
  split at h
  · next c0 =>
    split at h
    · next c => exact ns_tr (ns_r c0 (by omega)) (ns_tr (ns_1 c.1 (by decide)) (ns_tr (ns_r c.2.1 (by omega)) (ns_tr (ns_1 c.2.2 (by decide)) (ns_Call hp h))))
    · cases h
  split at h
  · next c0 =>
    unfold pGrp at h
    split at h
    · cases h
    · next a2 g e =>
      have h2 := hp _ _ _ e
      split at h
      · next c =>
        simp only [Option.some.injEq, Prod.mk.injEq] at h
        obtain ⟨rfl, -⟩ := h
        exact ns_tr (ns_1 c0 (by decide)) (ns_tr h2 (ns_1 c (by decide)))
      · cases h
  split at h
  · next c0 =>
    unfold pPair at h
    split at h
    · cases h
    · next a2 g e =>
      have h2 := hp _ _ _ e
      split at h
      · next c1 =>
        split at h
        · cases h
        · next a3 g3 e3 =>
          have h3 := hp _ _ _ e3
          split at h
          · next c =>
            simp only [Option.some.injEq, Prod.mk.injEq] at h
            obtain ⟨rfl, -⟩ := h
            exact ns_tr (ns_1 c0 (by decide)) (ns_tr h2 (ns_tr (ns_1 c1 (by decide)) (ns_tr h3 (ns_1 c (by decide)))))
          · cases h
      · cases h
  split at h
  · next c0 =>
    unfold pCho at h
    split at h
    · cases h
    · next a2 g e =>
      have h2 := hp _ _ _ e
      split at h
      · next c1 =>
        split at h
        · cases h
        · next a3 g3 e3 =>
          have h3 := hp _ _ _ e3
          split at h
          · next c2 =>
            split at h
            · cases h
            · next a4 g4 e4 =>
              have h4 := hp _ _ _ e4
              split at h
              · next c =>
                simp only [Option.some.injEq, Prod.mk.injEq] at h
                obtain ⟨rfl, -⟩ := h
                exact ns_tr (ns_1 c0 (by decide)) (ns_tr h2 (ns_tr (ns_1 c1 (by decide)) (ns_tr h3 (ns_tr (ns_1 c2 (by decide)) (ns_tr h4 (ns_1 c (by decide)))))))
              · cases h
          · cases h
      · cases h
  · cases h
theorem ns_Fac {br : Bool} {sub : Nat → PR} (hp : nss t n sub) : nss t n (pFac t n hs sg br sub) := by
  intro a a1 f h
  unfold pFac at h
  split at h
  · cases h
  · next a2 g e =>
    have h2 := ns_Who hp _ _ _ e
    split at h
    · next c0 =>
      split at h
      · next c =>
        simp only [Option.some.injEq, Prod.mk.injEq] at h
        obtain ⟨rfl, -⟩ := h
        exact ns_tr h2 (ns_tr (ns_1 c0 (by decide)) (ns_1 c (by decide)))
      · split at h
        · next c =>
          simp only [Option.some.injEq, Prod.mk.injEq] at h
          obtain ⟨rfl, -⟩ := h
          exact ns_tr h2 (ns_tr (ns_1 c0 (by decide)) (ns_1 c (by decide)))
        · cases h
    · simp only [Option.some.injEq, Prod.mk.injEq] at h
      obtain ⟨rfl, -⟩ := h
      exact h2
theorem ns_Mul {br : Bool} {sub : Nat → PR} (hp : nss t n sub) : ∀ (q a : Nat) (f : Nat → Nat → TI) (a1 : Nat) (g : Nat → Nat → TI), pMul t n hs sg br sub q a f = some (a1, g) → ns t n a a1
  | 0, a, f, a1, g, h => by simp only [pMul, Option.some.injEq, Prod.mk.injEq] at h; obtain ⟨rfl, -⟩ := h; exact ns_0
  | q + 1, a, f, a1, g, h => by
    unfold pMul at h
    split at h
    · next c =>
      split at h
      · cases h
      · next a2 g2 e => exact ns_tr (ns_1 c (by decide)) (ns_tr (ns_Fac hp _ _ _ e) (ns_Mul hp q a2 _ a1 g h))
    · simp only [Option.some.injEq, Prod.mk.injEq] at h; obtain ⟨rfl, -⟩ := h; exact ns_0
theorem ns_Pro {br : Bool} {sub : Nat → PR} (hp : nss t n sub) : nss t n (pPro t n hs sg br sub) := by
  intro a a1 f h
  unfold pPro at h
  split at h
  · cases h
  · next a2 g e => exact ns_tr (ns_Fac hp _ _ _ e) (ns_Mul hp _ _ _ _ _ h)
theorem ns_Add {br : Bool} {sub : Nat → PR} (hp : nss t n sub) : ∀ (q a : Nat) (f : Nat → Nat → TI) (a1 : Nat) (g : Nat → Nat → TI), pAdd t n hs sg br sub q a f = some (a1, g) → ns t n a a1
  | 0, a, f, a1, g, h => by simp only [pAdd, Option.some.injEq, Prod.mk.injEq] at h; obtain ⟨rfl, -⟩ := h; exact ns_0
  | q + 1, a, f, a1, g, h => by
    unfold pAdd at h
    split at h
    · next c =>
      split at h
      · cases h
      · next a2 g2 e => exact ns_tr (ns_1 rfl (by omega)) (ns_tr (ns_Pro hp _ _ _ e) (ns_Add hp q a2 _ a1 g h))
    · simp only [Option.some.injEq, Prod.mk.injEq] at h; obtain ⟨rfl, -⟩ := h; exact ns_0
theorem ns_Sum {br : Bool} {sub : Nat → PR} (hp : nss t n sub) : nss t n (pSum t n hs sg br sub) := by
  intro a a1 f h
  unfold pSum at h
  split at h
  · cases h
  · next a2 g e => exact ns_tr (ns_Pro hp _ _ _ e) (ns_Add hp _ _ _ _ _ h)
theorem ns_E : ∀ b, nss t n (pE t n hs sg b)
  | 0 => fun a a1 f h => ns_Sum (hs := hs) (sg := sg) (sub := fun _ => none) (fun a a1 f h => by cases h) a a1 f h
  | b + 1 => fun a a1 f h => ns_Sum (hs := hs) (sg := sg) (ns_E b) a a1 f h
theorem skp_ge : ∀ (f a a1 : Nat), a ≤ a1 → a1 ≤ n → n ≤ a + f → ns t n a a1 → a1 ≤ skp t n f a
  | 0, a, a1, h1, h2, h3, h => by unfold skp; omega
  | f + 1, a, a1, h1, h2, h3, h => by
    unfold skp
    split
    · next c =>
      by_cases e : a = a1
      · have := skp_le (t := t) (n := n) f (a + 1) (by omega); omega
      · exact skp_ge f (a + 1) a1 (by omega) h2 (by omega) (fun j x y => h j (by omega) y)
    · next c =>
      by_cases e : a = a1
      · omega
      · exfalso
        have := h a (Nat.le_refl _) (by omega)
        unfold pek at this
        rw [if_pos (by omega)] at this
        exact c ⟨by omega, this⟩
theorem skp_eq (h0 : ∀ i, i < n → t i ≠ 0) : ∀ (f a a1 : Nat), a ≤ a1 → a1 ≤ n → n ≤ a + f → ns t n a a1 → eob t n a1 → skp t n f a = a1
  | 0, a, a1, h1, h2, h3, h, he => by unfold skp; omega
  | f + 1, a, a1, h1, h2, h3, h, he => by
    unfold skp
    by_cases e : a = a1
    · subst e
      rw [if_neg]
      rintro ⟨c1, c2⟩
      unfold eob pek at he
      rw [if_pos c1] at he
      rcases he with z | z
      · exact h0 a c1 z
      · exact c2 z
    · have := h a (Nat.le_refl _) (by omega)
      unfold pek at this
      rw [if_pos (by omega)] at this
      rw [if_pos ⟨by omega, this⟩]
      exact skp_eq h0 f (a + 1) a1 (by omega) h2 (by omega) (fun j x y => h j (by omega) y) he
section PLACES
variable {p : Option Nat} {hs : List HD}
theorem tkI_ge {ch : Nat} : p.getD n ≤ (tkI t n ch p).getD n := by
  unfold tkI
  split
  · cases p <;> simp
  · exact Nat.le_refl _
theorem map_ge (hp : pOk n p) : p.getD n ≤ (p.map (· + 1)).getD n := by cases p <;> simp
theorem tk_ge {ch : Nat} (hp : pOk n p) : p.getD n ≤ (tk t n ch p).getD n := by
  unfold tk
  split
  · exact map_ge hp
  · exact pOk_le hp
theorem am_ge {lo hi : Nat} (hp : pOk n p) : p.getD n ≤ (am t n lo hi p).getD n := by
  unfold am
  split
  · exact map_ge hp
  · exact pOk_le hp
theorem tyP_ge (hp : pOk n p) : p.getD n ≤ (tyP t n p).getD n := by
  unfold tyP
  split
  · exact map_ge hp
  · exact tk_ge hp
theorem sgL_ge : ∀ (f k s : Nat) (p : Option Nat), pOk n p → p.getD n ≤ (sgL t n f k s p).2.getD n
  | 0, k, s, p, h => Nat.le_refl _
  | f + 1, k, s, p, h => by
    unfold sgL
    split
    · exact Nat.le_refl _
    · exact Nat.le_trans (tyP_ge h) (sgL_ge f _ _ _ (tyP_ok h))
theorem sgF_ge (hp : pOk n p) : p.getD n ≤ (sgF t n p).2.getD n := by
  have h1 := tk_ge (t := t) (ch := 40) hp
  have o1 := tk_ok (t := t) (n := n) (p := p) (ch := 40) (by decide)
  have h2 := sgL_ge (t := t) 3 1 0 _ o1
  have o2 := sgL_ok (t := t) 3 1 0 _ o1
  have h3 := tk_ge (t := t) (ch := 41) o2
  have o3 := tk_ok (t := t) (n := n) (p := (sgL t n 3 1 0 (tk t n 40 p)).2) (ch := 41) (by decide)
  have h4 := tyP_ge (t := t) o3
  exact Nat.le_trans h1 (Nat.le_trans h2 (Nat.le_trans h3 h4))
theorem hdP6_ge (hp : pOk n p) : p.getD n ≤ (hdP6 t n hs p).getD n := by
  have h1 : p.getD n ≤ (hdP2 t n p).getD n := by
    unfold hdP2
    split
    · exact Nat.le_trans tkI_ge (Nat.le_trans (am_ge (tkI_ok (by decide) hp)) (tk_ge (am_ok (by decide))))
    · exact Nat.le_trans tkI_ge tkI_ge
  have h2 : (hdP2 t n p).getD n ≤ (hdP4 t n hs p).getD n := by
    unfold hdP4
    split
    · exact am_ge (hdP2_ok hp)
    · exact pOk_le (hdP2_ok hp)
  have h3 := sgF_ge (t := t) (hdP4_ok (t := t) (n := n) (hs := hs) (p := p))
  unfold hdP6
  split
  · exact Nat.le_trans h1 (Nat.le_trans h2 (Nat.le_trans h3 (tk_ge (sgF_p hdP4_ok))))
  · exact Nat.le_trans h1 (Nat.le_trans h2 h3)
theorem hdP7_ge (hp : pOk n p) : p.getD n ≤ (hdP7 t n hs p).getD n := by
  have h1 := hdP6_ge (t := t) (hs := hs) hp
  have o1 := hdP6_ok (t := t) (n := n) (hs := hs) (p := p)
  unfold hdP7
  split
  · cases e : hdP6 t n hs p with
    | none => rw [e] at h1; exact h1
    | some a =>
      rw [e] at h1
      have := skp_le (t := t) (n - a) a (o1 a e)
      simp at h1 ⊢
      omega
  · exact h1
/-- behind a definition's head the place is the end of its body -/
theorem hdP7_sk (h0 : hdO t n p = 0) : (hdP7 t n hs p).getD n = skp t n (n - (hdP6 t n hs p).getD n) ((hdP6 t n hs p).getD n) := by
  unfold hdP7
  rw [if_pos h0]
  cases hdP6 t n hs p with
  | none =>
    simp
    unfold skp
    rfl
  | some a => rfl
def sko (t : Nat → Nat) (n : Nat) (hs : List HD) (x : Nat) : Prop := (∀ i j (hj : j < hs.length) (hi : i < j), (hs[i]'(by omega)).1 = 0 → (hs[j]).1 = 0 → skp t n (n - (hs[i]'(by omega)).2.2.2.2) (hs[i]'(by omega)).2.2.2.2 ≤ (hs[j]).2.2.2.2) ∧ ∀ i (hi : i < hs.length), (hs[i]).1 = 0 → skp t n (n - (hs[i]).2.2.2.2) (hs[i]).2.2.2.2 ≤ x
theorem hdL_sko : ∀ (f : Nat) (hs : List HD) (p : Option Nat), pOk n p → sko t n hs (p.getD n) → sko t n (hdL t n f hs p).1 ((hdL t n f hs p).2.getD n)
  | 0, hs, p, _, h => h
  | f + 1, hs, p, hp, h => by
    unfold hdL
    split
    · have o1 := tk_ok (t := t) (n := n) (p := p) (ch := 59) (by decide)
      have h1 := tk_ge (t := t) (ch := 59) hp
      have h2 := hdP6_ge (t := t) (hs := hs) o1
      have h7 := hdP7_ge (t := t) (hs := hs) o1
      refine hdL_sko f _ _ hdP7_ok ⟨fun i j hj hi e1 e2 => ?_, fun i hi e => ?_⟩
      · by_cases c : j < hs.length
        · simp only [List.getElem_append_left c, List.getElem_append_left (show i < hs.length by omega)] at e1 e2 ⊢
          exact h.1 i j c hi e1 e2
        · have c' : j = hs.length := by simp at hj; omega
          subst c'
          simp only [List.getElem_append_left hi, List.getElem_concat_length] at e1 e2 ⊢
          have := h.2 i hi e1
          have e3 : (hdD t n hs (tk t n 59 p)).2.2.2.2 = (hdP6 t n hs (tk t n 59 p)).getD n := by
            show (if hdO t n _ = 0 then _ else 0) = _
            exact if_pos e2
          rw [e3]
          omega
      · by_cases c : i < hs.length
        · simp only [List.getElem_append_left c] at e ⊢
          have := h.2 i c e
          omega
        · have c' : i = hs.length := by simp at hi; omega
          subst c'
          simp only [List.getElem_concat_length] at e ⊢
          have e3 : (hdD t n hs (tk t n 59 p)).2.2.2.2 = (hdP6 t n hs (tk t n 59 p)).getD n := by
            show (if hdO t n _ = 0 then _ else 0) = _
            exact if_pos e
          rw [e3, hdP7_sk e]
          exact Nat.le_refl _
    · exact h
theorem hds_sko : sko t n (hdsL t n) ((hdL t n 6 [] (am t n 65 70 (some 0))).2.getD n) := hdL_sko 6 [] _ (am_ok (by decide)) ⟨fun i j hj => absurd hj (Nat.not_lt_zero _), fun i hi => absurd hi (Nat.not_lt_zero _)⟩
end PLACES
end POS
