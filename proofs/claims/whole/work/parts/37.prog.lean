section PROG
variable {t : Nat → Nat} {n : Nat} {hs : List (Nat × Nat × Nat)} {sg : Nat}
theorem pek_in {a c : Nat} (h : pek t n a = c) (hc : c ≠ 0) : a < n := by
  unfold pek at h
  split at h
  · assumption
  · exact absurd h.symm hc
theorem pek_ge {a : Nat} (h : n ≤ a) : pek t n a = 0 := by simp [pek, Nat.not_lt.mpr h]
theorem pek_gt {a c : Nat} (h : c < pek t n a) : a < n := pek_in (c := pek t n a) rfl (by omega)
/-- what is read ends behind its beginning, in the text -/
def pgr (n : Nat) (sub : Nat → PR) : Prop := ∀ a a1 f, sub a = some (a1, f) → a < a1 ∧ a1 ≤ n
theorem nmb_pr : ∀ (f a v : Nat), a ≤ n → a ≤ (nmb t n f a v).1 ∧ (nmb t n f a v).1 ≤ n
  | 0, a, v, h => ⟨Nat.le_refl _, h⟩
  | f + 1, a, v, h => by
    unfold nmb
    split
    · next c =>
      have h1 : a < n := pek_gt (c := 0) (t := t) (by omega)
      have := nmb_pr f (a + 1) (10 * v + (pek t n a - 48)) (by omega)
      omega
    · exact ⟨Nat.le_refl _, h⟩
theorem nmb_lt {a v : Nat} (h : 48 ≤ pek t n a ∧ pek t n a ≤ 57) (f : Nat) : a < (nmb t n (f + 1) a v).1 ∧ (nmb t n (f + 1) a v).1 ≤ n := by
  have h1 : a < n := pek_gt (c := 0) (t := t) (by omega)
  unfold nmb
  rw [if_pos h]
  have := nmb_pr (t := t) (n := n) f (a + 1) (10 * v + (pek t n a - 48)) (by omega)
  omega
theorem pgr_Args {sub : Nat → PR} (hp : pgr n sub) (cs : Option Nat) : ∀ (f k a : Nat) (q : Nat → Nat → TA) (a1 k1 : Nat) (q1 : Nat → Nat → TA), pArgs t n sub cs f k a q = some (a1, k1, q1) → a < a1 ∧ a1 ≤ n
  | 0, k, a, q, a1, k1, q1, h => by simp [pArgs] at h
  | f + 1, k, a, q, a1, k1, q1, h => by
    unfold pArgs at h
    split at h
    · cases h
    · next a2 g e =>
      have h2 := hp a a2 g e
      split at h
      · have := pgr_Args hp cs f (k + 1) (a2 + 1) _ a1 k1 q1 h
        omega
      · simp only [Option.some.injEq, Prod.mk.injEq] at h
        omega
theorem pgr_Call {sub : Nat → PR} (hp : pgr n sub) {o m a a1 : Nat} {f : Nat → Nat → TI} (h : pCall t n hs sub o m a = some (a1, f)) : a < a1 ∧ a1 ≤ n := by
  unfold pCall at h
  split at h
  · next c =>
    have := pek_in c (by decide)
    simp only [Option.some.injEq, Prod.mk.injEq] at h
    omega
  · split at h
    · cases h
    · next a2 k q e =>
      have h2 := pgr_Args hp _ _ _ _ _ _ _ _ e
      split at h
      · next c =>
        have := pek_in c (by decide)
        simp only [Option.some.injEq, Prod.mk.injEq] at h
        omega
      · cases h
theorem pgr_Who {br : Bool} {sub : Nat → PR} (hp : pgr n sub) : pgr n (pWho t n hs sg br sub) := by
  intro a a1 f h
  unfold pWho at h
  split at h
  · next c =>
    have : a < (nmb t n 4 a 0).1 ∧ (nmb t n 4 a 0).1 ≤ n := nmb_lt (t := t) (n := n) (v := 0) c 3
    unfold pNum at h
    simp only [Option.some.injEq, Prod.mk.injEq] at h
    omega
  split at h
  · unfold pPar at h
    split at h
    · next c =>
      have := pek_gt (c := 0) (t := t) (n := n) (a := a + 1) (by omega)
      simp only [Option.some.injEq, Prod.mk.injEq] at h
      omega
    · cases h
  split at h
  · cases h
  split at h
  · split at h
    · have := pgr_Call hp h
      omega
    · cases h
  split at h
  · split at h
    · have := pgr_Call hp h
      omega
    · cases h
  split at h
  · unfold pGrp at h
    split at h
    · cases h
    · next a2 g e =>
      have h2 := hp _ _ _ e
      split at h
      · next c =>
        have := pek_in c (by decide)
        simp only [Option.some.injEq, Prod.mk.injEq] at h
        omega
      · cases h
  split at h
  · unfold pPair at h
    split at h
    · cases h
    · next a2 g e =>
      have h2 := hp _ _ _ e
      split at h
      · split at h
        · cases h
        · next a3 g3 e3 =>
          have h3 := hp _ _ _ e3
          split at h
          · next c =>
            have := pek_in c (by decide)
            simp only [Option.some.injEq, Prod.mk.injEq] at h
            omega
          · cases h
      · cases h
  split at h
  · unfold pCho at h
    split at h
    · cases h
    · next a2 g e =>
      have h2 := hp _ _ _ e
      split at h
      · split at h
        · cases h
        · next a3 g3 e3 =>
          have h3 := hp _ _ _ e3
          split at h
          · split at h
            · cases h
            · next a4 g4 e4 =>
              have h4 := hp _ _ _ e4
              split at h
              · next c =>
                have := pek_in c (by decide)
                simp only [Option.some.injEq, Prod.mk.injEq] at h
                omega
              · cases h
          · cases h
      · cases h
  · cases h
theorem pgr_Fac {br : Bool} {sub : Nat → PR} (hp : pgr n sub) : pgr n (pFac t n hs sg br sub) := by
  intro a a1 f h
  unfold pFac at h
  split at h
  · cases h
  · next a2 g e =>
    have h2 := pgr_Who hp _ _ _ e
    split at h
    · split at h
      · next c =>
        have := pek_in c (by decide)
        simp only [Option.some.injEq, Prod.mk.injEq] at h
        omega
      · split at h
        · next c =>
          have := pek_in c (by decide)
          simp only [Option.some.injEq, Prod.mk.injEq] at h
          omega
        · cases h
    · simp only [Option.some.injEq, Prod.mk.injEq] at h
      omega
theorem pgr_Mul {br : Bool} {sub : Nat → PR} (hp : pgr n sub) : ∀ (q a : Nat) (f : Nat → Nat → TI) (a1 : Nat) (g : Nat → Nat → TI), pMul t n hs sg br sub q a f = some (a1, g) → a ≤ n → a ≤ a1 ∧ a1 ≤ n
  | 0, a, f, a1, g, h, ha => by simp only [pMul, Option.some.injEq, Prod.mk.injEq] at h; omega
  | q + 1, a, f, a1, g, h, ha => by
    unfold pMul at h
    split at h
    · split at h
      · cases h
      · next a2 g2 e =>
        have h2 := pgr_Fac hp _ _ _ e
        have := pgr_Mul hp q a2 _ a1 g h (by omega)
        omega
    · simp only [Option.some.injEq, Prod.mk.injEq] at h; omega
theorem pgr_Pro {br : Bool} {sub : Nat → PR} (hp : pgr n sub) : pgr n (pPro t n hs sg br sub) := by
  intro a a1 f h
  unfold pPro at h
  split at h
  · cases h
  · next a2 g e =>
    have h2 := pgr_Fac hp _ _ _ e
    have := pgr_Mul hp _ _ _ _ _ h (by omega)
    omega
theorem pgr_Add {br : Bool} {sub : Nat → PR} (hp : pgr n sub) : ∀ (q a : Nat) (f : Nat → Nat → TI) (a1 : Nat) (g : Nat → Nat → TI), pAdd t n hs sg br sub q a f = some (a1, g) → a ≤ n → a ≤ a1 ∧ a1 ≤ n
  | 0, a, f, a1, g, h, ha => by simp only [pAdd, Option.some.injEq, Prod.mk.injEq] at h; omega
  | q + 1, a, f, a1, g, h, ha => by
    unfold pAdd at h
    split at h
    · split at h
      · cases h
      · next a2 g2 e =>
        have h2 := pgr_Pro hp _ _ _ e
        have := pgr_Add hp q a2 _ a1 g h (by omega)
        omega
    · simp only [Option.some.injEq, Prod.mk.injEq] at h; omega
theorem pgr_Sum {br : Bool} {sub : Nat → PR} (hp : pgr n sub) : pgr n (pSum t n hs sg br sub) := by
  intro a a1 f h
  unfold pSum at h
  split at h
  · cases h
  · next a2 g e =>
    have h2 := pgr_Pro hp _ _ _ e
    have := pgr_Add hp _ _ _ _ _ h (by omega)
    omega
theorem pgr_E : ∀ b, pgr n (pE t n hs sg b)
  | 0 => fun a a1 f h => pgr_Sum (hs := hs) (sg := sg) (t := t) (sub := fun _ => none) (fun a a1 f h => by cases h) a a1 f h
  | b + 1 => fun a a1 f h => pgr_Sum (hs := hs) (sg := sg) (t := t) (pgr_E b) a a1 f h
/-- behind the end nothing can be read -/
theorem pWho_n {br : Bool} {sub : Nat → PR} {a : Nat} (h : n ≤ a) : pWho t n hs sg br sub a = none := by
  have := pek_ge (t := t) h
  unfold pWho
  rw [this]
  simp
theorem pE_n {b a : Nat} (h : n ≤ a) : pE t n hs sg b a = none := by
  cases b <;> simp [pE, pSum, pPro, pFac, pWho_n h]
end PROG
