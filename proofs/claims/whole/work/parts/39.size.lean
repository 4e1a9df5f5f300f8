/-! how long a code is, in the class and in the reference; what a place in it holds -/
def kcl (e : Ev) : Nat := if e.1 = 9 then 0 else 1
def krf (e : Ev) : Nat := if e.1 = 3 ∨ e.1 = 4 ∨ e.1 = 8 then 0 else 1
def cpos : List Ev → Nat
  | [] => 0
  | e :: l => kcl e + cpos l
def rpos : List Ev → Nat
  | [] => 0
  | e :: l => krf e + rpos l
theorem cpos_app : ∀ (a b : List Ev), cpos (a ++ b) = cpos a + cpos b
  | [], b => by simp [cpos]
  | e :: l, b => by simp [cpos, cpos_app l b]; omega
theorem rpos_app : ∀ (a b : List Ev), rpos (a ++ b) = rpos a + rpos b
  | [], b => by simp [rpos]
  | e :: l, b => by simp [rpos, rpos_app l b]; omega
/-- where each event stands in the class's code -/
def cmp (P : Nat → Nat) : Nat → List Ev → Prop
  | _, [] => True
  | b, e :: l => P (b + 1) = P b + kcl e ∧ cmp P (b + 1) l
theorem cmp_app {P : Nat → Nat} : ∀ (x y : List Ev) (b : Nat), cmp P b (x ++ y) ↔ cmp P b x ∧ cmp P (b + x.length) y
  | [], y, b => by simp [cmp]
  | e :: l, y, b => by
    simp only [List.cons_append, cmp, List.length_cons]
    rw [cmp_app l y (b + 1), show b + 1 + l.length = b + (l.length + 1) by omega, and_assoc]
theorem cmp_end {P : Nat → Nat} : ∀ (x : List Ev) (b : Nat), cmp P b x → P (b + x.length) = P b + cpos x
  | [], b, _ => by simp [cpos]
  | e :: l, b, h => by
    have := cmp_end l (b + 1) h.2
    simp only [List.length_cons, cpos]
    rw [show b + (l.length + 1) = b + 1 + l.length by omega, this, h.1]
    omega
/-- an event as the class writes it down -/
def enc (me : Nat) (P : Nat → Nat) (e : Ev) : Nat := match e.1 with
  | 0 => 16 * e.2.1
  | 1 => 1 + 16 * e.2.1
  | 2 => 2 + 16 * e.2.1
  | 3 => 3
  | 4 => 4
  | 5 => 5
  | 6 => 6
  | 7 => 7
  | 8 => 8
  | 10 => 9
  | 11 => 10 + 16 * P e.2.1
  | 12 => 11 + 16 * P e.2.1
  | 13 => 12 + 16 * (if e.2.1 < 26 then me * 26 + e.2.1 else e.2.1 - 26)
  | _ => 13
def Rep (F : Nat → Int32) (me : Nat) (P : Nat → Nat) : Nat → List Ev → Prop
  | _, [] => True
  | b, e :: l => (e.1 ≠ 9 → F (P b) = nI (enc me P e)) ∧ Rep F me P (b + 1) l
theorem Rep_app {F : Nat → Int32} {me : Nat} {P : Nat → Nat} : ∀ (x y : List Ev) (b : Nat), Rep F me P b (x ++ y) ↔ Rep F me P b x ∧ Rep F me P (b + x.length) y
  | [], y, b => by simp [Rep]
  | e :: l, y, b => by
    simp only [List.cons_append, Rep, List.length_cons]
    rw [Rep_app l y (b + 1), show b + 1 + l.length = b + (l.length + 1) by omega, and_assoc]
theorem Rep_keep {F G : Nat → Int32} {me : Nat} {P : Nat → Nat} : ∀ (x : List Ev) (b : Nat), cmp P b x → (∀ p, P b ≤ p → p < P b + cpos x → G p = F p) → Rep F me P b x → Rep G me P b x
  | [], _, _, _, _ => trivial
  | e :: l, b, hc, hk, h => by
    have h1 := hc.1
    simp only [cpos] at hk
    refine ⟨fun ne => ?_, Rep_keep l (b + 1) hc.2 (fun p p1 p2 => hk p (by omega) (by omega)) h.2⟩
    rw [hk (P b) (Nat.le_refl _) (by simp [kcl, ne]; omega)]
    exact h.1 ne
/-- what is read from a to a1 is short -/
def sz (a a1 : Nat) (f : Nat → Nat → TI) : Prop := ∀ bs hd y e m, f bs hd = some (y, e, m) → (y = 1 ∨ y = 2) ∧ cpos e + 1 ≤ 2 * (a1 - a) ∧ rpos e ≤ a1 - a ∧ m ≤ hd + 2 * (a1 - a)
def szs (sub : Nat → PR) : Prop := ∀ a a1 f, sub a = some (a1, f) → sz a a1 f
section SIZE
variable {t : Nat → Nat} {n : Nat} {hs : List (Nat × Nat × Nat)} {sg : Nat}
theorem sz_op {a a1 a2 k : Nat} {f g : Nat → Nat → TI} (hk : k = 5 ∨ k = 6 ∨ k = 7 ∨ k = 8) (h1 : a < a1) (h2 : a1 + 1 < a2) (hf : sz a a1 f) (hg : sz (a1 + 1) a2 g) (x : Nat) (hx : a2 ≤ x) : sz a x (fun bs hd => tOp k hd (f bs hd) (g (bs + tl (f bs hd) + 1) (hd + 1))) := by
  intro bs hd y e m h
  dsimp only at h
  unfold tOp at h
  split at h
  · next e1 m1 e2 m2 q1 q2 =>
    obtain ⟨-, b1, b2, b3⟩ := hf bs hd _ _ _ q1
    obtain ⟨-, c1, c2, c3⟩ := hg _ _ _ _ _ q2
    simp only [Option.some.injEq, Prod.mk.injEq] at h
    obtain ⟨rfl, rfl, rfl⟩ := h
    have k9 : kcl (k, 0, hd + 1, 1) = 1 := by simp only [kcl]; rw [if_neg (by omega)]
    have k8 : krf (k, 0, hd + 1, 1) ≤ 1 := by simp only [krf]; split <;> omega
    simp only [cpos_app, rpos_app, cpos, rpos, k9]
    simp only [kcl, krf] at *
    refine ⟨by split <;> omega, ?_, ?_, ?_⟩
    · simp; omega
    · simp; omega
    · omega
  · cases h
theorem sz_mono {a a1 a2 : Nat} {f : Nat → Nat → TI} (h : sz a a1 f) (h2 : a1 ≤ a2) : sz a a2 f := by
  intro bs hd y e m q
  have := h bs hd y e m q
  omega
theorem sz_low {a b a1 : Nat} {f : Nat → Nat → TI} (h : sz b a1 f) (h2 : a ≤ b) : sz a a1 f := by
  intro bs hd y e m q
  have := h bs hd y e m q
  omega
theorem sz_Args {sub : Nat → PR} (hp : pgr n sub) (hz : szs sub) (cs : Option Nat) : ∀ (f k a : Nat) (q : Nat → Nat → TA) (a1 k1 : Nat) (q1 : Nat → Nat → TA) (a0 : Nat), a0 ≤ a → (∀ bs hd e m hc, q bs hd = some (e, m, hc) → cpos e ≤ 2 * (a - a0) ∧ rpos e ≤ a - a0 ∧ hc ≤ hd + 2 * (a - a0) ∧ m ≤ hd + 2 * (a - a0)) → pArgs t n sub cs f k a q = some (a1, k1, q1) → ∀ bs hd e m hc, q1 bs hd = some (e, m, hc) → cpos e ≤ 2 * (a1 - a0) ∧ rpos e ≤ a1 - a0 ∧ hc ≤ hd + 2 * (a1 - a0) ∧ m ≤ hd + 2 * (a1 - a0)
  | 0, k, a, q, a1, k1, q1, a0, h0, hq, h => by simp [pArgs] at h
  | f + 1, k, a, q, a1, k1, q1, a0, h0, hq, h => by
    unfold pArgs at h
    split at h
    · cases h
    · next a2 g e0 =>
      have h2 := hp a a2 g e0
      have h3 := hz a a2 g e0
      have key : ∀ bs hd e m hc, tArg cs k (q bs hd) g bs = some (e, m, hc) → cpos e ≤ 2 * (a2 - a0) ∧ rpos e ≤ a2 - a0 ∧ hc ≤ hd + 2 * (a2 - a0) ∧ m ≤ hd + 2 * (a2 - a0) := by
        intro bs hd e m hc hh
        unfold tArg at hh
        split at hh
        · next s e1 m1 hc1 w1 w2 =>
          obtain ⟨b1, b2, b3, b4⟩ := hq _ _ _ _ _ w2
          split at hh
          · next y e2 m2 w3 =>
            obtain ⟨c0, c1, c2, c3⟩ := h3 _ _ _ _ _ w3
            split at hh
            · simp only [Option.some.injEq, Prod.mk.injEq] at hh
              obtain ⟨rfl, rfl, rfl⟩ := hh
              simp only [cpos_app, rpos_app, cpos, rpos, kcl, krf]
              rw [if_pos (show 2 + y = 3 ∨ 2 + y = 4 ∨ 2 + y = 8 by omega)]
              split <;> omega
            · cases hh
          · cases hh
        · cases hh
      split at h
      · next c =>
        refine sz_Args hp hz cs f (k + 1) (a2 + 1) _ a1 k1 q1 a0 (by omega) ?_ h
        intro bs hd e m hc hh
        have := key bs hd e m hc hh
        omega
      · simp only [Option.some.injEq, Prod.mk.injEq] at h
        obtain ⟨rfl, rfl, rfl⟩ := h
        exact key
theorem sz_tCall {a a1 a2 o m k : Nat} {cs : Option Nat} {q : Nat → Nat → TA} (h1 : a ≤ a1) (h2 : a1 < a2) (hcs : ∀ s, cs = some s → ta s 0 = 1 ∨ ta s 0 = 2) (hq : ∀ bs hd e mx hc, q bs hd = some (e, mx, hc) → cpos e ≤ 2 * (a1 - a) ∧ rpos e ≤ a1 - a ∧ hc ≤ hd + 2 * (a1 - a) ∧ mx ≤ hd + 2 * (a1 - a)) : sz a a2 (fun bs hd => tCall cs o m k (q bs hd)) := by
  intro bs hd y e mm h
  dsimp only at h
  unfold tCall at h
  split at h
  · next s e1 m1 hc1 w2 =>
    obtain ⟨b1, b2, b3, b4⟩ := hq _ _ _ _ _ w2
    split at h
    · simp only [Option.some.injEq, Prod.mk.injEq] at h
      obtain ⟨rfl, rfl, rfl⟩ := h
      have := hcs s rfl
      simp only [cpos_app, rpos_app, cpos, rpos, kcl, krf]
      simp
      omega
    · cases h
  · cases h
/-- every head's signature has a result -/
def hsok (hs : List (Nat × Nat × Nat)) : Prop := ∀ q ∈ hs, ta q.2.2 0 = 1 ∨ ta q.2.2 0 = 2
theorem lkp_in : ∀ (hs : List (Nat × Nat × Nat)) (o m s : Nat), lkp hs o m = some s → ∃ q ∈ hs, q.1 = o ∧ q.2.1 = m ∧ q.2.2 = s
  | [], o, m, s, h => by simp [lkp] at h
  | q :: l, o, m, s, h => by
    unfold lkp at h
    split at h
    · next c => exact ⟨q, List.mem_cons_self, c.1, c.2, by simpa using h⟩
    · obtain ⟨p, h1, h2⟩ := lkp_in l o m s h
      exact ⟨p, List.mem_cons_of_mem _ h1, h2⟩
theorem ta_le (s k : Nat) : ta s k ≤ 3 := by unfold ta; split <;> omega
theorem sz_Call {sub : Nat → PR} (hp : pgr n sub) (hz : szs sub) (hh : hsok hs) {o m a a1 : Nat} {f : Nat → Nat → TI} (h : pCall t n hs sub o m a = some (a1, f)) : sz a a1 f := by
  have hcs : ∀ s, lkp hs o m = some s → ta s 0 = 1 ∨ ta s 0 = 2 := fun s q => by
    obtain ⟨p, h1, -, -, h2⟩ := lkp_in _ _ _ _ q
    rw [← h2]; exact hh p h1
  unfold pCall at h
  split at h
  · simp only [Option.some.injEq, Prod.mk.injEq] at h
    obtain ⟨rfl, rfl⟩ := h
    exact sz_tCall (a1 := a) (q := fun _ hd => some ([], 0, hd)) (Nat.le_refl _) (by omega) hcs (fun bs hd e mx hc q => by
      simp only [Option.some.injEq, Prod.mk.injEq] at q
      obtain ⟨rfl, rfl, rfl⟩ := q
      simp [cpos, rpos])
  · split at h
    · cases h
    · next a2 k q e =>
      have h2 := pgr_Args hp _ _ _ _ _ _ _ _ e
      split at h
      · simp only [Option.some.injEq, Prod.mk.injEq] at h
        obtain ⟨rfl, rfl⟩ := h
        refine sz_tCall (a1 := a2) (by omega) (by omega) hcs (sz_Args hp hz _ _ _ _ _ _ _ _ a (Nat.le_refl _) ?_ e)
        intro bs hd e mx hc q
        simp only [Option.some.injEq, Prod.mk.injEq] at q
        obtain ⟨rfl, rfl, rfl⟩ := q
        simp [cpos, rpos]
      · cases h
theorem sz_Who {br : Bool} {sub : Nat → PR} (hp : pgr n sub) (hz : szs sub) (hh : hsok hs) (hsg : sg < 256) (hty : ∀ k, ta sg k ≠ 3) : szs (pWho t n hs sg br sub) := by
  intro a a1 f h
  have hlt := pgr_Who hp _ _ _ h
  unfold pWho at h
  split at h
  · unfold pNum at h
    simp only [Option.some.injEq, Prod.mk.injEq] at h
    obtain ⟨-, rfl⟩ := h
    intro bs hd y e m q
    simp only [Option.some.injEq, Prod.mk.injEq] at q
    obtain ⟨rfl, rfl, rfl⟩ := q
    simp [cpos, rpos, kcl, krf]
    omega
  split at h
  · unfold pPar at h
    split at h
    · next c =>
      simp only [Option.some.injEq, Prod.mk.injEq] at h
      obtain ⟨rfl, rfl⟩ := h
      intro bs hd y e m q
      dsimp only at q
      split at q
      · cases q
      · next c2 =>
        simp only [Option.some.injEq, Prod.mk.injEq] at q
        obtain ⟨rfl, rfl, rfl⟩ := q
        have h3 := hty (pek t n (a + 1) - 48)
        have h4 := ta_le sg (pek t n (a + 1) - 48)
        refine ⟨by omega, ?_, ?_, by omega⟩
        · simp only [cpos, kcl]; split <;> omega
        · simp only [rpos, krf]; split <;> omega
    · cases h
  split at h
  · cases h
  split at h
  · split at h
    · exact sz_low (sz_Call hp hz hh h) (by omega)
    · cases h
  split at h
  · split at h
    · exact sz_low (sz_Call hp hz hh h) (by omega)
    · cases h
  split at h
  · unfold pGrp at h
    split at h
    · cases h
    · next a2 g e =>
      have h2 := hp _ _ _ e
      split at h
      · simp only [Option.some.injEq, Prod.mk.injEq] at h
        obtain ⟨rfl, rfl⟩ := h
        exact sz_low (sz_mono (hz _ _ _ e) (by omega)) (by omega)
      · cases h
  split at h
  · unfold pPair at h
    split at h
    · cases h
    · next a2 g e =>
      have h2 := hp _ _ _ e
      split at h
      · split at h
        · cases h
        · next a3 g3 e3 =>
          have h3 := hp _ _ _ e3
          split at h
          · simp only [Option.some.injEq, Prod.mk.injEq] at h
            obtain ⟨rfl, rfl⟩ := h
            exact sz_low (sz_op (by omega) h2.1 h3.1 (hz _ _ _ e) (hz _ _ _ e3) (a3 + 1) (by omega)) (by omega)
          · cases h
      · cases h
  split at h
  · unfold pCho at h
    split at h
    · cases h
    · next a2 g e =>
      have h2 := hp _ _ _ e
      split at h
      · split at h
        · cases h
        · next a3 g3 e3 =>
          have h3 := hp _ _ _ e3
          split at h
          · split at h
            · cases h
            · next a4 g4 e4 =>
              have h4 := hp _ _ _ e4
              split at h
              · simp only [Option.some.injEq, Prod.mk.injEq] at h
                obtain ⟨rfl, rfl⟩ := h
                intro bs hd y ev m q
                dsimp only at q
                unfold tCho at q
                split at q
                · next e1 m1 y2 e2 m2 z3 e3' m3 q1 q2 q3 =>
                  obtain ⟨-, b1, b2, b3⟩ := hz _ _ _ e _ _ _ _ _ q1
                  obtain ⟨c0, c1, c2, c3⟩ := hz _ _ _ e3 _ _ _ _ _ q2
                  obtain ⟨d0, d1, d2, d3⟩ := hz _ _ _ e4 _ _ _ _ _ q3
                  split at q
                  · simp only [Option.some.injEq, Prod.mk.injEq] at q
                    obtain ⟨rfl, rfl, rfl⟩ := q
                    simp only [cpos_app, rpos_app, cpos, rpos, kcl, krf]
                    simp
                    omega
                  · cases q
                · cases q
              · cases h
          · cases h
      · cases h
  · cases h
theorem sz_Fac {br : Bool} {sub : Nat → PR} (hp : pgr n sub) (hz : szs sub) (hh : hsok hs) (hsg : sg < 256) (hty : ∀ k, ta sg k ≠ 3) : szs (pFac t n hs sg br sub) := by
  intro a a1 f h
  unfold pFac at h
  split at h
  · cases h
  · next a2 g e =>
    have h2 := pgr_Who hp _ _ _ e
    have h3 := sz_Who hp hz hh hsg hty _ _ _ e
    have key : ∀ k, k = 9 ∨ k = 10 → sz a (a2 + 2) (fun bs hd => tPrj k hd (g bs hd)) := by
      intro k hk bs hd y ev m q
      dsimp only at q
      unfold tPrj at q
      split at q
      · next e1 m1 q1 =>
        obtain ⟨-, b1, b2, b3⟩ := h3 _ _ _ _ _ q1
        simp only [Option.some.injEq, Prod.mk.injEq] at q
        obtain ⟨rfl, rfl, rfl⟩ := q
        simp only [cpos_app, rpos_app, cpos, rpos]
        have z1 : kcl (k, 0, hd, 2) ≤ 1 := by simp only [kcl]; split <;> omega
        have z2 : krf (k, 0, hd, 2) ≤ 1 := by simp only [krf]; split <;> omega
        refine ⟨by simp, ?_, ?_, ?_⟩
        · omega
        · omega
        · omega
      · cases q
    split at h
    · split at h
      · simp only [Option.some.injEq, Prod.mk.injEq] at h
        obtain ⟨rfl, rfl⟩ := h
        exact key 9 (Or.inl rfl)
      · split at h
        · simp only [Option.some.injEq, Prod.mk.injEq] at h
          obtain ⟨rfl, rfl⟩ := h
          exact key 10 (Or.inr rfl)
        · cases h
    · simp only [Option.some.injEq, Prod.mk.injEq] at h
      obtain ⟨rfl, rfl⟩ := h
      exact h3
theorem sz_Mul {br : Bool} {sub : Nat → PR} (hp : pgr n sub) (hz : szs sub) (hh : hsok hs) (hsg : sg < 256) (hty : ∀ k, ta sg k ≠ 3) : ∀ (q a : Nat) (f : Nat → Nat → TI) (a1 : Nat) (g : Nat → Nat → TI) (a0 : Nat), a0 < a → sz a0 a f → pMul t n hs sg br sub q a f = some (a1, g) → sz a0 a1 g
  | 0, a, f, a1, g, a0, h0, hf, h => by simp only [pMul, Option.some.injEq, Prod.mk.injEq] at h; obtain ⟨rfl, rfl⟩ := h; exact hf
  | q + 1, a, f, a1, g, a0, h0, hf, h => by
    unfold pMul at h
    split at h
    · split at h
      · cases h
      · next a2 g2 e =>
        have h2 := pgr_Fac hp _ _ _ e
        exact sz_Mul hp hz hh hsg hty q a2 _ a1 g a0 (by omega) (sz_op (by omega) h0 h2.1 hf (sz_Fac hp hz hh hsg hty _ _ _ e) a2 (Nat.le_refl _)) h
    · simp only [Option.some.injEq, Prod.mk.injEq] at h; obtain ⟨rfl, rfl⟩ := h; exact hf
theorem sz_Pro {br : Bool} {sub : Nat → PR} (hp : pgr n sub) (hz : szs sub) (hh : hsok hs) (hsg : sg < 256) (hty : ∀ k, ta sg k ≠ 3) : szs (pPro t n hs sg br sub) := by
  intro a a1 f h
  unfold pPro at h
  split at h
  · cases h
  · next a2 g e => exact sz_Mul hp hz hh hsg hty _ _ _ _ _ a (pgr_Fac hp _ _ _ e).1 (sz_Fac hp hz hh hsg hty _ _ _ e) h
theorem sz_Add {br : Bool} {sub : Nat → PR} (hp : pgr n sub) (hz : szs sub) (hh : hsok hs) (hsg : sg < 256) (hty : ∀ k, ta sg k ≠ 3) : ∀ (q a : Nat) (f : Nat → Nat → TI) (a1 : Nat) (g : Nat → Nat → TI) (a0 : Nat), a0 < a → sz a0 a f → pAdd t n hs sg br sub q a f = some (a1, g) → sz a0 a1 g
  | 0, a, f, a1, g, a0, h0, hf, h => by simp only [pAdd, Option.some.injEq, Prod.mk.injEq] at h; obtain ⟨rfl, rfl⟩ := h; exact hf
  | q + 1, a, f, a1, g, a0, h0, hf, h => by
    unfold pAdd at h
    split at h
    · split at h
      · cases h
      · next a2 g2 e =>
        have h2 := pgr_Pro hp _ _ _ e
        exact sz_Add hp hz hh hsg hty q a2 _ a1 g a0 (by omega) (sz_op (by split <;> omega) h0 h2.1 hf (sz_Pro hp hz hh hsg hty _ _ _ e) a2 (Nat.le_refl _)) h
    · simp only [Option.some.injEq, Prod.mk.injEq] at h; obtain ⟨rfl, rfl⟩ := h; exact hf
theorem sz_Sum {br : Bool} {sub : Nat → PR} (hp : pgr n sub) (hz : szs sub) (hh : hsok hs) (hsg : sg < 256) (hty : ∀ k, ta sg k ≠ 3) : szs (pSum t n hs sg br sub) := by
  intro a a1 f h
  unfold pSum at h
  split at h
  · cases h
  · next a2 g e => exact sz_Add hp hz hh hsg hty _ _ _ _ _ a (pgr_Pro hp _ _ _ e).1 (sz_Pro hp hz hh hsg hty _ _ _ e) h
theorem sz_E (hh : hsok hs) (hsg : sg < 256) (hty : ∀ k, ta sg k ≠ 3) : ∀ b, szs (pE t n hs sg b)
  | 0 => fun a a1 f h => sz_Sum (n := n) (t := t) (sub := fun _ => none) (fun a a1 f h => by cases h) (fun a a1 f h => by cases h) hh hsg hty a a1 f h
  | b + 1 => fun a a1 f h => sz_Sum (pgr_E b) (sz_E hh hsg hty b) hh hsg hty a a1 f h
end SIZE
