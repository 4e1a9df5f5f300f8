/-! what the parser of the reference may change; its code so far; its state by what has been read -/
def xF (h0 g : jH) : Prop := g.2 = h0.2 ∧ ∀ k j, ¬ ((k = 70 ∧ (j = 4 ∨ j = 5 ∨ j = 6 ∨ j = 21 ∨ j = 23 ∨ j = 31 ∨ j = 32 ∨ j = 33)) ∨ (85 ≤ k ∧ k ≤ 91) ∨ (82 ≤ k ∧ k ≤ 84 ∧ 780 ≤ j)) → g.1 k j = h0.1 k j
/-- the levels up to L are as they were -/
def lF (L : Nat) (g1 g : jH) : Prop := ∀ k j, 85 ≤ k → k ≤ 91 → j ≤ L → g.1 k j = g1.1 k j
/-- the code holds these events; of those in H the operand is still to come -/
def rR (g : jH) (H : Nat → Prop) (e : List Ev) : Prop := ∀ p x, e[p]? = some x → krf x = 1 → g.1 82 (780 + Rc e p) = nI (renc x) ∧ (¬ H p → g.1 83 (780 + Rc e p) = nI (rnum (Rc e) x) ∧ ((x.1 = 11 ∨ x.1 = 12) → x.2.1 ≤ e.length)) ∧ (x.1 = 13 → g.1 84 (780 + Rc e p) = nI x.2.2.1)
def xE (g : jH) (dc : Bool) (H : Nat → Prop) (c a : Nat) (q : TA) (s : Nat) (ty : Bool) : Prop := s + c + 1 ≤ a ∧ (dc = false → match q with
  | none => ty = false
  | some z => ty = true ∧ g.1 70 31 = nI z.2.2 ∧ g.1 70 32 = nI z.2.1 ∧ s = rpos z.1 ∧ z.2.2 ≤ 2 * a ∧ z.2.1 ≤ 2 * a ∧ rR g H z.1)
/-- a value read behind q -/
def app (q : TA) (f : Nat → Nat → TI) : TA := match q with
  | none => none
  | some z => match f z.1.length z.2.2 with
    | none => none
    | some r => some (z.1 ++ r.2.1, max z.2.1 r.2.2, z.2.2)
def tyq (q : TA) (f : Nat → Nat → TI) : Option Nat := match q with
  | none => none
  | some z => match f z.1.length z.2.2 with
    | none => none
    | some r => some r.1
/-- a number read behind q, and held -/
def hq1 (q : TA) (f : Nat → Nat → TI) : TA := match q with
  | none => none
  | some z => match f z.1.length z.2.2 with
    | some (1, e, m) => some (z.1 ++ (e ++ [(3, 0, z.2.2, 1)]), max (max z.2.1 m) (z.2.2 + 1), z.2.2 + 1)
    | _ => none
def opC (k : Nat) (f g : Nat → Nat → TI) : Nat → Nat → TI := fun bs hd => tOp k hd (f bs hd) (g (bs + tl (f bs hd) + 1) (hd + 1))
def xK (h0 g : jH) (dc : Bool) (H : Nat → Prop) (L c a : Nat) (q : TA) (s : Nat) (ty : Bool) : Prop := xF h0 g ∧ g.1 70 23 = nI (L + 1) ∧ g.1 70 21 = nI s ∧ xE g dc H c a q s ty
def xV (h0 g1 g : jH) (dc : Bool) (H : Nat → Prop) (L c a : Nat) (q : TA) (f : Nat → Nat → TI) (s : Nat) (ty : Bool) : Prop := xK h0 g dc H L c a (app q f) s ty ∧ lF L g1 g ∧ ∃ ip, g.1 70 33 = bI ip ∧ (dc = false → ∀ y, tyq q f = some y → (y = 1 ∨ y = 2) ∧ ip = (y == 2))
section X2
variable {h0 g1 g g' : jH} {dc ty ip : Bool} {H : Nat → Prop} {L c a s : Nat} {q : TA} {f f2 : Nat → Nat → TI} {e : List Ev} {x : Ev}
theorem xF_rf : xF h0 h0 := ⟨rfl, fun _ _ _ => rfl⟩
theorem xF_tr {a b c : jH} (h1 : xF a b) (h2 : xF b c) : xF a c := ⟨h2.1.trans h1.1, fun k j z => (h2.2 k j z).trans (h1.2 k j z)⟩
theorem xF_up (F : xF h0 g) {k j : Nat} {v : Int32} (hk : (k = 70 ∧ (j = 4 ∨ j = 5 ∨ j = 6 ∨ j = 21 ∨ j = 23 ∨ j = 31 ∨ j = 32 ∨ j = 33)) ∨ (85 ≤ k ∧ k ≤ 91) ∨ (82 ≤ k ∧ k ≤ 84 ∧ 780 ≤ j)) : xF h0 (up2 g.1 k j v, g.2) := ⟨F.1, fun k' j' z => by dsimp only; rw [up2_n (by rintro ⟨rfl, rfl⟩; exact z hk)]; exact F.2 k' j' z⟩
theorem lF_rf : lF L g g := fun _ _ _ _ _ => rfl
theorem lF_tr {a b c : jH} (h1 : lF L a b) (h2 : lF L b c) : lF L a c := fun k j x y z => (h2 k j x y z).trans (h1 k j x y z)
theorem lF_up (F : lF L g1 g) {k j : Nat} {v : Int32} (hk : ¬ (85 ≤ k ∧ k ≤ 91 ∧ j ≤ L)) : lF L g1 (up2 g.1 k j v, g.2) := fun k' j' x y z => by dsimp only; rw [up2_n (by rintro ⟨rfl, rfl⟩; exact hk ⟨x, y, z⟩)]; exact F k' j' x y z
theorem Rc_app {y : List Ev} {p : Nat} (h : p ≤ e.length) : Rc (e ++ y) p = Rc e p := by unfold Rc; rw [List.take_append_of_le_length h]
theorem Rc_len : Rc e e.length = rpos e := by unfold Rc; rw [List.take_length]
theorem Rc_s {p : Nat} (h : e[p]? = some x) : Rc e (p + 1) = Rc e p + krf x := by
  unfold Rc
  have hp := (List.getElem?_eq_some_iff.mp h).1
  have hx := (List.getElem?_eq_some_iff.mp h).2
  rw [List.take_succ_eq_append_getElem hp, rpos_app, hx]
  simp [rpos]
theorem Rc_mono {p p' : Nat} (h : p ≤ p') : Rc e p ≤ Rc e p' := by
  unfold Rc
  have : e.take p' = e.take p ++ (e.take p').drop p := by
    conv => lhs; rw [← List.take_append_drop p (e.take p')]
    rw [List.take_take, Nat.min_eq_left h]
  rw [this, rpos_app]
  omega
theorem Rc_lt {p : Nat} (h : e[p]? = some x) (hk : krf x = 1) : Rc e p < rpos e := by
  have h1 := Rc_s h
  have h2 := Rc_le (ev := e) (p := p + 1)
  omega
theorem rnum_n {R R' : Nat → Nat} (h : x.1 ≠ 11 ∧ x.1 ≠ 12) : rnum R x = rnum R' x := by
  obtain ⟨k, o, z⟩ := x
  dsimp only at h
  unfold rnum
  split <;> first | rfl | (next h9 => exact absurd h9 h.1) | (next h9 => exact absurd h9 h.2)
theorem rnum_j {R : Nat → Nat} (h : x.1 = 11 ∨ x.1 = 12) : rnum R x = R x.2.1 := by
  obtain ⟨k, o, z⟩ := x
  dsimp only at h
  rcases h with rfl | rfl <;> rfl
theorem rnum_app {y : List Ev} (h : (x.1 = 11 ∨ x.1 = 12) → x.2.1 ≤ e.length) : rnum (Rc (e ++ y)) x = rnum (Rc e) x := by
  by_cases c : x.1 = 11 ∨ x.1 = 12
  · rw [rnum_j c, rnum_j c, Rc_app (h c)]
  · exact rnum_n ⟨fun z => c (Or.inl z), fun z => c (Or.inr z)⟩
theorem rR_keep (hk : ∀ k j, 82 ≤ k → k ≤ 84 → j < 780 + rpos e → g'.1 k j = g.1 k j) (R : rR g H e) : rR g' H e := by
  intro p x hx kx
  have := Rc_lt hx kx
  obtain ⟨a1, a2, a3⟩ := R p x hx kx
  exact ⟨by rw [hk _ _ (by omega) (by omega) (by omega)]; exact a1, fun z => by rw [hk _ _ (by omega) (by omega) (by omega)]; exact a2 z, fun z => by rw [hk _ _ (by omega) (by omega) (by omega)]; exact a3 z⟩
theorem rR_app {y : List Ev} (hy : ∀ p x, y[p]? = some x → krf x = 1 → g.1 82 (780 + (rpos e + Rc y p)) = nI (renc x) ∧ (¬ H (e.length + p) → g.1 83 (780 + (rpos e + Rc y p)) = nI (rnum (Rc (e ++ y)) x) ∧ ((x.1 = 11 ∨ x.1 = 12) → x.2.1 ≤ e.length + y.length)) ∧ (x.1 = 13 → g.1 84 (780 + (rpos e + Rc y p)) = nI x.2.2.1)) (R : rR g H e) : rR g H (e ++ y) := by
  intro p x hx kx
  by_cases hp : p < e.length
  · rw [List.getElem?_append_left hp] at hx
    rw [Rc_app (by omega)]
    obtain ⟨a1, a2, a3⟩ := R p x hx kx
    refine ⟨a1, fun z => ?_, a3⟩
    obtain ⟨b1, b2⟩ := a2 z
    rw [rnum_app b2]
    exact ⟨b1, fun y => by have := b2 y; rw [List.length_append]; omega⟩
  · rw [List.getElem?_append_right (by omega)] at hx
    have er : Rc (e ++ y) p = rpos e + Rc y (p - e.length) := by
      unfold Rc
      rw [List.take_append, List.take_of_length_le (by omega), rpos_app]
    rw [er]
    obtain ⟨a1, a2, a3⟩ := hy _ x hx kx
    rw [show e.length + (p - e.length) = p by omega] at a2
    refine ⟨a1, fun z => ?_, a3⟩
    rw [List.length_append]
    exact a2 z
theorem rR_silent (hx : krf x = 0) (R : rR g H e) : rR g H (e ++ [x]) := by
  refine rR_app (fun p y hy ky => ?_) R
  have : p = 0 := by have := (List.getElem?_eq_some_iff.mp hy).1; simpa using this
  subst this
  simp at hy
  subst hy
  omega
theorem rR_emit (hx : (x.1 = 11 ∨ x.1 = 12) → H e.length) (h1 : g.1 82 (780 + rpos e) = nI (renc x)) (h2 : x.1 ≠ 11 ∧ x.1 ≠ 12 → g.1 83 (780 + rpos e) = nI (rnum (fun _ => 0) x)) (h3 : x.1 = 13 → g.1 84 (780 + rpos e) = nI x.2.2.1) (R : rR g H e) : rR g H (e ++ [x]) := by
  refine rR_app (fun p y hy ky => ?_) R
  have : p = 0 := by have := (List.getElem?_eq_some_iff.mp hy).1; simpa using this
  subst this
  simp at hy
  subst hy
  have e0 : Rc [x] 0 = 0 := rfl
  rw [e0, Nat.add_zero, Nat.add_zero]
  refine ⟨h1, fun z => ?_, h3⟩
  by_cases c : x.1 = 11 ∨ x.1 = 12
  · exact absurd (hx c) z
  · have c' : x.1 ≠ 11 ∧ x.1 ≠ 12 := ⟨fun z => c (Or.inl z), fun z => c (Or.inr z)⟩
    exact ⟨by rw [h2 c']; congr 1; exact rnum_n c', fun z => absurd z c⟩
theorem Rc_inj {p p' : Nat} {x' : Ev} (h : e[p]? = some x) (hk : krf x = 1) (h' : e[p']? = some x') (hk' : krf x' = 1) (he : Rc e p = Rc e p') : p = p' := by
  rcases Nat.lt_trichotomy p p' with z | z | z
  · have h1 := Rc_s h
    have h2 := Rc_mono (e := e) (show p + 1 ≤ p' by omega)
    omega
  · exact z
  · have h1 := Rc_s h'
    have h2 := Rc_mono (e := e) (show p' + 1 ≤ p by omega)
    omega
theorem rR_patch {p0 : Nat} (hx : e[p0]? = some x) (hj : x.1 = 11 ∨ x.1 = 12) (ht : x.2.1 ≤ e.length) (R : rR g (fun p => H p ∨ p = p0) e) : rR (up2 g.1 83 (780 + Rc e p0) (nI (Rc e x.2.1)), g.2) H e := by
  have kx : krf x = 1 := by unfold krf; rcases hj with z | z <;> rw [z] <;> rfl
  intro p y hy ky
  obtain ⟨a1, a2, a3⟩ := R p y hy ky
  refine ⟨by dsimp only; rw [up2_n (by omega)]; exact a1, fun z => ?_, fun z => by dsimp only; rw [up2_n (by omega)]; exact a3 z⟩
  by_cases c : p = p0
  · subst c
    rw [hx] at hy
    simp only [Option.some.injEq] at hy
    subst hy
    exact ⟨by dsimp only; rw [up2_s, rnum_j hj], fun _ => ht⟩
  · have ne : ¬ Rc e p = Rc e p0 := fun z => c (Rc_inj hy ky hx kx z)
    dsimp only
    rw [up2_n (by omega)]
    exact a2 (fun y => by rcases y with y | y; exact z y; exact c y)
end X2
