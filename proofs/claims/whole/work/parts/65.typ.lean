/-! THE EVENTS ARE TYPED: G: the words held and the words at hand ahead of the event with a number; Z: where the body's last event stands -/
def okE (s : Nat) (hs : List (Nat × Nat × Nat)) (G : Nat → Nat × Nat) (Z q : Nat) (e : Ev) : Prop := match e.1 with
  | 0 => e.2.2.2 = 0 ∧ e.2.1 < 10000 ∧ G (q + 1) = (e.2.2.1, 1)
  | 1 => e.2.2.2 = 0 ∧ e.2.1 < wb s 4 ∧ G (q + 1) = (e.2.2.1, 1)
  | 2 => e.2.2.2 = 0 ∧ e.2.1 + 1 < wb s 4 ∧ G (q + 1) = (e.2.2.1, 2)
  | 3 => e.2.2.2 = 1 ∧ G (q + 1) = (e.2.2.1 + 1, 0)
  | 4 => e.2.2.2 = 2 ∧ G (q + 1) = (e.2.2.1 + 2, 0)
  | 5 => e.2.2.2 = 1 ∧ 1 ≤ e.2.2.1 ∧ G (q + 1) = (e.2.2.1 - 1, 1)
  | 6 => e.2.2.2 = 1 ∧ 1 ≤ e.2.2.1 ∧ G (q + 1) = (e.2.2.1 - 1, 1)
  | 7 => e.2.2.2 = 1 ∧ 1 ≤ e.2.2.1 ∧ G (q + 1) = (e.2.2.1 - 1, 1)
  | 8 => e.2.2.2 = 1 ∧ 1 ≤ e.2.2.1 ∧ G (q + 1) = (e.2.2.1 - 1, 2)
  | 9 => e.2.2.2 = 2 ∧ G (q + 1) = (e.2.2.1, 1)
  | 10 => e.2.2.2 = 2 ∧ G (q + 1) = (e.2.2.1, 1)
  | 11 => e.2.2.2 = 1 ∧ G (q + 1) = (e.2.2.1, 0) ∧ G e.2.1 = (e.2.2.1, 0) ∧ q < e.2.1 ∧ e.2.1 ≤ Z
  | 12 => G e.2.1 = (e.2.2.1, e.2.2.2) ∧ q < e.2.1 ∧ e.2.1 ≤ Z
  | 13 => e.2.2.2 = 0 ∧ ∃ o m s', e.2.1 = o * 26 + m ∧ m < 26 ∧ lkp hs o m = some s' ∧ wb s' 4 ≤ e.2.2.1 ∧ G (q + 1) = (e.2.2.1 - wb s' 4, ta s' 0)
  | _ => False
def Gc (G : Nat → Nat × Nat) : Nat → List Ev → Prop
  | _, [] => True
  | b, e :: l => G b = (e.2.2.1, e.2.2.2) ∧ Gc G (b + 1) l
def Sq (s : Nat) (hs : List (Nat × Nat × Nat)) (G : Nat → Nat × Nat) (Z : Nat) : Nat → List Ev → Prop
  | _, [] => True
  | b, e :: l => okE s hs G Z b e ∧ Sq s hs G Z (b + 1) l
theorem Gc_app {G : Nat → Nat × Nat} : ∀ (x y : List Ev) (b : Nat), Gc G b (x ++ y) ↔ Gc G b x ∧ Gc G (b + x.length) y
  | [], y, b => by simp [Gc]
  | e :: l, y, b => by
    simp only [List.cons_append, Gc, List.length_cons]
    rw [Gc_app l y (b + 1), show b + 1 + l.length = b + (l.length + 1) by omega, and_assoc]
theorem Sq_app {s : Nat} {hs : List (Nat × Nat × Nat)} {G : Nat → Nat × Nat} {Z : Nat} : ∀ (x y : List Ev) (b : Nat), Sq s hs G Z b (x ++ y) ↔ Sq s hs G Z b x ∧ Sq s hs G Z (b + x.length) y
  | [], y, b => by simp [Sq]
  | e :: l, y, b => by
    simp only [List.cons_append, Sq, List.length_cons]
    rw [Sq_app l y (b + 1), show b + 1 + l.length = b + (l.length + 1) by omega, and_assoc]
/-- the events of what is read lead from (hd, 0) to (hd, y) -/
def sgT (s : Nat) (hs : List (Nat × Nat × Nat)) (bs hd y m : Nat) (e : List Ev) : Prop := (∃ k o l, e = (k, o, hd, 0) :: l) ∧ (∀ G Z, Gc G bs e → G (bs + e.length) = (hd, y) → bs + e.length ≤ Z → Sq s hs G Z bs e) ∧ ∀ x ∈ e, x.2.2.1 ≤ max hd m
def sgm (s : Nat) (hs : List (Nat × Nat × Nat)) (f : Nat → Nat → TI) : Prop := ∀ bs hd y e m, f bs hd = some (y, e, m) → sgT s hs bs hd y m e
def sgms (s : Nat) (hs : List (Nat × Nat × Nat)) (sub : Nat → PR) : Prop := ∀ a a1 f, sub a = some (a1, f) → sgm s hs f
section TYP
variable {t : Nat → Nat} {n : Nat} {hs : List (Nat × Nat × Nat)} {sg : Nat}
theorem sgm_op {k : Nat} {f g : Nat → Nat → TI} (hk : k = 5 ∨ k = 6 ∨ k = 7 ∨ k = 8) (hf : sgm sg hs f) (hg : sgm sg hs g) : sgm sg hs (fun bs hd => tOp k hd (f bs hd) (g (bs + tl (f bs hd) + 1) (hd + 1))) := by
  intro bs hd y e m h
  dsimp only at h
  unfold tOp at h
  split at h
  · next e1 m1 e2 m2 q1 q2 =>
    obtain ⟨⟨k1, o1, l1, x1⟩, b2, b3⟩ := hf bs hd _ _ _ q1
    obtain ⟨⟨k2, o2, l2, x2⟩, c2, c3⟩ := hg _ _ _ _ _ q2
    rw [q1] at c2
    have et : tl (some (1, e1, m1)) = e1.length := rfl
    rw [et] at c2
    simp only [Option.some.injEq, Prod.mk.injEq] at h
    obtain ⟨rfl, rfl, rfl⟩ := h
    refine ⟨⟨k1, o1, l1 ++ (3, 0, hd, 1) :: (e2 ++ [(k, 0, hd + 1, 1)]), by rw [x1]; rfl⟩, fun G Z hG hE hZ => ?_, fun x hx => ?_⟩
    · rw [Gc_app] at hG
      obtain ⟨hG1, hG2, hG3⟩ := hG
      rw [Gc_app] at hG3
      obtain ⟨hG3, hG4, -⟩ := hG3
      dsimp only at hG2 hG4
      simp only [List.length_append, List.length_cons, List.length_nil] at hE hZ
      have i2 : G (bs + e1.length + 1) = (hd + 1, 0) := by
        rw [x2] at hG3; exact hG3.1
      rw [Sq_app]
      refine ⟨b2 G Z hG1 hG2 (by omega), ⟨rfl, i2⟩, ?_⟩
      rw [Sq_app]
      refine ⟨c2 G Z hG3 hG4 (by omega), ?_, trivial⟩
      have hE' : G (bs + e1.length + 1 + e2.length + 1) = (hd, if k = 8 then 2 else 1) := by rw [← hE]; congr 1; omega
      rcases hk with rfl | rfl | rfl | rfl
      · exact ⟨rfl, by simp, by simpa using hE'⟩
      · exact ⟨rfl, by simp, by simpa using hE'⟩
      · exact ⟨rfl, by simp, by simpa using hE'⟩
      · exact ⟨rfl, by simp, by simpa using hE'⟩
    · simp only [List.mem_append, List.mem_cons, List.not_mem_nil, or_false] at hx
      rcases hx with hx | rfl | hx | rfl
      · have := b3 x hx; omega
      · dsimp only; omega
      · have := c3 x hx; omega
      · dsimp only; omega
  · cases h
theorem sgm_prj {k : Nat} {f : Nat → Nat → TI} (hk : k = 9 ∨ k = 10) (hf : sgm sg hs f) : sgm sg hs (fun bs hd => tPrj k hd (f bs hd)) := by
  intro bs hd y e m h
  dsimp only at h
  unfold tPrj at h
  split at h
  · next e1 m1 q1 =>
    obtain ⟨⟨k1, o1, l1, x1⟩, b2, b3⟩ := hf bs hd _ _ _ q1
    simp only [Option.some.injEq, Prod.mk.injEq] at h
    obtain ⟨rfl, rfl, rfl⟩ := h
    refine ⟨⟨k1, o1, l1 ++ [(k, 0, hd, 2)], by rw [x1]; rfl⟩, fun G Z hG hE hZ => ?_, fun x hx => ?_⟩
    · rw [Gc_app] at hG
      obtain ⟨hG1, hG2, -⟩ := hG
      dsimp only at hG2
      simp only [List.length_append, List.length_cons, List.length_nil] at hE hZ
      rw [Sq_app]
      refine ⟨b2 G Z hG1 hG2 (by omega), ?_, trivial⟩
      have hE' : G (bs + e1.length + 1) = (hd, 1) := by rw [← hE]; congr 1
      rcases hk with rfl | rfl
      · exact ⟨rfl, hE'⟩
      · exact ⟨rfl, hE'⟩
    · simp only [List.mem_append, List.mem_cons, List.not_mem_nil, or_false] at hx
      rcases hx with hx | rfl
      · have := b3 x hx; omega
      · dsimp only; omega
  · cases h
theorem sgm_cho {f1 f2 f3 : Nat → Nat → TI} (h1 : sgm sg hs f1) (h2 : sgm sg hs f2) (h3 : sgm sg hs f3) : sgm sg hs (fun bs hd => tCho bs hd (f1 bs hd) (f2 (bs + tl (f1 bs hd) + 1) hd) (f3 (bs + tl (f1 bs hd) + 1 + tl (f2 (bs + tl (f1 bs hd) + 1) hd) + 1) hd)) := by
  intro bs hd y ev m h
  dsimp only at h
  unfold tCho at h
  split at h
  · next e1 m1 y2 e2 m2 z3 e3 m3 q1 q2 q3 =>
    obtain ⟨⟨k1, o1, l1, x1⟩, b2, b3⟩ := h1 _ _ _ _ _ q1
    obtain ⟨⟨k2, o2, l2, x2⟩, c2, c3⟩ := h2 _ _ _ _ _ q2
    obtain ⟨⟨k3, o3, l3, x3⟩, d2, d3⟩ := h3 _ _ _ _ _ q3
    rw [q2, q1] at d2
    rw [q1] at c2
    have et : ∀ y e m, tl (some (y, e, m)) = e.length := fun _ _ _ => rfl
    simp only [et] at c2 d2
    split at h
    · next hyz =>
      subst hyz
      simp only [Option.some.injEq, Prod.mk.injEq] at h
      obtain ⟨rfl, rfl, rfl⟩ := h
      refine ⟨⟨k1, o1, l1 ++ (11, bs + e1.length + 1 + e2.length + 1, hd, 1) :: (e2 ++ (12, bs + e1.length + 1 + e2.length + 1 + e3.length, hd, y2) :: e3), by rw [x1]; rfl⟩, fun G Z hG hE hZ => ?_, fun x hx => ?_⟩
      · rw [Gc_app] at hG
        obtain ⟨hG1, hG2, hG3⟩ := hG
        rw [Gc_app] at hG3
        obtain ⟨hG3, hG4, hG5⟩ := hG3
        dsimp only at hG2 hG4
        simp only [List.length_append, List.length_cons] at hE hZ
        have i2 : G (bs + e1.length + 1) = (hd, 0) := by rw [x2] at hG3; exact hG3.1
        have i3 : G (bs + e1.length + 1 + e2.length + 1) = (hd, 0) := by rw [x3] at hG5; exact hG5.1
        have hE' : G (bs + e1.length + 1 + e2.length + 1 + e3.length) = (hd, y2) := by rw [← hE]; congr 1; omega
        rw [Sq_app]
        refine ⟨b2 G Z hG1 hG2 (by omega), ⟨rfl, i2, i3, by dsimp only; omega, by dsimp only; omega⟩, ?_⟩
        rw [Sq_app]
        exact ⟨c2 G Z hG3 hG4 (by omega), ⟨hE', by dsimp only; omega, by dsimp only; omega⟩, d2 G Z hG5 hE' (by omega)⟩
      · simp only [List.mem_append, List.mem_cons] at hx
        rcases hx with hx | rfl | hx | rfl | hx
        · have := b3 x hx; omega
        · dsimp only; omega
        · have := c3 x hx; omega
        · dsimp only; omega
        · have := d3 x hx; omega
    · cases h
  · cases h
/-- the arguments so far: from (hd, 0) to (hc, 0) -/
def sgA (s : Nat) (hs : List (Nat × Nat × Nat)) (cs : Option Nat) (k : Nat) (q : Nat → Nat → TA) : Prop := ∀ bs hd e m hc, q bs hd = some (e, m, hc) → (e = [] ∨ ∃ k o l, e = (k, o, hd, 0) :: l) ∧ (e = [] → hc = hd) ∧ (∀ G Z, Gc G bs e → G (bs + e.length) = (hc, 0) → bs + e.length ≤ Z → Sq s hs G Z bs e) ∧ (∀ x ∈ e, x.2.2.1 ≤ max hd m) ∧ hc ≤ max hd m ∧ ∀ s', cs = some s' → hc = hd + wb s' (k + 1)
theorem sgA_arg {cs : Option Nat} {k : Nat} {q : Nat → Nat → TA} {g : Nat → Nat → TI} (hy : ∀ bs hd y e m, g bs hd = some (y, e, m) → y = 1 ∨ y = 2) (hq : sgA sg hs cs k q) (hg : sgm sg hs g) : sgA sg hs cs (k + 1) (fun bs hd => tArg cs k (q bs hd) g bs) := by
  intro bs hd e m hc h
  dsimp only at h
  unfold tArg at h
  split at h
  · next s e1 m1 hc1 w2 =>
    obtain ⟨a1, a2, a3, a4, a5, a6⟩ := hq _ _ _ _ _ w2
    split at h
    · next y e2 m2 w3 =>
      obtain ⟨⟨k2, o2, l2, x2⟩, c2, c3⟩ := hg _ _ _ _ _ w3
      have hy' := hy _ _ _ _ _ w3
      split at h
      · next hta =>
        simp only [Option.some.injEq, Prod.mk.injEq] at h
        obtain ⟨rfl, rfl, rfl⟩ := h
        refine ⟨Or.inr ?_, fun z => by simp at z, fun G Z hG hE hZ => ?_, fun x hx => ?_, by omega, fun s' hs' => ?_⟩
        · rcases a1 with rfl | ⟨k1, o1, l1, x1⟩
          · rw [a2 rfl] at x2
            exact ⟨k2, o2, l2 ++ [(2 + y, 0, hc1, y)], by rw [x2]; simp [a2]⟩
          · exact ⟨k1, o1, l1 ++ (e2 ++ [(2 + y, 0, hc1, y)]), by rw [x1]; rfl⟩
        · rw [Gc_app] at hG
          obtain ⟨hG1, hG2⟩ := hG
          rw [Gc_app] at hG2
          obtain ⟨hG2, hG3, -⟩ := hG2
          dsimp only at hG3
          simp only [List.length_append, List.length_cons, List.length_nil] at hE hZ
          have i2 : G (bs + e1.length) = (hc1, 0) := by rw [x2] at hG2; exact hG2.1
          have hE' : G (bs + e1.length + e2.length + 1) = (hc1 + y, 0) := by rw [← hE]; congr 1; omega
          rw [Sq_app]
          refine ⟨a3 G Z hG1 i2 (by omega), ?_⟩
          rw [Sq_app]
          refine ⟨c2 G Z hG2 hG3 (by omega), ?_, trivial⟩
          rcases hy' with rfl | rfl
          · exact ⟨rfl, hE'⟩
          · exact ⟨rfl, hE'⟩
        · simp only [List.mem_append, List.mem_cons, List.not_mem_nil, or_false] at hx
          rcases hx with hx | hx | rfl
          · have := a4 x hx; omega
          · have := c3 x hx; omega
          · dsimp only; omega
        · have := a6 s' hs'
          simp only [Option.some.injEq] at hs'
          subst hs'
          have e9 : wb s (k + 1 + 1) = wb s (k + 1) + ta s (k + 1) := by
            conv => lhs; unfold wb
            rw [if_neg (by omega)]
          rw [e9, hta]; omega
      · cases h
    · cases h
  · cases h
theorem sgA_Args {sub : Nat → PR} (hz : szs sub) (hg : sgms sg hs sub) (cs : Option Nat) : ∀ (f k a : Nat) (q : Nat → Nat → TA) (a1 k1 : Nat) (q1 : Nat → Nat → TA), sgA sg hs cs k q → pArgs t n sub cs f k a q = some (a1, k1, q1) → sgA sg hs cs k1 q1
  | 0, k, a, q, a1, k1, q1, hq, h => by simp [pArgs] at h
  | f + 1, k, a, q, a1, k1, q1, hq, h => by
    unfold pArgs at h
    split at h
    · cases h
    · next a2 g e0 =>
      have key := sgA_arg (fun bs hd y e m z => (hz _ _ _ e0 _ _ _ _ _ z).1) hq (hg _ _ _ e0)
      split at h
      · exact sgA_Args hz hg cs f (k + 1) (a2 + 1) _ a1 k1 q1 key h
      · simp only [Option.some.injEq, Prod.mk.injEq] at h
        obtain ⟨-, rfl, rfl⟩ := h
        exact key
/-- a signature without parameter k has none behind it -/
def sgn (s : Nat) : Prop := ∀ k, 1 ≤ k → ta s k = 0 → ta s (k + 1) = 0
theorem wb_end {s k : Nat} (hs : sgn s) (hk : 1 ≤ k) (h0 : ta s k = 0) : wb s k = wb s 4 := by
  have t4 : ∀ j, 4 ≤ j → ta s j = 0 := fun j hj => by unfold ta; rw [if_pos (by omega)]
  have e9 : ∀ j, 1 ≤ j → wb s (j + 1) = wb s j + ta s j := fun j hj => by
    conv => lhs; unfold wb
    rw [if_neg (by omega)]
  have up : ∀ d, ta s (k + d) = 0 := fun d => by
    induction d with
    | zero => exact h0
    | succ d ih => exact hs (k + d) (by omega) ih
  have up2' : ∀ d, wb s (k + d) = wb s k := fun d => by
    induction d with
    | zero => rfl
    | succ d ih => rw [← Nat.add_assoc, e9 _ (by omega), up d, ih]; rfl
  have dn : ∀ d, wb s (4 + d) = wb s 4 := fun d => by
    induction d with
    | zero => rfl
    | succ d ih => rw [← Nat.add_assoc, e9 _ (by omega), t4 _ (by omega), ih]; rfl
  rcases Nat.le_total k 4 with z | z
  · have := up2' (4 - k); rw [show k + (4 - k) = 4 by omega] at this; exact this.symm
  · have := dn (k - 4); rw [show 4 + (k - 4) = k by omega] at this; exact this
theorem sgm_call {o m k : Nat} {q : Nat → Nat → TA} (hm : m < 26) (hsn : ∀ s, lkp hs o m = some s → sgn s) (hq : sgA sg hs (lkp hs o m) k q) : sgm sg hs (fun bs hd => tCall (lkp hs o m) o m k (q bs hd)) := by
  intro bs hd y e mm h
  dsimp only at h
  unfold tCall at h
  split at h
  · next s e1 m1 hc1 w1 w2 =>
    obtain ⟨a1, a2, a3, a4, a5, a6⟩ := hq _ _ _ _ _ w2
    split at h
    · next h0 =>
      have a6' := a6 s w1
      rw [wb_end (hsn s w1) (by omega) h0] at a6'
      simp only [Option.some.injEq, Prod.mk.injEq] at h
      obtain ⟨rfl, rfl, rfl⟩ := h
      refine ⟨?_, fun G Z hG hE hZ => ?_, fun x hx => ?_⟩
      · rcases a1 with rfl | ⟨k1, o1, l1, x1⟩
        · exact ⟨13, o * 26 + m, [], by rw [a2 rfl]; rfl⟩
        · exact ⟨k1, o1, l1 ++ [(13, o * 26 + m, hc1, 0)], by rw [x1]; rfl⟩
      · rw [Gc_app] at hG
        obtain ⟨hG1, hG2, -⟩ := hG
        dsimp only at hG2
        simp only [List.length_append, List.length_cons, List.length_nil] at hE hZ
        rw [Sq_app]
        refine ⟨a3 G Z hG1 hG2 (by omega), ⟨rfl, o, m, s, rfl, hm, w1, by dsimp only; omega, ?_⟩, trivial⟩
        have hE' : G (bs + e1.length + 1) = (hd, ta s 0) := by rw [← hE]; congr 1
        rw [hE', a6']
        simp
      · simp only [List.mem_append, List.mem_cons, List.not_mem_nil, or_false] at hx
        rcases hx with hx | rfl
        · exact a4 x hx
        · exact a5
    · cases h
  · cases h
theorem sgm_Call {sub : Nat → PR} (hz : szs sub) (hg : sgms sg hs sub) (hn9 : ∀ q ∈ hs, sgn q.2.2) {o m a a1 : Nat} (hm : m < 26) {f : Nat → Nat → TI} (h : pCall t n hs sub o m a = some (a1, f)) : sgm sg hs f := by
  have hsn : ∀ s, lkp hs o m = some s → sgn s := fun s q => by
    obtain ⟨p, h1, -, -, h2⟩ := lkp_in _ _ _ _ q
    rw [← h2]; exact hn9 p h1
  have h00 : sgA sg hs (lkp hs o m) 0 (fun _ hd => some ([], 0, hd)) := by
    intro bs hd e m' hc hh
    simp only [Option.some.injEq, Prod.mk.injEq] at hh
    obtain ⟨rfl, rfl, rfl⟩ := hh
    exact ⟨Or.inl rfl, fun _ => rfl, fun _ _ _ _ _ => trivial, fun x hx => absurd hx (by simp), by omega, fun s' _ => by simp [wb]⟩
  unfold pCall at h
  split at h
  · simp only [Option.some.injEq, Prod.mk.injEq] at h
    obtain ⟨-, rfl⟩ := h
    exact sgm_call hm hsn h00
  · split at h
    · cases h
    · next a2 k q e =>
      split at h
      · simp only [Option.some.injEq, Prod.mk.injEq] at h
        obtain ⟨-, rfl⟩ := h
        exact sgm_call hm hsn (sgA_Args hz hg _ _ _ _ _ _ _ _ h00 e)
      · cases h
theorem sgm_one {k o y : Nat} (hy : ∀ G Z q hd, G (q + 1) = (hd, y) → okE sg hs G Z q (k, o, hd, 0)) : sgm sg hs (fun _ hd => some (y, [(k, o, hd, 0)], 0)) := by
  intro bs hd y' e m h
  simp only [Option.some.injEq, Prod.mk.injEq] at h
  obtain ⟨rfl, rfl, rfl⟩ := h
  exact ⟨⟨k, o, [], rfl⟩, fun G Z hG hE hZ => ⟨hy G Z bs hd hE, trivial⟩, fun x hx => by simp at hx; subst hx; dsimp only; omega⟩
theorem wb_lt {k : Nat} (hk : 1 ≤ k) (h3 : k ≤ 3) : wb sg k + ta sg k ≤ wb sg 4 := by
  have e9 : ∀ j, 1 ≤ j → wb sg (j + 1) = wb sg j + ta sg j := fun j hj => by
    conv => lhs; unfold wb
    rw [if_neg (by omega)]
  have a1 : wb sg 2 = wb sg 1 + ta sg 1 := e9 1 (by omega)
  have a2 : wb sg 3 = wb sg 2 + ta sg 2 := e9 2 (by omega)
  have a3 : wb sg 4 = wb sg 3 + ta sg 3 := e9 3 (by omega)
  have : k = 1 ∨ k = 2 ∨ k = 3 := by omega
  rcases this with rfl | rfl | rfl <;> omega
theorem sgm_Who {br : Bool} {sub : Nat → PR} (hz : szs sub) (hg : sgms sg hs sub) (hn9 : ∀ q ∈ hs, sgn q.2.2) (hty : ∀ k, ta sg k ≠ 3) : sgms sg hs (pWho t n hs sg br sub) := by
  intro a a1 f h
  unfold pWho at h
  split at h
  · unfold pNum at h
    simp only [Option.some.injEq, Prod.mk.injEq] at h
    obtain ⟨-, rfl⟩ := h
    exact sgm_one (fun G Z q hd hE => ⟨rfl, by have := nmb_v (t := t) (n := n) 4 a 0 1 (by decide); simpa using this, hE⟩)
  split at h
  · unfold pPar at h
    split at h
    · next c =>
      simp only [Option.some.injEq, Prod.mk.injEq] at h
      obtain ⟨-, rfl⟩ := h
      intro bs hd y e m q
      dsimp only at q
      split at q
      · cases q
      · next c2 =>
        have h3 := hty (pek t n (a + 1) - 48)
        have h4 := ta_le sg (pek t n (a + 1) - 48)
        have h5 := wb_lt (sg := sg) (k := pek t n (a + 1) - 48) (by omega) (by omega)
        have : ta sg (pek t n (a + 1) - 48) = 1 ∨ ta sg (pek t n (a + 1) - 48) = 2 := by omega
        rcases this with z | z
        · rw [z] at q h5
          exact sgm_one (sg := sg) (hs := hs) (y := 1) (k := 1) (o := wb sg (pek t n (a + 1) - 48)) (fun G Z q hd hE => by simp only [okE]; first | exact ⟨trivial, by omega, hE⟩ | exact ⟨by omega, hE⟩) _ _ _ _ _ q
        · rw [z] at q h5
          exact sgm_one (sg := sg) (hs := hs) (y := 2) (k := 2) (o := wb sg (pek t n (a + 1) - 48)) (fun G Z q hd hE => by simp only [okE]; first | exact ⟨trivial, by omega, hE⟩ | exact ⟨by omega, hE⟩) _ _ _ _ _ q
    · cases h
  split at h
  · cases h
  split at h
  · split at h
    · exact sgm_Call hz hg hn9 (by omega) h
    · cases h
  split at h
  · split at h
    · exact sgm_Call hz hg hn9 (by omega) h
    · cases h
  split at h
  · unfold pGrp at h
    split at h
    · cases h
    · next a2 g e =>
      split at h
      · simp only [Option.some.injEq, Prod.mk.injEq] at h
        obtain ⟨-, rfl⟩ := h
        exact hg _ _ _ e
      · cases h
  split at h
  · unfold pPair at h
    split at h
    · cases h
    · next a2 g e =>
      split at h
      · split at h
        · cases h
        · next a3 g3 e3 =>
          split at h
          · simp only [Option.some.injEq, Prod.mk.injEq] at h
            obtain ⟨-, rfl⟩ := h
            exact sgm_op (by omega) (hg _ _ _ e) (hg _ _ _ e3)
          · cases h
      · cases h
  split at h
  · unfold pCho at h
    split at h
    · cases h
    · next a2 g e =>
      split at h
      · split at h
        · cases h
        · next a3 g3 e3 =>
          split at h
          · split at h
            · cases h
            · next a4 g4 e4 =>
              split at h
              · simp only [Option.some.injEq, Prod.mk.injEq] at h
                obtain ⟨-, rfl⟩ := h
                exact sgm_cho (hg _ _ _ e) (hg _ _ _ e3) (hg _ _ _ e4)
              · cases h
          · cases h
      · cases h
  · cases h
theorem sgm_Fac {br : Bool} {sub : Nat → PR} (hz : szs sub) (hg : sgms sg hs sub) (hn9 : ∀ q ∈ hs, sgn q.2.2) (hty : ∀ k, ta sg k ≠ 3) : sgms sg hs (pFac t n hs sg br sub) := by
  intro a a1 f h
  unfold pFac at h
  split at h
  · cases h
  · next a2 g e =>
    have h3 := sgm_Who hz hg hn9 hty _ _ _ e
    split at h
    · split at h
      · simp only [Option.some.injEq, Prod.mk.injEq] at h
        obtain ⟨-, rfl⟩ := h
        exact sgm_prj (Or.inl rfl) h3
      · split at h
        · simp only [Option.some.injEq, Prod.mk.injEq] at h
          obtain ⟨-, rfl⟩ := h
          exact sgm_prj (Or.inr rfl) h3
        · cases h
    · simp only [Option.some.injEq, Prod.mk.injEq] at h
      obtain ⟨-, rfl⟩ := h
      exact h3
theorem sgm_Mul {br : Bool} {sub : Nat → PR} (hz : szs sub) (hg : sgms sg hs sub) (hn9 : ∀ q ∈ hs, sgn q.2.2) (hty : ∀ k, ta sg k ≠ 3) : ∀ (q a : Nat) (f : Nat → Nat → TI) (a1 : Nat) (g : Nat → Nat → TI), sgm sg hs f → pMul t n hs sg br sub q a f = some (a1, g) → sgm sg hs g
  | 0, a, f, a1, g, hf, h => by simp only [pMul, Option.some.injEq, Prod.mk.injEq] at h; obtain ⟨-, rfl⟩ := h; exact hf
  | q + 1, a, f, a1, g, hf, h => by
    unfold pMul at h
    split at h
    · split at h
      · cases h
      · next a2 g2 e => exact sgm_Mul hz hg hn9 hty q a2 _ a1 g (sgm_op (by omega) hf (sgm_Fac hz hg hn9 hty _ _ _ e)) h
    · simp only [Option.some.injEq, Prod.mk.injEq] at h; obtain ⟨-, rfl⟩ := h; exact hf
theorem sgm_Pro {br : Bool} {sub : Nat → PR} (hz : szs sub) (hg : sgms sg hs sub) (hn9 : ∀ q ∈ hs, sgn q.2.2) (hty : ∀ k, ta sg k ≠ 3) : sgms sg hs (pPro t n hs sg br sub) := by
  intro a a1 f h
  unfold pPro at h
  split at h
  · cases h
  · next a2 g e => exact sgm_Mul hz hg hn9 hty _ _ _ _ _ (sgm_Fac hz hg hn9 hty _ _ _ e) h
theorem sgm_Add {br : Bool} {sub : Nat → PR} (hz : szs sub) (hg : sgms sg hs sub) (hn9 : ∀ q ∈ hs, sgn q.2.2) (hty : ∀ k, ta sg k ≠ 3) : ∀ (q a : Nat) (f : Nat → Nat → TI) (a1 : Nat) (g : Nat → Nat → TI), sgm sg hs f → pAdd t n hs sg br sub q a f = some (a1, g) → sgm sg hs g
  | 0, a, f, a1, g, hf, h => by simp only [pAdd, Option.some.injEq, Prod.mk.injEq] at h; obtain ⟨-, rfl⟩ := h; exact hf
  | q + 1, a, f, a1, g, hf, h => by
    unfold pAdd at h
    split at h
    · split at h
      · cases h
      · next a2 g2 e => exact sgm_Add hz hg hn9 hty q a2 _ a1 g (sgm_op (by split <;> omega) hf (sgm_Pro hz hg hn9 hty _ _ _ e)) h
    · simp only [Option.some.injEq, Prod.mk.injEq] at h; obtain ⟨-, rfl⟩ := h; exact hf
theorem sgm_Sum {br : Bool} {sub : Nat → PR} (hz : szs sub) (hg : sgms sg hs sub) (hn9 : ∀ q ∈ hs, sgn q.2.2) (hty : ∀ k, ta sg k ≠ 3) : sgms sg hs (pSum t n hs sg br sub) := by
  intro a a1 f h
  unfold pSum at h
  split at h
  · cases h
  · next a2 g e => exact sgm_Add hz hg hn9 hty _ _ _ _ _ (sgm_Pro hz hg hn9 hty _ _ _ e) h
theorem sgm_E (hh : hsok hs) (hsg : sg < 256) (hn9 : ∀ q ∈ hs, sgn q.2.2) (hty : ∀ k, ta sg k ≠ 3) : ∀ b, sgms sg hs (pE t n hs sg b)
  | 0 => fun a a1 f h => sgm_Sum (t := t) (n := n) (sub := fun _ => none) (fun a a1 f h => by cases h) (fun a a1 f h => by cases h) hn9 hty a a1 f h
  | b + 1 => fun a a1 f h => sgm_Sum (sz_E hh hsg hty b) (sgm_E hh hsg hn9 hty b) hn9 hty a a1 f h
end TYP
