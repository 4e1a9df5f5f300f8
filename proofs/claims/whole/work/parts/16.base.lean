/-! THE SMALL MACHINE. The world has 99 cells, numbered in the order in which the law makes them; cell k lies at the address (jad w k). Of a heap h: h.1 k j is the number in field (or element) j of cell k, h.2.1 k j the reference (a cell's number), h.2.2 k j the long. -/
abbrev jK : Type := Nat ⊕ (Nat × Nat)
abbrev jH : Type := (Nat → Nat → Int32) × (Nat → Nat → Option Nat) × (Nat → Nat → Int64)
/-- the tables' numbers, the array classes, the addresses -/
abbrev jW : Type := va_G × (Nat → ClassId) × (Nat → Nat)
abbrev jad (w : jW) : Nat → Nat := w.2.2
def up2 {α : Type} (f : Nat → Nat → α) (k j : Nat) (v : α) : Nat → Nat → α := fun a b => if a = k ∧ b = j then v else f a b
theorem up2_s {α : Type} {f : Nat → Nat → α} {k j : Nat} {v : α} : up2 f k j v k j = v := by simp [up2]
theorem up2_n {α : Type} {f : Nat → Nat → α} {k j a b : Nat} {v : α} (h : ¬ (a = k ∧ b = j)) : up2 f k j v a b = f a b := by simp [up2, h]
theorem up2_o {α : Type} {f : Nat → Nat → α} {k j a : Nat} {v : α} (h : a ≠ k) : up2 f k j v a = f a := by funext b; simp [up2, h]
theorem up2_r {α : Type} {f : Nat → Nat → α} {k j : Nat} {v : α} : up2 f k j v k = va_up (f k) j v := by funext b; simp [up2, va_up]
/-- the unit with the number u: its cell; its items' row is the next, its code's the one behind, then its six items -/
def ub (u : Nat) : Nat := if u = 0 then 4 else 5 + 9 * u
def jR (ci : Nat) : String := match ci with
  | 0 => RX0
  | 1 => RX1
  | 2 => RX2
  | 3 => RX3
  | 4 => RX4
  | _ => RX5
def jT (ci : Nat) : u_T := match ci with
  | 0 => TX0
  | 1 => TX1
  | 2 => TX2
  | 3 => TX3
  | 4 => TX4
  | _ => TX5
def jty (ci : Nat) : Nat → FieldType := match ci with
  | 0 => tyX0
  | 1 => tyX1
  | 2 => tyX2
  | 3 => tyX3
  | 4 => tyX4
  | _ => tyX5
def jN (ci : Nat) : Nat := match ci with
  | 0 => 9
  | 1 => 7
  | 2 => 15
  | 3 => 5
  | 4 => 11
  | _ => 51
def jref (t : FieldType) : Bool := match t with
  | .object _ => true
  | .array _ => true
  | _ => false
/-- the array types: char, int, boolean, units, items, long -/
def jaT (t : Nat) : FieldType := match t with
  | 0 => .char
  | 1 => .int
  | 2 => .boolean
  | 3 => .object "ModuleLinker$Unit"
  | 4 => .object "ModuleLinker$Item"
  | _ => .long
/-- the kinds of a unit's nine cells -/
def jku (i : Nat) : jK := match i with
  | 0 => .inl 3
  | 1 => .inr (4, 6)
  | 2 => .inr (1, 240)
  | _ => .inl 1
/-- the kinds of the reference's cells, from 70 on -/
def jkr (i : Nat) : jK := match i with
  | 0 => .inl 5
  | 1 => .inr (0, 120)
  | 2 => .inr (2, 7)
  | 3 => .inr (1, 7)
  | 4 => .inr (1, 42)
  | 5 => .inr (1, 42)
  | 6 => .inr (2, 42)
  | 7 => .inr (1, 42)
  | 8 => .inr (2, 126)
  | 9 => .inr (2, 42)
  | 10 => .inr (1, 42)
  | 11 => .inr (1, 42)
  | 12 => .inr (1, 910)
  | 13 => .inr (1, 910)
  | 14 => .inr (1, 910)
  | 15 => .inr (1, 10)
  | 16 => .inr (1, 10)
  | 17 => .inr (1, 10)
  | 18 => .inr (2, 10)
  | 19 => .inr (2, 10)
  | 20 => .inr (1, 10)
  | 21 => .inr (1, 10)
  | 22 => .inr (1, 1600)
  | 23 => .inr (1, 260)
  | 24 => .inr (1, 260)
  | 25 => .inr (1, 260)
  | 26 => .inr (1, 260)
  | 27 => .inr (1, 260)
  | _ => .inr (5, 1)
def jk (k : Nat) : jK := if k = 0 then .inl 4 else if k = 1 then .inr (0, 120) else if k = 2 then .inr (3, 6) else if k = 3 then .inr (2, 6) else if k < 13 then jku (k - 4) else if k = 13 then .inl 0 else if k < 68 then jku ((k - 14) % 9) else if k = 68 then .inl 2 else if k = 69 then .inr (1, 500) else jkr (k - 70)
theorem jk_unit : ∀ u, u < 7 → jk (ub u) = .inl 3 ∧ jk (ub u + 1) = .inr (4, 6) ∧ jk (ub u + 2) = .inr (1, 240) ∧ ub u + 8 < 99 ∧ ∀ i, i < 6 → jk (ub u + 3 + i) = .inl 1 := by decide
def jfs (w : jW) (h : jH) (ci k : Nat) : List Value := (List.range (jN ci)).map fun j => if jref (jty ci j) then va_rf ((h.2.1 k j).map (jad w)) else .int (h.1 k j)
def jarr (w : jW) (h : jH) (t k : Nat) : (Nat → Int32) ⊕ (Nat → Int64) ⊕ (Nat → UInt32) ⊕ (Nat → UInt64) ⊕ (Nat → Option Nat) := match jaT t with
  | .object _ => .inr (.inr (.inr (.inr fun j => (h.2.1 k j).map (jad w))))
  | .long => .inr (.inl (h.2.2 k))
  | _ => .inl (h.1 k)
def jcel (w : jW) (h : jH) (k : Nat) : va_E := match jk k with
  | .inl ci => .inr (ci, jfs w h ci k)
  | .inr a => .inl (w.2.1 a.1, a.2, jarr w h a.1 k)
def jws (w : jW) (h : jH) : va_W := (List.range 99).map fun k => (jad w k, jcel w h k)
def jtys (w : jW) : List (ClassId × FieldType) := (List.range 6).map fun t => (w.2.1 t, jaT t)
theorem jws_at (w : jW) (h : jH) {k : Nat} (hk : k < 99) : (jws w h)[k]? = some (jad w k, jcel w h k) := by simp [jws, hk]
theorem jtys_at (w : jW) {t : Nat} (ht : t < 6) : (jtys w)[t]? = some (w.2.1 t, jaT t) := by simp [jtys, ht]
theorem jset {α : Type} (N j : Nat) (f g : Nat → α) (v : α) (hj : g j = v) (hn : ∀ i, i ≠ j → g i = f i) : ((List.range N).map f).set j v = (List.range N).map g := by
  apply List.ext_getElem
  · simp
  · intro i h1 h2
    simp only [List.getElem_set, List.getElem_map, List.getElem_range]
    split
    · next e => subst e; exact hj.symm
    · next e => exact (hn i (Ne.symm e)).symm
theorem jws_set (w : jW) (h h' : jH) (k : Nat) (E : va_E) (hE : jcel w h' k = E) (ho : ∀ i, i ≠ k → jcel w h' i = jcel w h i) : (jws w h).set k (jad w k, E) = jws w h' := by
  unfold jws
  refine jset 99 k _ _ _ ?_ ?_
  · rw [hE]
  · intro i hi; rw [ho i hi]
theorem jcel_i {w : jW} {h : jH} {k j i : Nat} {x : Int32} (hi : i ≠ k) : jcel w (up2 h.1 k j x, h.2) i = jcel w h i := by
  unfold jcel jfs jarr
  simp only [up2_o hi]
theorem jcel_r {w : jW} {h : jH} {k j i : Nat} {x : Option Nat} (hi : i ≠ k) : jcel w (h.1, up2 h.2.1 k j x, h.2.2) i = jcel w h i := by
  unfold jcel jfs jarr
  simp only [up2_o hi]
theorem jcel_l {w : jW} {h : jH} {k j i : Nat} {x : Int64} (hi : i ≠ k) : jcel w (h.1, h.2.1, up2 h.2.2 k j x) i = jcel w h i := by
  unfold jcel jfs jarr
  simp only [up2_o hi]
theorem jfs_i {w : jW} {h : jH} {ci k j : Nat} {x : Int32} (hr : jref (jty ci j) = false) : (jfs w h ci k).set j (.int x) = jfs w (up2 h.1 k j x, h.2) ci k := by
  unfold jfs
  refine jset _ _ _ _ _ ?_ ?_
  · simp [hr, up2]
  · intro i hi; simp [up2, hi]
theorem jfs_r {w : jW} {h : jH} {ci k j : Nat} {x : Option Nat} (hr : jref (jty ci j) = true) : (jfs w h ci k).set j (va_rf (x.map (jad w))) = jfs w (h.1, up2 h.2.1 k j x, h.2.2) ci k := by
  unfold jfs
  refine jset _ _ _ _ _ ?_ ?_
  · simp [hr, up2]
  · intro i hi; simp [up2, hi]
theorem jfs_len (w : jW) (h : jH) (ci k : Nat) : (jfs w h ci k).length = jN ci := by simp [jfs]
theorem jfs_at {w : jW} {h : jH} {ci k j : Nat} (hj : j < jN ci) : (jfs w h ci k)[j]? = some (if jref (jty ci j) then va_rf ((h.2.1 k j).map (jad w)) else .int (h.1 k j)) := by simp [jfs, hj]
/-- the cells of the world -/
def jA (w : jW) : Nat → Prop := fun q => ∃ k, k < 99 ∧ q = jad w k
def jok (w : jW) : Prop := ∀ i j, i < 99 → j < 99 → jad w i = jad w j → i = j
theorem jD {w : jW} (hw : jok w) (h : jH) : va_D (jA w) (jws w h) := by
  have key : ∀ (k : Nat) (q : Nat × va_E), (jws w h)[k]? = some q → k < 99 ∧ q.1 = jad w k := by
    intro k q hq
    by_cases hk : k < 99
    · rw [jws_at w h hk] at hq; cases hq; exact ⟨hk, rfl⟩
    · exfalso
      have := (List.getElem?_eq_some_iff.mp hq).1
      simp [jws] at this
      omega
  refine ⟨fun i j p q hi hj e => ?_, fun k q hq => ?_⟩
  · obtain ⟨h1, e1⟩ := key i p hi
    obtain ⟨h2, e2⟩ := key j q hj
    exact hw i j h1 h2 (by rw [← e1, ← e2, e])
  · obtain ⟨h1, e1⟩ := key k q hq
    exact ⟨k, h1, e1⟩
/-- a walk's context: the machine, the invocation, where it shall come -/
abbrev jX : Type := Program × Launch × Env × Room × State × MethodId × Array Value × List Frame × Method × Code × (State → Prop)
abbrev jXp (X : jX) : Program := X.1
abbrev jXl (X : jX) : Launch := X.2.1
abbrev jXe (X : jX) : Env := X.2.2.1
abbrev jXR (X : jX) : Room := X.2.2.2.1
abbrev jXs (X : jX) : State := X.2.2.2.2.1
abbrev jXm (X : jX) : MethodId := X.2.2.2.2.2.1
abbrev jXa (X : jX) : Array Value := X.2.2.2.2.2.2.1
abbrev jXb (X : jX) : List Frame := X.2.2.2.2.2.2.2.1
abbrev jXh (X : jX) : Method := X.2.2.2.2.2.2.2.2.1
abbrev jXc (X : jX) : Code := X.2.2.2.2.2.2.2.2.2.1
abbrev jXQ (X : jX) : State → Prop := X.2.2.2.2.2.2.2.2.2.2
/-- the walk stands at pc, with these locals and this stack, in the world h: it comes to its end -/
def J (X : jX) (w : jW) (h : jH) (pc : Nat) (lv : List (Nat × Value)) (st : List Value) : Prop :=
  ∀ (H : Heap) (locs : List Loc) (ls : Array Slot), va_P w.1 vwCl (jws w h) H → va_S (jA w) (jXs X).heap H locs → lv_has ls (jXc X).maxLocals lv →
    W (jXp X) (jXl X) (jXe X) (jXR X) (jXs X) (jXm X) (jXa X) (jXb X) (jXh X) (jXc X) H locs 0 0 (jXQ X) (F0 (jXm X) pc ls st)
