/-! THE EVENT MACHINE, without heap. A frame: module, item, next event, arguments, words held; a state: fuel left, enterings, the most words, frames (the running one first), the words at hand. -/
abbrev Fm : Type := Nat × Nat × Nat × List Int32 × List Int32
abbrev ES : Type := Nat × Nat × Nat × List Fm × List Int32
def dfx : List HD → Nat → Option Nat
  | [], _ => none
  | d :: l, nm => if d.1 = 0 ∧ d.2.1 = nm then some 0 else (dfx l nm).map (· + 1)
def lastN (k : Nat) (l : List Int32) : List Int32 := l.drop (l.length - k)
def topT (a0 : List Int32) (fs : List Fm) : List Int32 := match fs with
  | [] => a0
  | f :: _ => f.2.2.2.2
/-- the words on the stack: two for each frame, the words held, the first arguments -/
def ht (n0 : Nat) : List Fm → Nat
  | [] => n0
  | f :: fs => ht n0 fs + 2 + f.2.2.2.2.length
section MACH
variable (PG : Nat → PU) (size : Nat) (a0 : List Int32)
def sgo (m i : Nat) : Nat := ((PG m).1.getD i (0, 0, 0, 0, 0)).2.2.1
def rmo (m i : Nat) : Nat := ((PG m).2.2.getD i (0, 0)).2
def bgo (m i : Nat) : Nat := ((PG m).2.2.getD i (0, 0)).1
def eEnter (m i : Nat) (s : ES) : ES ⊕ (Nat × ES) := if s.1 = 0 then .inr (2, s) else if size < ht a0.length s.2.2.2.1 + 2 + rmo PG m i then .inr (1, (s.1 - 1, s.2.1 + 1, s.2.2.1, s.2.2.2.1, s.2.2.2.2)) else .inl (s.1 - 1, s.2.1 + 1, max s.2.2.1 (ht a0.length s.2.2.2.1 + 2 + rmo PG m i), (m, i, bgo PG m i, lastN (wb (sgo PG m i) 4) (topT a0 s.2.2.2.1), []) :: s.2.2.2.1, [])
def calM (m op : Nat) : Nat := if op < 26 then m else op / 26 - 1
def eStep (s : ES) : ES ⊕ (Nat × ES) := match s.2.2.2.1 with
  | [] => .inr (3, s)
  | (m, i, p, A, T) :: fs => match (PG m).2.1[p]? with
    | none => .inr (3, s)
    | some e => match e.1 with
      | 0 => .inl (s.1, s.2.1, s.2.2.1, (m, i, p + 1, A, T) :: fs, [nI e.2.1])
      | 1 => .inl (s.1, s.2.1, s.2.2.1, (m, i, p + 1, A, T) :: fs, [A.getD e.2.1 0])
      | 2 => .inl (s.1, s.2.1, s.2.2.1, (m, i, p + 1, A, T) :: fs, [A.getD e.2.1 0, A.getD (e.2.1 + 1) 0])
      | 3 => .inl (s.1, s.2.1, s.2.2.1, (m, i, p + 1, A, T ++ s.2.2.2.2) :: fs, [])
      | 4 => .inl (s.1, s.2.1, s.2.2.1, (m, i, p + 1, A, T ++ s.2.2.2.2) :: fs, [])
      | 5 => .inl (s.1, s.2.1, s.2.2.1, (m, i, p + 1, A, T.take (T.length - 1)) :: fs, [T.getD (T.length - 1) 0 + s.2.2.2.2.getD 0 0])
      | 6 => .inl (s.1, s.2.1, s.2.2.1, (m, i, p + 1, A, T.take (T.length - 1)) :: fs, [T.getD (T.length - 1) 0 - s.2.2.2.2.getD 0 0])
      | 7 => .inl (s.1, s.2.1, s.2.2.1, (m, i, p + 1, A, T.take (T.length - 1)) :: fs, [T.getD (T.length - 1) 0 * s.2.2.2.2.getD 0 0])
      | 8 => .inl (s.1, s.2.1, s.2.2.1, (m, i, p + 1, A, T.take (T.length - 1)) :: fs, [T.getD (T.length - 1) 0, s.2.2.2.2.getD 0 0])
      | 9 => .inl (s.1, s.2.1, s.2.2.1, (m, i, p + 1, A, T) :: fs, [s.2.2.2.2.getD 0 0])
      | 10 => .inl (s.1, s.2.1, s.2.2.1, (m, i, p + 1, A, T) :: fs, [s.2.2.2.2.getD 1 0])
      | 11 => .inl (s.1, s.2.1, s.2.2.1, (m, i, if s.2.2.2.2.getD 0 0 = 0 then e.2.1 else p + 1, A, T) :: fs, [])
      | 12 => .inl (s.1, s.2.1, s.2.2.1, (m, i, e.2.1, A, T) :: fs, s.2.2.2.2)
      | 13 => match dfx (PG (calM m e.2.1)).1 (e.2.1 % 26) with
        | none => .inr (3, s)
        | some j => eEnter PG size a0 (calM m e.2.1) j (s.1, s.2.1, s.2.2.1, (m, i, p + 1, A, T) :: fs, [])
      | _ => match fs with
        | [] => .inr (0, (s.1, s.2.1, s.2.2.1, [], s.2.2.2.2))
        | (m2, i2, p2, A2, T2) :: gs => .inl (s.1, s.2.1, s.2.2.1, (m2, i2, p2, A2, T2.take (T2.length - A.length)) :: gs, s.2.2.2.2)
def eRun : Nat → ES → Option (Nat × ES)
  | 0, _ => none
  | k + 1, s => match eStep PG size a0 s with
    | .inl s' => eRun k s'
    | .inr r => some r
variable (pr : Nat → Bool)
/-- a frame's module, item and place are well -/
def frOk (m i p : Nat) (A : List Int32) : Prop := m < 6 ∧ pr m = true ∧ i < (PG m).1.length ∧ ((PG m).1.getD i (0, 0, 0, 0, 0)).1 = 0 ∧ A.length = wb (sgo PG m i) 4 ∧ ∃ Z, bodyOk ((PG m).1.map h3) (PG m).2.1 (sgo PG m i) (bgo PG m i) Z (rmo PG m i) ∧ bgo PG m i ≤ p ∧ p ≤ Z
def wfC : List Fm → List Int32 → Nat → Nat → Prop
  | [], B, y, y0 => B = a0 ∧ y = y0
  | (m, i, p, A, T) :: fs, B, y, y0 => frOk PG pr m i p A ∧ B.length ≤ T.length ∧ B = lastN B.length T ∧ Gv (PG m).2.1 p = (T.length - B.length, y) ∧ T.length ≤ rmo PG m i ∧ ht a0.length fs + 2 + rmo PG m i ≤ size ∧ wfC fs A (ta (sgo PG m i) 0) y0
def EI (y0 : Nat) (s : ES) : Prop := match s.2.2.2.1 with
  | [] => False
  | (m, i, p, A, T) :: fs => frOk PG pr m i p A ∧ Gv (PG m).2.1 p = (T.length, s.2.2.2.2.length) ∧ T.length ≤ rmo PG m i ∧ ht a0.length fs + 2 + rmo PG m i ≤ size ∧ wfC PG size a0 pr fs A (ta (sgo PG m i) 0) y0
/-- what is called is there -/
def lnk : Prop := ∀ m, m < 6 → pr m = true → puOk (PG m) ∧ ∀ o nm s, lkp ((PG m).1.map h3) o nm = some s → ∃ i, calM m (o * 26 + nm) < 6 ∧ pr (calM m (o * 26 + nm)) = true ∧ ∃ hi : i < (PG (calM m (o * 26 + nm))).1.length, ((PG (calM m (o * 26 + nm))).1[i]).1 = 0 ∧ ((PG (calM m (o * 26 + nm))).1[i]).2.1 = nm ∧ ((PG (calM m (o * 26 + nm))).1[i]).2.2.1 = s
def mea : List Fm → Nat
  | [] => 0
  | f :: fs => ((PG f.1).2.1.length - f.2.2.1) + mea fs
end MACH
section MACH2
variable {PG : Nat → PU} {size : Nat} {a0 : List Int32} {pr : Nat → Bool} {y0 : Nat}
theorem dfx_some : ∀ (l : List HD) (nm i : Nat), dfx l nm = some i → ∃ hi : i < l.length, (l[i]).1 = 0 ∧ (l[i]).2.1 = nm
  | [], nm, i, h => by simp [dfx] at h
  | d :: l, nm, i, h => by
    unfold dfx at h
    split at h
    · next c => simp at h; subst h; exact ⟨by simp, c⟩
    · cases e : dfx l nm with
      | none => rw [e] at h; cases h
      | some j =>
        rw [e] at h
        simp at h
        subst h
        obtain ⟨hi, h1⟩ := dfx_some l nm j e
        exact ⟨by simp; omega, by simpa using h1⟩
theorem dfx_first : ∀ (l : List HD) (nm i : Nat) (hi : i < l.length), (l[i]).1 = 0 → (l[i]).2.1 = nm → (∀ k (hk : k < i), ¬ ((l[k]'(by omega)).1 = 0 ∧ (l[k]'(by omega)).2.1 = nm)) → dfx l nm = some i
  | [], nm, i, hi, _, _, _ => absurd hi (Nat.not_lt_zero _)
  | d :: l, nm, 0, hi, h1, h2, h3 => by unfold dfx; rw [if_pos (by exact ⟨h1, h2⟩)]
  | d :: l, nm, i + 1, hi, h1, h2, h3 => by
    unfold dfx
    rw [if_neg (by have := h3 0 (by omega); simpa using this), dfx_first l nm i (by simpa using hi) (by simpa using h1) (by simpa using h2) (fun k hk => by have := h3 (k + 1) (by omega); simpa using this)]
    rfl
theorem dfx_none : ∀ (l : List HD) (nm : Nat), dfx l nm = none → ∀ i (hi : i < l.length), ¬ ((l[i]).1 = 0 ∧ (l[i]).2.1 = nm)
  | [], nm, _, i, hi => absurd hi (Nat.not_lt_zero _)
  | d :: l, nm, h, i, hi => by
    unfold dfx at h
    split at h
    · cases h
    · next c =>
      cases e : dfx l nm with
      | some j => rw [e] at h; cases h
      | none =>
        cases i with
        | zero => exact c
        | succ i => have := dfx_none l nm e i (by simpa using hi); simpa using this
theorem dfx_dst {l : List HD} (hd : dst l) {nm i : Nat} (hi : i < l.length) (h1 : (l[i]).1 = 0) (h2 : (l[i]).2.1 = nm) : dfx l nm = some i := dfx_first l nm i hi h1 h2 (fun k hk z => hd k i hi hk ⟨z.1.trans h1.symm, z.2.trans h2.symm⟩)
theorem lastN_len {k : Nat} {l : List Int32} (h : k ≤ l.length) : (lastN k l).length = k := by unfold lastN; simp; omega
theorem gtD {l : List HD} {i : Nat} (h : i < l.length) : l.getD i (0, 0, 0, 0, 0) = l[i] := by simp [List.getD_eq_getElem?_getD, List.getElem?_eq_getElem h]
/-- the event at hand of a state that is well -/
theorem EI_ev {s : ES} {m i p : Nat} {A T : List Int32} {fs : List Fm} (h : EI PG size a0 pr y0 s) (hf : s.2.2.2.1 = (m, i, p, A, T) :: fs) : ∃ e : Ev, (PG m).2.1[p]? = some e ∧ e.2.2.1 = T.length ∧ e.2.2.2 = s.2.2.2.2.length := by
  unfold EI at h
  rw [hf] at h
  obtain ⟨⟨-, -, -, -, -, Z, ⟨-, hZ, -⟩, -, hp⟩, hG, -⟩ := h
  have hlt : p < (PG m).2.1.length := by omega
  refine ⟨(PG m).2.1[p], List.getElem?_eq_getElem hlt, ?_⟩
  unfold Gv at hG
  rw [List.getElem?_eq_getElem hlt] at hG
  simp only [Prod.mk.injEq] at hG
  exact hG
theorem puOk_at {U : PU} (h : puOk U) {i : Nat} (hi : i < U.1.length) (h0 : (U.1[i]).1 = 0) : (U.2.2.getD i (0, 0)).2 ≤ 240 ∧ ∃ Z, bodyOk (U.1.map h3) U.2.1 (U.1[i]).2.2.1 (U.2.2.getD i (0, 0)).1 Z (U.2.2.getD i (0, 0)).2 := h.2.2.2.2.2.2 i hi h0
/-- a move inside of a body -/
theorem EI_move {s s' : ES} {m i p p' : Nat} {A T T' : List Int32} {fs : List Fm} (h : EI PG size a0 pr y0 s) (hf : s.2.2.2.1 = (m, i, p, A, T) :: fs) (hf' : s'.2.2.2.1 = (m, i, p', A, T') :: fs) (hp : ∀ Z, p < Z → p ≤ p') (hp2 : ∀ Z, bodyOk ((PG m).1.map h3) (PG m).2.1 (sgo PG m i) (bgo PG m i) Z (rmo PG m i) → p ≤ Z → p' ≤ Z) (hpp : p ≤ p') (hG : Gv (PG m).2.1 p' = (T'.length, s'.2.2.2.2.length)) : EI PG size a0 pr y0 s' := by
  unfold EI at h ⊢
  rw [hf] at h
  rw [hf']
  obtain ⟨⟨f1, f2, f3, f4, f5, Z, f6, f7, f8⟩, hG0, h3, h4, h5⟩ := h
  have hpZ := hp2 Z f6 f8
  refine ⟨⟨f1, f2, f3, f4, f5, Z, f6, by omega, hpZ⟩, hG, ?_, h4, h5⟩
  have hlt : p' < (PG m).2.1.length := by have := f6.2.1; omega
  have := (f6.2.2.2.2 p' _ (by omega) hpZ (List.getElem?_eq_getElem hlt)).1
  unfold Gv at hG
  rw [List.getElem?_eq_getElem hlt] at hG
  simp only [Prod.mk.injEq] at hG
  omega
end MACH2
