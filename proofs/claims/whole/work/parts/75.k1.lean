/-! THE CLASS'S STATE between calls. n, t: the buffer; PG, pr: the modules and which are there; σ: which unit is a module's, σ 6 the spare one. -/
def kR (σ : Nat → Nat) (h : jH) : Prop := h.2.1 0 0 = some 1 ∧ h.2.1 0 2 = some 2 ∧ h.2.1 0 3 = some 3 ∧ h.2.1 0 4 = some (ub (σ 6)) ∧ h.2.1 0 5 = some 13 ∧ h.2.1 0 6 = some 68 ∧ h.2.1 68 2 = some 69 ∧ (∀ u, u < 6 → h.2.1 2 u = some (ub (σ u))) ∧ (∀ u, u < 7 → ur h (σ u)) ∧ ∀ a b, a < 7 → b < 7 → σ a = σ b → a = b
def kT (n : Nat) (t : Nat → Nat) (h : jH) : Prop := h.1 0 1 = nI n ∧ n ≤ 120 ∧ ∀ i, i < n → h.1 1 i = nI (t i) ∧ 32 ≤ t i ∧ t i ≤ 126
def kM (PG : Nat → PU) (pr : Nat → Bool) (σ : Nat → Nat) (h : jH) : Prop := ∀ m, m < 6 → h.1 3 m = (if pr m then 1 else 0) ∧ (pr m = true → cU h (σ m) m (PG m).1 (PG m).2.1 (PG m).2.2 ∧ puOk (PG m))
/-- an int as a module's number, as a name's number -/
def iK (B : Nat) (m : Int32) : Option Nat := if 0 ≤ m ∧ m < nI B then some m.toInt.toNat else none
def prs (pr : Nat → Bool) (m : Int32) : Option Nat := (iK 6 m).filter pr
def dfn (l : List HD) (f : Int32) : Option Nat := (iK 26 f).bind (dfx l)
section K1
variable {l : Launch} {w : jW} {h : jH} {PG : Nat → PU} {pr : Nat → Bool} {σ : Nat → Nat} {n : Nat} {t : Nat → Nat}
theorem iK_some {B k : Nat} {m : Int32} (hB : B < 2 ^ 31) (h : iK B m = some k) : m = nI k ∧ k < B := by
  unfold iK at h
  split at h
  · next c =>
    simp only [Option.some.injEq] at h
    have h0 : 0 ≤ m.toInt := by have := Int32.le_iff_toInt_le.mp c.1; simpa using this
    have h1 : m.toInt < (nI B).toInt := Int32.lt_iff_toInt_lt.mp c.2
    have hb : (nI B).toInt = B := nI_toInt hB
    rw [hb] at h1
    have hk : (k : Int) = m.toInt := by omega
    refine ⟨?_, by omega⟩
    apply Int32.toInt_inj.mp
    rw [nI_toInt (by omega), hk]
  · cases h
theorem iK_of {B k : Nat} (hB : B < 2 ^ 31) (h : k < B) : iK B (nI k) = some k := by
  unfold iK
  have hb : (nI k).toInt = k := nI_toInt (by omega)
  rw [if_pos ⟨nI_le (a := 0) (b := k) (by omega) (by omega), nI_lt h hB⟩, hb]
  rfl
theorem iK_none {B : Nat} {m : Int32} (h : iK B m = none) : ¬ (0 ≤ m ∧ m < nI B) := by
  unfold iK at h
  split at h
  · cases h
  · assumption
end K1
