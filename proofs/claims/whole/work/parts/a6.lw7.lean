/-! THE FIRST STATE -/
def G0 : GS := ((0, fun _ => 0), (fun _ => ([], [], []), fun _ => false), (false, 0, -1, -1), (0, 0, 0, 0))
def f1 (x : Int32) : Nat → Nat → Int32 := up2 (f6 (fun _ _ => 0)) 68 0 (szI x)
def g1 : Nat → Nat → Option Nat := up2 (up2 (gL (g6 (fun _ _ => none)) 6) 68 2 (some 69)) 0 6 (some 68)
def h2 (x : Int32) : jH := (up2 (up2 (up2 (f1 x) 70 36 (-1)) 70 37 (-1)) 70 1 (szR x), g7 g1, fun _ _ => 0)
theorem sz_of (x : Int32) : ∃ n, szI x = nI n ∧ szR x = nI n ∧ 8 ≤ n ∧ n ≤ 500 := by
  unfold szI szR
  by_cases c1 : (8 : Int32) ≤ x
  · by_cases c2 : x ≤ (500 : Int32)
    · have a1 : (8 : Int) ≤ x.toInt := Int32.le_iff_toInt_le.mp c1
      have a2 : x.toInt ≤ (500 : Int) := Int32.le_iff_toInt_le.mp c2
      have e : x = nI x.toInt.toNat := by
        apply Int32.toInt_inj.mp
        rw [nI_toInt (by omega)]
        omega
      refine ⟨x.toInt.toNat, ?_, by rw [if_pos c1, if_pos c2]; exact e, by omega, by omega⟩
      have e5 : (if x < (500 : Int32) then x else 500) = x := by
        by_cases c3 : x < (500 : Int32)
        · rw [if_pos c3]
        · rw [if_neg c3]
          apply Int32.toInt_inj.mp
          have a3 : ¬ x.toInt < (500 : Int) := fun h => c3 (Int32.lt_iff_toInt_lt.mpr h)
          show (500 : Int) = x.toInt
          omega
      rw [e5]
      by_cases c4 : (8 : Int32) < x
      · rw [if_pos c4]; exact e
      · rw [if_neg c4, ← e]
        apply Int32.toInt_inj.mp
        have a3 : ¬ (8 : Int) < x.toInt := fun h => c4 (Int32.lt_iff_toInt_lt.mpr h)
        show (8 : Int) = x.toInt
        omega
    · have a2 : ¬ x.toInt ≤ (500 : Int) := fun h => c2 (Int32.le_iff_toInt_le.mpr h)
      have c3 : ¬ x < (500 : Int32) := fun h => by
        have := Int32.lt_iff_toInt_lt.mp h
        have : x.toInt < (500 : Int) := this
        omega
      refine ⟨500, ?_, by rw [if_pos c1, if_neg c2]; rfl, by omega, by omega⟩
      rw [if_neg c3]
      rfl
  · have a1 : ¬ (8 : Int) ≤ x.toInt := fun h => c1 (Int32.le_iff_toInt_le.mpr h)
    have c3 : x < (500 : Int32) := Int32.lt_iff_toInt_lt.mpr (by show x.toInt < (500 : Int); omega)
    have c4 : ¬ (8 : Int32) < x := fun h => by
      have : (8 : Int) < x.toInt := Int32.lt_iff_toInt_lt.mp h
      omega
    refine ⟨8, ?_, by rw [if_neg c1]; rfl, by omega, by omega⟩
    rw [if_pos c3, if_neg c4]
    rfl
def sg0 (u : Nat) : Nat := if u = 6 then 0 else u + 1
set_option maxRecDepth 20000 in
theorem kR0 (x : Int32) : kR sg0 (h2 x) := by
  refine ⟨by show g7 g1 0 0 = _; decide, by show g7 g1 0 2 = _; decide, by show g7 g1 0 3 = _; decide, by show g7 g1 0 4 = _; decide, by show g7 g1 0 5 = _; decide, by show g7 g1 0 6 = _; decide, by show g7 g1 68 2 = _; decide, ?_, ?_, fun a b ha hb he => by unfold sg0 at he; split at he <;> split at he <;> omega⟩
  · show ∀ u, u < 6 → g7 g1 2 u = some (ub (sg0 u))
    decide
  · show ∀ u, u < 7 → (sg0 u < 7 ∧ g7 g1 (ub (sg0 u)) 2 = some (ub (sg0 u) + 1) ∧ g7 g1 (ub (sg0 u)) 4 = some (ub (sg0 u) + 2) ∧ ∀ i, i < 6 → g7 g1 (ub (sg0 u) + 1) i = some (ub (sg0 u) + 3 + i))
    decide
theorem KI0 (x : Int32) {n : Nat} (e1 : szI x = nI n) (h8 : 8 ≤ n) (h5 : n ≤ 500) : KI n G0 (h2 x) := by
  refine ⟨sg0, kR0 x, ⟨?_, by decide, fun i hi => absurd hi (Nat.not_lt_zero i)⟩, fun m hm => ⟨?_, fun h => by cases h⟩, ⟨?_, by decide, ?_, ?_, ?_, ?_, h8, h5, ?_, ?_, ?_, ?_⟩, fun h => by cases h⟩
  all_goals simp [h2, f1, f6, up2, G0, e1]
  all_goals first | rfl | decide | skip
theorem RI0 (x : Int32) {n : Nat} (e1 : szR x = nI n) (h8 : 8 ≤ n) (h5 : n ≤ 500) : RI n G0 (h2 x) := by
  refine ⟨g7_70 _ ?_, ⟨?_, by decide, fun i hi => absurd hi (Nat.not_lt_zero i)⟩, fun m hm => ⟨?_, fun h => by cases h⟩, ⟨?_, h8, h5, ?_, ?_, ?_, ?_, ?_, ?_, ?_, ?_, false, ?_⟩⟩
  · show g1 70 = _
    unfold g1
    rw [up2_o (by decide), up2_o (by decide), gL_o (by decide) 6 (by decide)]
    unfold g6
    rw [up2_o (by decide), up2_o (by decide), gU_o (by decide) (by decide), up2_o (by decide), up2_o (by decide), up2_o (by decide)]
  all_goals simp [h2, f1, f6, up2, G0, e1, bI]
  all_goals first | rfl | decide | skip
