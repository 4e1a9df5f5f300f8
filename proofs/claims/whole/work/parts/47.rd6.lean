section RD7
variable {l : Launch} {w : jW} {h0 h : jH} {u : Nat} {t : Nat → Nat} {n : Nat} {hs : List (Nat × Nat × Nat)} {me sg bs : Nat} {a a' : Nat} {md md' : cMd} {r : Option Value} {dp d : Nat} {sub : Nat → PR}
theorem cRel_syn {pr : PR} (hm : md ≠ none) (h : cRel me bs md pr a' md' r) : (pr = none ∧ md' = none) ∨ ∃ f, pr = some (a', f) ∧ md' ≠ none := by
  rcases cRel_cases hm h with h | ⟨f, h1, h2, -⟩ | ⟨f, q, y, e, m, F', h1, -, -, -, h2, -⟩
  · exact Or.inl h
  · exact Or.inr ⟨f, h1, by rw [h2]; simp⟩
  · exact Or.inr ⟨f, h1, by rw [h2]; simp⟩
theorem cRel_bad' {pr : PR} {f : Nat → Nat → TI} (h : cRel me bs (some none) pr a' md' r) (hm : md' ≠ none) : md' = some none := by
  rcases cRel_cases (by simp) h with ⟨-, h⟩ | ⟨-, -, h, -⟩ | ⟨f, q, y, e, m, F', -, h, -⟩
  · exact absurd h hm
  · exact h
  · cases h
theorem choOk {F F1 F2 F3 : Nat → Int32} {e1 e2 e3 : List Ev} {c hd y : Nat} (l1 : ∀ p, p < c → F1 p = F p) (r1 : ∀ P : Nat → Nat, P bs = c → cmp P bs e1 → Rep F1 me P bs e1) (h1 : c + cpos e1 < 240)
    (l2 : ∀ p, p < c + cpos e1 + 1 → F2 p = emF (c + cpos e1) F1 (nI 10) (nI 0) p) (r2 : ∀ P : Nat → Nat, P (bs + e1.length + 1) = c + cpos e1 + 1 → cmp P (bs + e1.length + 1) e2 → Rep F2 me P (bs + e1.length + 1) e2) (h2 : c + cpos e1 + 1 + cpos e2 < 240)
    (l3 : ∀ p, p < c + cpos e1 + 1 + cpos e2 + 1 → F3 p = va_up (emF (c + cpos e1 + 1 + cpos e2) F2 (nI 11) (nI 0)) (c + cpos e1) (emF (c + cpos e1 + 1 + cpos e2) F2 (nI 11) (nI 0) (c + cpos e1) ||| nI (c + cpos e1 + 1 + cpos e2 + 1) <<< ((4 : Int32) &&& 31)) p)
    (r3 : ∀ P : Nat → Nat, P (bs + e1.length + 1 + e2.length + 1) = c + cpos e1 + 1 + cpos e2 + 1 → cmp P (bs + e1.length + 1 + e2.length + 1) e3 → Rep F3 me P (bs + e1.length + 1 + e2.length + 1) e3) (h3 : c + cpos e1 + 1 + cpos e2 + 1 + cpos e3 < 1000) :
    (∀ p, p < c → va_up F3 (c + cpos e1 + 1 + cpos e2) (F3 (c + cpos e1 + 1 + cpos e2) ||| nI (c + cpos e1 + 1 + cpos e2 + 1 + cpos e3) <<< ((4 : Int32) &&& 31)) p = F p) ∧
    ∀ P : Nat → Nat, P bs = c → cmp P bs (e1 ++ (11, bs + e1.length + 1 + e2.length + 1, hd, 1) :: (e2 ++ (12, bs + e1.length + 1 + e2.length + 1 + e3.length, hd, y) :: e3)) → Rep (va_up F3 (c + cpos e1 + 1 + cpos e2) (F3 (c + cpos e1 + 1 + cpos e2) ||| nI (c + cpos e1 + 1 + cpos e2 + 1 + cpos e3) <<< ((4 : Int32) &&& 31))) me P bs (e1 ++ (11, bs + e1.length + 1 + e2.length + 1, hd, 1) :: (e2 ++ (12, bs + e1.length + 1 + e2.length + 1 + e3.length, hd, y) :: e3)) := by
  have up_n : ∀ {f : Nat → Int32} {k p : Nat} {v : Int32}, p ≠ k → va_up f k v p = f p := fun h => by simp [va_up, h]
  have up_s : ∀ {f : Nat → Int32} {k : Nat} {v : Int32}, va_up f k v k = v := by simp [va_up]
  have low3 : ∀ p, p < c + cpos e1 → F3 p = F1 p := fun p hp => by rw [l3 p (by omega), up_n (by omega), emF_low (by omega), l2 p (by omega), emF_low hp]
  refine ⟨fun p hp => ?_, fun P hP hc => ?_⟩
  · rw [up_n (by omega), low3 p (by omega), l1 p hp]
  · rw [cmp_app] at hc
    obtain ⟨c1, c2⟩ := hc
    simp only [cmp] at c2
    obtain ⟨c3, c4⟩ := c2
    rw [cmp_app] at c4
    obtain ⟨c5, c6⟩ := c4
    simp only [cmp] at c6
    obtain ⟨c7, c8⟩ := c6
    have p1 := cmp_end e1 bs c1
    have k3 : ∀ T, kcl (11, T, hd, 1) = 1 := fun _ => rfl
    have k4 : ∀ T, kcl (12, T, hd, y) = 1 := fun _ => rfl
    rw [k3] at c3
    rw [k4] at c7
    have p2 := cmp_end e2 _ c5
    have p3 := cmp_end e3 _ c8
    rw [Rep_app]
    refine ⟨?_, ?_⟩
    · exact Rep_low (c := c + cpos e1) (by omega) c1 (fun p hp => by rw [up_n (by omega), low3 p hp]) (r1 P hP c1)
    · simp only [Rep]
      refine ⟨fun _ => ?_, ?_⟩
      · rw [p1, hP, up_n (by omega), l3 _ (by omega), up_s, emF_low (by omega), l2 _ (by omega), emF_at h1 (by omega) (by omega)]
        rw [show (10 : Nat) + 16 * 0 = 10 from rfl, emv (by omega) (by omega)]
        show _ = nI (10 + 16 * P (bs + e1.length + 1 + e2.length + 1))
        congr 3
        omega
      · rw [Rep_app]
        refine ⟨?_, ?_⟩
        · refine Rep_keep e2 _ c5 (fun p q1 q2 => ?_) (r2 P (by omega) c5)
          rw [up_n (by omega), l3 p (by omega), up_n (by omega), emF_low (by omega)]
        · simp only [Rep]
          refine ⟨fun _ => ?_, ?_⟩
          · have e9 : P (bs + e1.length + 1 + e2.length) = c + cpos e1 + 1 + cpos e2 := by omega
            rw [e9, up_s, l3 _ (by omega), up_n (by omega), emF_at h2 (by omega) (by omega)]
            rw [show (11 : Nat) + 16 * 0 = 11 from rfl, emv (by omega) (by omega)]
            show _ = nI (11 + 16 * P (bs + e1.length + 1 + e2.length + 1 + e3.length))
            congr 3
            omega
          · refine Rep_keep e3 _ c8 (fun p q1 q2 => ?_) (r3 P (by omega) c8)
            rw [up_n (by omega)]
end RD7
