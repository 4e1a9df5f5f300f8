section RD3
variable {l : Launch} {w : jW} {h0 h : jH} {u : Nat} {t : Nat → Nat} {n : Nat} {hs : List (Nat × Nat × Nat)} {me sg bs : Nat} {a a' : Nat} {md md' : cMd} {r : Option Value}
/-- the three ways in which a reading ends -/
theorem cRel_cases {pr : PR} (hm : md ≠ none) (h : cRel me bs md pr a' md' r) :
    (pr = none ∧ md' = none) ∨ (∃ f, pr = some (a', f) ∧ md' = some none ∧ ∀ q, md = some (some q) → f bs q.2.1 = none) ∨
    ∃ f q y e m F', pr = some (a', f) ∧ md = some (some q) ∧ f bs q.2.1 = some (y, e, m) ∧ r = some (.int (nI y)) ∧ md' = some (some (q.1 + cpos e, q.2.1, max q.2.2.1 m, F')) ∧ (∀ p, p < q.1 → F' p = q.2.2.2 p) ∧ ∀ P : Nat → Nat, P bs = q.1 → cmp P bs e → Rep F' me P bs e := by
  unfold cRel at h
  split at h
  · exact absurd rfl hm
  · exact Or.inl ⟨rfl, h.1⟩
  · next p => exact Or.inr (Or.inl ⟨p.2, by rw [h.1], h.2.1, fun q e => by cases e⟩)
  · next q p =>
    obtain ⟨rfl, h⟩ := h
    split at h
    · next e => exact Or.inr (Or.inl ⟨p.2, rfl, h.1, fun q' e' => by cases e'; exact e⟩)
    · next z e =>
      obtain ⟨e1, F', e2, e3, e4⟩ := h
      exact Or.inr (Or.inr ⟨p.2, q, z.1, z.2.1, z.2.2, F', rfl, rfl, e, e1, e2, e3, e4⟩)
theorem cRel_f {x : Int32} {pr : PR} (hm : md' = none) (hp : md ≠ none → pr = none) : cRel me bs md pr a' md' (some (.int x)) := by
  rcases md with _ | q
  · exact ⟨hm, _, rfl⟩
  · rw [hp (by simp)]; exact ⟨hm, _, rfl⟩
theorem cRel_b {x : Int32} {f : Nat → Nat → TI} (hm : md ≠ none) (hm' : md' = some none) (h : ∀ q, md = some (some q) → f bs q.2.1 = none) : cRel me bs md (some (a', f)) a' md' (some (.int x)) := by
  rcases md with _ | _ | q
  · exact absurd rfl hm
  · exact ⟨rfl, hm', _, rfl⟩
  · refine ⟨rfl, ?_⟩
    rw [show (a', f).2 bs q.2.1 = none from h q rfl]
    exact ⟨hm', _, rfl⟩
theorem cRel_o {f : Nat → Nat → TI} {q : Nat × Nat × Nat × (Nat → Int32)} {y m : Nat} {e : List Ev} {F' : Nat → Int32} (hq : md = some (some q)) (hf : f bs q.2.1 = some (y, e, m)) (hm' : md' = some (some (q.1 + cpos e, q.2.1, max q.2.2.1 m, F'))) (hk : ∀ p, p < q.1 → F' p = q.2.2.2 p) (hR : ∀ P : Nat → Nat, P bs = q.1 → cmp P bs e → Rep F' me P bs e) : cRel me bs md (some (a', f)) a' md' (some (.int (nI y))) := by
  subst hq
  refine ⟨rfl, ?_⟩
  rw [show (a', f).2 bs q.2.1 = some (y, e, m) from hf]
  exact ⟨rfl, F', hm', hk, hR⟩
theorem oAt_none {b : Bool} {a a' : Nat} : (oAt b n a a' none).2 = none := by unfold oAt; split <;> rfl
theorem oAt_t {b : Bool} {a a' : Nat} (h : b = true) : oAt b n a a' md = (a', md) := by subst h; rfl
theorem oAt_f {b : Bool} {a a' : Nat} (h : b = false) : oAt b n a a' md = (n, none) := by subst h; rfl
theorem grpRel {sub : Nat → PR} {a1 : Nat} {md1 : cMd} {x : Int32} (hm : md ≠ none) (h : cRel me bs md (sub (a + 1)) a1 md1 (some (.int x))) : cRel me bs md (pGrp t n sub a) (oAt (pek t n a1 == 41) n a1 (a1 + 1) md1).1 (oAt (pek t n a1 == 41) n a1 (a1 + 1) md1).2 (some (.int x)) := by
  unfold pGrp
  rcases cRel_cases hm h with ⟨e1, rfl⟩ | ⟨f, e1, rfl, e2⟩ | ⟨f, q, y, e, m, F', e1, rfl, e3, e4, rfl, e6, e7⟩
  · rw [e1]; exact cRel_f oAt_none (fun _ => rfl)
  · rw [e1]
    by_cases c : pek t n a1 = 41
    · simp only [c, if_true, oAt_t (show (41 == 41) = true from rfl)]
      exact cRel_b hm rfl e2
    · simp only [c, if_false, oAt_f (show (pek t n a1 == 41) = false by simp [c])]
      exact cRel_f rfl (fun _ => rfl)
  · rw [e1]
    by_cases c : pek t n a1 = 41
    · simp only [c, if_true, oAt_t (show (41 == 41) = true from rfl)]
      rw [e4]
      exact cRel_o rfl e3 rfl e6 e7
    · simp only [c, if_false, oAt_f (show (pek t n a1 == 41) = false by simp [c])]
      exact cRel_f rfl (fun _ => rfl)
end RD3
/-- the contract of readExpression at depth dp: the text reads as sub -/
def cSub (l : Launch) (w : jW) (h0 : jH) (u n me : Nat) (dp d : Nat) (sub : Nat → PR) : Prop := pgr n sub ∧ szs sub ∧ ∀ (h : jH) (a bs : Nat) (md : cMd), cAt h0 h u n a md → cBd a md → jM l w yX0_readExpression cX0_readExpression 5 (some .int) d [.ref (jad w 13), .int (nI dp)] h (fun r h' => ∃ a' md', cAt h0 h' u n a' md' ∧ cRel me bs md (sub a) a' md' r)
section RD4
variable {l : Launch} {w : jW} {h0 h : jH} {u : Nat} {t : Nat → Nat} {n : Nat} {hs : List (Nat × Nat × Nat)} {me sg bs : Nat} {a a' : Nat} {md md' : cMd} {r : Option Value} {dp d : Nat} {sub : Nat → PR}
theorem cAt_ne {c : Nat} (hc : cAt h0 h u n a md) (hp : pek t n a = c) (h0c : c ≠ 0) : md ≠ none := by
  intro e; subst e
  have := pek_in hp h0c
  have := hc.2.1
  omega
theorem c_readGroup (hw : jok w) (hS : cS h0 u t n hs me sg) (hd : 2 ≤ d) (hE' : cSub l w h0 u n me dp d sub) (hc : cAt h0 h u n a md) (hb : cBd a md) (hp : pek t n a = 40) : jM l w yX0_readGroup cX0_readGroup 3 (some .int) (d + 1) [.ref (jad w 13), .int (nI dp)] h (fun r h' => ∃ a' md', cAt h0 h' u n a' md' ∧ cRel me bs md (pGrp t n sub a) a' md' r) := by
  refine jM_of (by decide) hw (Nat.le_of_ble_eq_true rfl) ?_
  intro X C hl hR hnL hrt hE
  subst hl
  have C : jC X w cX0_readGroup RX0 := C
  have hm := cAt_ne hc hp (by decide)
  show J X w h 0 [(0, .ref (jad w 13)), (1, .int (nI dp))] []
  refine k_aload_n C dX0_readGroup_0 rfl ?_
  refine j_bipush (v := 40) C dX0_readGroup_1 (by decide) ?_
  refine k_callV (k := 13) (ci := 0) (As := [.int (nI 40)]) C mX0_68 (t_take hw hS hc (ch := 40) (by decide) (by decide)) jCl0.1 (by first | decide | omega) (by first | assumption | rfl) rfl rfl (Nat.le_of_ble_eq_true rfl) (jroom hR (by first | decide | omega) (by decide)) dX0_readGroup_3 ?_
  rintro v9 h9 ⟨rfl, hc⟩
  simp only [oAt, hp, beq_self_eq_true, if_true] at hc
  refine k_aload_n C dX0_readGroup_6 rfl ?_
  refine k_iload_n C dX0_readGroup_7 rfl ?_
  refine k_callV (k := 13) (ci := 0) (As := [.int (nI dp)]) C mX0_123 (hE'.2.2 _ (a + 1) bs md hc (fun q e => by have := hb q e; omega)) jCl0.1 (by first | decide | omega) (by first | assumption | rfl) rfl rfl (Nat.le_of_ble_eq_true rfl) (jroom hR (by first | decide | omega) (by decide)) dX0_readGroup_8 ?_
  rintro v9 h9 ⟨a1, md1, hc, hr1⟩
  obtain ⟨x1, rfl⟩ := cRel_int hr1
  refine k_istore_n C dX0_readGroup_11 (by rw [hnL]; decide) ?_
  refine k_aload_n C dX0_readGroup_12 rfl ?_
  refine j_bipush (v := 41) C dX0_readGroup_13 (by decide) ?_
  refine k_callV (k := 13) (ci := 0) (As := [.int (nI 41)]) C mX0_68 (t_take hw hS hc (ch := 41) (by decide) (by decide)) jCl0.1 (by first | decide | omega) (by first | assumption | rfl) rfl rfl (Nat.le_of_ble_eq_true rfl) (jroom hR (by first | decide | omega) (by decide)) dX0_readGroup_15 ?_
  rintro v9 h9 ⟨rfl, hc⟩
  refine k_iload_n C dX0_readGroup_18 rfl ?_
  exact j_iret C hrt hE dX0_readGroup_19 (⟨_, _, hc, grpRel hm hr1⟩)
end RD4
