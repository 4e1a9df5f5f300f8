/-! THE COMPILER'S STATE BY MODES: none: the text is none as said (its place is the end); some none: types are not as said; some (c, hd, rm, F): all is well so far, c the code's length, hd what is held, rm the room, F the code. -/
abbrev cMd : Type := Option (Option (Nat × Nat × Nat × (Nat → Int32)))
def cAt (h0 h : jH) (u n a : Nat) (md : cMd) : Prop := a ≤ n ∧ match md with
  | none => a = n ∧ ∃ (yw hd rm : Int32) (c : Nat) (F : Nat → Int32), c ≤ 240 ∧ cst h0 h u a 1 yw hd rm c F
  | some none => ∃ (hd rm : Int32) (c : Nat) (F : Nat → Int32), c ≤ 240 ∧ cst h0 h u a 0 1 hd rm c F
  | some (some q) => q.1 ≤ 240 ∧ cst h0 h u a 0 0 (nI q.2.1) (nI q.2.2.1) q.1 q.2.2.2
def oNd (x y : Int32) (md : cMd) : cMd := match md with
  | none => none
  | some q => if x = y then some q else some none
def oEm (x y : Int32) (md : cMd) : cMd := match md with
  | some (some q) => some (some (emC q.1, q.2.1, q.2.2.1, emF q.1 q.2.2.2 x y))
  | m => m
def oHo (k : Nat) (md : cMd) : cMd := match md with
  | some (some q) => some (some (emC q.1, q.2.1 + k, max q.2.2.1 (q.2.1 + k), emF q.1 q.2.2.2 (if k = 2 then 4 else 3) 0))
  | m => m
def oRl (k : Nat) (md : cMd) : cMd := match md with
  | some (some q) => some (some (q.1, q.2.1 - k, q.2.2.1, q.2.2.2))
  | m => m
def oLa (j : Nat) (md : cMd) : cMd := match md with
  | some (some q) => some (some (q.1, q.2.1, q.2.2.1, if j < 240 then va_up q.2.2.2 j (q.2.2.2 j ||| nI q.1 <<< ((4 : Int32) &&& 31)) else q.2.2.2))
  | m => m
def oAt (b : Bool) (n a a' : Nat) (md : cMd) : Nat × cMd := if b then (a', md) else (n, none)
theorem emC_le {c : Nat} (h : c ≤ 240) : emC c ≤ 240 := by unfold emC; split <;> omega
section CAT
variable {l : Launch} {w : jW} {h0 h : jH} {u : Nat} {t : Nat → Nat} {n : Nat} {hs : List (Nat × Nat × Nat)} {me sg : Nat} {a : Nat} {md : cMd}
theorem cAt_any (hc : cAt h0 h u n a md) : ∃ (tw yw hd rm : Int32) (c : Nat) (F : Nat → Int32), c ≤ 240 ∧ cst h0 h u a tw yw hd rm c F := by
  obtain ⟨-, hc⟩ := hc
  rcases md with _ | _ | q
  · obtain ⟨-, yw, hd, rm, c, F, h1, h2⟩ := hc; exact ⟨_, _, _, _, c, F, h1, h2⟩
  · obtain ⟨hd, rm, c, F, h1, h2⟩ := hc; exact ⟨_, _, _, _, c, F, h1, h2⟩
  · exact ⟨_, _, _, _, _, _, hc.1, hc.2⟩
/-- a move of the place alone, or a fault of the text -/
theorem cAt_move {a' : Nat} (hS : cS h0 u t n hs me sg) (hc : cAt h0 h u n a md) (ha : a' ≤ n) (hm : md = none → a' = n) {h' : jH} (hk : ∀ (tw yw hd rm : Int32) (c : Nat) (F : Nat → Int32), cst h0 h u a tw yw hd rm c F → cst h0 h' u a' tw yw hd rm c F) : cAt h0 h' u n a' md := by
  obtain ⟨-, hc⟩ := hc
  refine ⟨ha, ?_⟩
  rcases md with _ | _ | q
  · obtain ⟨-, yw, hd, rm, c, F, h1, h2⟩ := hc; exact ⟨hm rfl, yw, hd, rm, c, F, h1, hk _ _ _ _ _ _ h2⟩
  · obtain ⟨hd, rm, c, F, h1, h2⟩ := hc; exact ⟨hd, rm, c, F, h1, hk _ _ _ _ _ _ h2⟩
  · exact ⟨hc.1, hk _ _ _ _ _ _ hc.2⟩
/-- any two descriptions of one heap agree -/
theorem cst_two {a' c c' : Nat} {tw yw hd rm tw' yw' hd' rm' : Int32} {F F' : Nat → Int32} (h1 : cst h0 h u a tw yw hd rm c F) (h2 : cst h0 h u a' tw' yw' hd' rm' c' F') : tw = tw' ∧ yw = yw' ∧ hd = hd' ∧ rm = rm' ∧ nI c = nI c' ∧ F = F' ∧ nI a = nI a' :=
  ⟨h1.2.2.1.symm.trans h2.2.2.1, h1.2.2.2.1.symm.trans h2.2.2.2.1, h1.2.2.2.2.1.symm.trans h2.2.2.2.2.1, h1.2.2.2.2.2.1.symm.trans h2.2.2.2.2.2.1, h1.2.2.2.2.2.2.1.symm.trans h2.2.2.2.2.2.2.1, h1.2.2.2.2.2.2.2.symm.trans h2.2.2.2.2.2.2.2, h1.2.1.symm.trans h2.2.1⟩
theorem t_peek (hw : jok w) (hS : cS h0 u t n hs me sg) (hc : cAt h0 h u n a md) : jM l w yX0_peek cX0_peek 1 (some .char) 0 [.ref (jad w 13)] h (fun r h' => r = some (.int (nI (pek t n a))) ∧ h' = h) := by
  obtain ⟨_, _, _, _, _, _, _, h2⟩ := cAt_any hc
  exact s_peek hw hS h2 hc.1
theorem tkle {ch : Nat} (h0c : ch ≠ 0) (ha : a ≤ n) : (if pek t n a = ch then a + 1 else a) ≤ n := by
  split
  · next q => have := pek_in q h0c; omega
  · exact ha
theorem t_takeIf (hw : jok w) (hS : cS h0 u t n hs me sg) (hc : cAt h0 h u n a md) {ch : Nat} (hch : ch < 128) (h0c : ch ≠ 0) : jM l w yX0_takeIf cX0_takeIf 2 (some .boolean) 1 [.ref (jad w 13), .int (nI ch)] h (fun r h' => r = some (.int (if pek t n a = ch then 1 else 0)) ∧ cAt h0 h' u n (if pek t n a = ch then a + 1 else a) md) := by
  obtain ⟨ha, hm⟩ := hc
  rcases md with _ | _ | q
  · obtain ⟨e, yw, hd, rm, c, F, h1, h2⟩ := hm
    refine jM_mono (s_takeIf hw hS h2 ha hch h0c) ?_
    rintro v h' ⟨rfl, h3⟩
    have : ¬ pek t n a = ch := fun q => by have := pek_in q h0c; omega
    simp only [if_neg this] at h3 ⊢
    exact ⟨trivial, ha, e, yw, hd, rm, c, F, h1, h3⟩
  · obtain ⟨hd, rm, c, F, h1, h2⟩ := hm
    refine jM_mono (s_takeIf hw hS h2 ha hch h0c) ?_
    rintro v h' ⟨rfl, h3⟩
    exact ⟨rfl, tkle h0c ha, hd, rm, c, F, h1, h3⟩
  · refine jM_mono (s_takeIf hw hS hm.2 ha hch h0c) ?_
    rintro v h' ⟨rfl, h3⟩
    exact ⟨rfl, tkle h0c ha, hm.1, h3⟩
theorem t_take (hw : jok w) (hS : cS h0 u t n hs me sg) (hc : cAt h0 h u n a md) {ch : Nat} (hch : ch < 128) (h0c : ch ≠ 0) : jM l w yX0_take cX0_take 2 none 2 [.ref (jad w 13), .int (nI ch)] h (fun r h' => r = none ∧ cAt h0 h' u n (oAt (pek t n a == ch) n a (a + 1) md).1 (oAt (pek t n a == ch) n a (a + 1) md).2) := by
  obtain ⟨tw, yw, hd, rm, c, F, h1, h2⟩ := cAt_any hc
  refine jM_mono (s_take hw hS h2 hc.1 hch h0c) ?_
  rintro v h' ⟨rfl, h3⟩
  refine ⟨rfl, ?_⟩
  by_cases q : pek t n a = ch
  · rw [if_pos q, if_pos q] at h3
    have hlt := pek_in q h0c
    simp only [oAt, q, beq_self_eq_true, if_true]
    refine cAt_move hS hc (by omega) ?_ ?_
    · intro e; subst e; have := hc.2.1; omega
    · intro tw' yw' hd' rm' c' F' h4
      obtain ⟨rfl, rfl, rfl, rfl, e5, rfl, -⟩ := cst_two h2 h4
      refine ⟨h3.1, h3.2.1, h3.2.2.1, h3.2.2.2.1, h3.2.2.2.2.1, h3.2.2.2.2.2.1, ?_, h3.2.2.2.2.2.2.2⟩
      rw [h3.2.2.2.2.2.2.1, e5]
  · rw [if_neg q, if_neg q] at h3
    have e : (pek t n a == ch) = false := by simp [q]
    simp only [oAt, e]
    exact ⟨Nat.le_refl _, rfl, yw, hd, rm, c, F, h1, h3⟩
theorem t_readAmong (hw : jok w) (hS : cS h0 u t n hs me sg) (hc : cAt h0 h u n a md) {lo hi : Nat} (hlo : lo < 128) (hhi : hi < 128) (hl0 : 0 < lo) : jM l w yX0_readAmong cX0_readAmong 4 (some .int) 1 [.ref (jad w 13), .int (nI lo), .int (nI hi)] h (fun r h' => r = some (.int (nI (if lo ≤ pek t n a ∧ pek t n a ≤ hi then pek t n a - lo else 0))) ∧ cAt h0 h' u n (oAt (decide (lo ≤ pek t n a ∧ pek t n a ≤ hi)) n a (a + 1) md).1 (oAt (decide (lo ≤ pek t n a ∧ pek t n a ≤ hi)) n a (a + 1) md).2) := by
  obtain ⟨tw, yw, hd, rm, c, F, h1, h2⟩ := cAt_any hc
  refine jM_mono (s_readAmong hw hS h2 hc.1 hlo hhi) ?_
  rintro v h' ⟨rfl, h3⟩
  refine ⟨rfl, ?_⟩
  by_cases q : lo ≤ pek t n a ∧ pek t n a ≤ hi
  · rw [if_pos q, if_pos q] at h3
    have hlt := pek_gt (c := 0) (t := t) (n := n) (a := a) (by omega)
    simp only [oAt, q, and_self, decide_true, if_true]
    refine cAt_move hS hc (by omega) ?_ ?_
    · intro e; subst e; have := hc.2.1; omega
    · intro tw' yw' hd' rm' c' F' h4
      obtain ⟨rfl, rfl, rfl, rfl, e5, rfl, -⟩ := cst_two h2 h4
      refine ⟨h3.1, h3.2.1, h3.2.2.1, h3.2.2.2.1, h3.2.2.2.2.1, h3.2.2.2.2.2.1, ?_, h3.2.2.2.2.2.2.2⟩
      rw [h3.2.2.2.2.2.2.1, e5]
  · rw [if_neg q, if_neg q] at h3
    have e : decide (lo ≤ pek t n a ∧ pek t n a ≤ hi) = false := by simp only [q, decide_false]
    simp only [oAt, e]
    exact ⟨Nat.le_refl _, rfl, yw, hd, rm, c, F, h1, h3⟩
theorem t_refuse (hw : jok w) (hS : cS h0 u t n hs me sg) (hc : cAt h0 h u n a md) : jM l w yX0_refuse cX0_refuse 1 (some .int) 0 [.ref (jad w 13)] h (fun r h' => r = some (.int 1) ∧ cAt h0 h' u n n none) := by
  obtain ⟨tw, yw, hd, rm, c, F, h1, h2⟩ := cAt_any hc
  refine jM_mono (s_refuse hw hS h2) ?_
  rintro v h' ⟨rfl, h3⟩
  exact ⟨rfl, Nat.le_refl _, rfl, yw, hd, rm, c, F, h1, h3⟩
theorem t_need (hw : jok w) (hS : cS h0 u t n hs me sg) (hc : cAt h0 h u n a md) (x y : Int32) : jM l w yX0_need cX0_need 3 none 0 [.ref (jad w 13), .int x, .int y] h (fun r h' => r = none ∧ cAt h0 h' u n a (oNd x y md)) := by
  obtain ⟨ha, hm⟩ := hc
  rcases md with _ | _ | q
  · obtain ⟨e, yw, hd, rm, c, F, h1, h2⟩ := hm
    refine jM_mono (s_need hw hS h2 x y) ?_
    rintro v h' ⟨rfl, h3⟩
    exact ⟨rfl, ha, e, _, hd, rm, c, F, h1, h3⟩
  · obtain ⟨hd, rm, c, F, h1, h2⟩ := hm
    refine jM_mono (s_need hw hS h2 x y) ?_
    rintro v h' ⟨rfl, h3⟩
    rw [ite_self] at h3
    exact ⟨rfl, ha, by simp only [oNd, ite_self]; exact ⟨hd, rm, c, F, h1, h3⟩⟩
  · refine jM_mono (s_need hw hS hm.2 x y) ?_
    rintro v h' ⟨rfl, h3⟩
    refine ⟨rfl, ha, ?_⟩
    by_cases e : x = y
    · simp only [oNd, e, if_true] at h3 ⊢; exact ⟨hm.1, h3⟩
    · simp only [oNd, e, if_false] at h3 ⊢; exact ⟨_, _, _, _, hm.1, h3⟩
theorem t_emit (hw : jok w) (hS : cS h0 u t n hs me sg) (hc : cAt h0 h u n a md) (x y : Int32) : jM l w yX3_emit cX3_emit 4 (some .int) 0 [.ref (jad w (ub u)), .int x, .int y] h (fun r h' => (∃ c, c ≤ 240 ∧ r = some (.int (nI c)) ∧ ∀ q, md = some (some q) → c = q.1) ∧ cAt h0 h' u n a (oEm x y md)) := by
  obtain ⟨ha, hm⟩ := hc
  rcases md with _ | _ | q
  · obtain ⟨e, yw, hd, rm, c, F, h1, h2⟩ := hm
    refine jM_mono (s_emit hw hS h2 h1 x y) ?_
    rintro v h' ⟨rfl, h3⟩
    exact ⟨⟨c, h1, rfl, fun q z => by cases z⟩, ha, e, yw, hd, rm, _, _, emC_le h1, h3⟩
  · obtain ⟨hd, rm, c, F, h1, h2⟩ := hm
    refine jM_mono (s_emit hw hS h2 h1 x y) ?_
    rintro v h' ⟨rfl, h3⟩
    exact ⟨⟨c, h1, rfl, fun q z => by cases z⟩, ha, hd, rm, _, _, emC_le h1, h3⟩
  · refine jM_mono (s_emit hw hS hm.2 hm.1 x y) ?_
    rintro v h' ⟨rfl, h3⟩
    exact ⟨⟨q.1, hm.1, rfl, fun q' z => by cases z; rfl⟩, ha, emC_le hm.1, h3⟩
theorem t_release (hw : jok w) (hS : cS h0 u t n hs me sg) (hc : cAt h0 h u n a md) (x : Int32) (k : Nat) (hx : ∀ q, md = some (some q) → x = nI k ∧ k ≤ q.2.1) : jM l w yX0_release cX0_release 2 none 0 [.ref (jad w 13), .int x] h (fun r h' => r = none ∧ cAt h0 h' u n a (oRl k md)) := by
  obtain ⟨ha, hm⟩ := hc
  rcases md with _ | _ | q
  · obtain ⟨e, yw, hd, rm, c, F, h1, h2⟩ := hm
    refine jM_mono (s_release hw hS h2 x) ?_
    rintro v h' ⟨rfl, h3⟩
    exact ⟨rfl, ha, e, yw, _, rm, c, F, h1, h3⟩
  · obtain ⟨hd, rm, c, F, h1, h2⟩ := hm
    refine jM_mono (s_release hw hS h2 x) ?_
    rintro v h' ⟨rfl, h3⟩
    exact ⟨rfl, ha, _, rm, c, F, h1, h3⟩
  · refine jM_mono (s_release hw hS hm.2 x) ?_
    rintro v h' ⟨rfl, h3⟩
    obtain ⟨rfl, hk⟩ := hx q rfl
    rw [pk_sub hk] at h3
    exact ⟨rfl, ha, hm.1, h3⟩
theorem t_hold (hw : jok w) (hS : cS h0 u t n hs me sg) (hc : cAt h0 h u n a md) (x : Int32) (k : Nat) (hx : ∀ q, md = some (some q) → x = nI k ∧ k ≤ 2 ∧ q.2.1 ≤ 1000 ∧ q.2.2.1 ≤ 1000) : jM l w yX0_hold cX0_hold 2 none 1 [.ref (jad w 13), .int x] h (fun r h' => r = none ∧ cAt h0 h' u n a (oHo k md)) := by
  obtain ⟨ha, hm⟩ := hc
  rcases md with _ | _ | q
  · obtain ⟨e, yw, hd, rm, c, F, h1, h2⟩ := hm
    refine jM_mono (s_hold hw hS h2 h1 x) ?_
    rintro v h' ⟨rfl, h3⟩
    exact ⟨rfl, ha, e, yw, _, _, _, _, emC_le h1, h3⟩
  · obtain ⟨hd, rm, c, F, h1, h2⟩ := hm
    refine jM_mono (s_hold hw hS h2 h1 x) ?_
    rintro v h' ⟨rfl, h3⟩
    exact ⟨rfl, ha, _, _, _, _, emC_le h1, h3⟩
  · refine jM_mono (s_hold hw hS hm.2 hm.1 x) ?_
    rintro v h' ⟨rfl, h3⟩
    obtain ⟨rfl, hk, b1, b2⟩ := hx q rfl
    refine ⟨rfl, ha, emC_le hm.1, ?_⟩
    rw [nI_add] at h3
    have e1 : (if nI q.2.2.1 < nI (q.2.1 + k) then nI (q.2.1 + k) else nI q.2.2.1) = nI (max q.2.2.1 (q.2.1 + k)) := by
      by_cases z : q.2.2.1 < q.2.1 + k
      · rw [if_pos (nI_lt z (by omega)), Nat.max_eq_right (by omega)]
      · rw [if_neg (nI_nlt (by omega) (by omega)), Nat.max_eq_left (by omega)]
    have e2 : (if nI k = (2 : Int32) then (4 : Int32) else 3) = if k = 2 then 4 else 3 := by
      have : nI k = (2 : Int32) ↔ k = 2 := nI_eq (a := k) (b := 2) (by omega) (by omega)
      by_cases z : k = 2
      · rw [if_pos (this.mpr z), if_pos z]
      · rw [if_neg (fun q => z (this.mp q)), if_neg z]
    rw [e1, e2] at h3
    exact h3
theorem t_landHere (hw : jok w) (hS : cS h0 u t n hs me sg) (hc : cAt h0 h u n a md) {j : Nat} (hj : j ≤ 240) : jM l w yX3_landHere cX3_landHere 2 none 0 [.ref (jad w (ub u)), .int (nI j)] h (fun r h' => r = none ∧ cAt h0 h' u n a (oLa j md)) := by
  have key : ∀ (tw yw hd rm : Int32) (c : Nat) (F : Nat → Int32), cst h0 h u a tw yw hd rm c F → jM l w yX3_landHere cX3_landHere 2 none 0 [.ref (jad w (ub u)), .int (nI j)] h (fun r h' => r = none ∧ cst h0 h' u a tw yw hd rm c (if j < 240 then va_up F j (F j ||| nI c <<< ((4 : Int32) &&& 31)) else F)) := by
    intro tw yw hd rm c F h2
    refine jM_mono (m_landHere hw (FrUr h2.1 hS.1) h2.2.2.2.2.2.2.1 hj) ?_
    rintro v h' ⟨rfl, rfl⟩
    refine ⟨rfl, ?_⟩
    have e := h2.2.2.2.2.2.2.2
    split
    · rw [e]; exact cst_co hS.u7 h2 j _
    · exact h2
  obtain ⟨ha, hm⟩ := hc
  rcases md with _ | _ | q
  · obtain ⟨e, yw, hd, rm, c, F, h1, h2⟩ := hm
    refine jM_mono (key _ _ _ _ _ _ h2) ?_
    rintro v h' ⟨rfl, h3⟩
    exact ⟨rfl, ha, e, yw, _, rm, c, _, h1, h3⟩
  · obtain ⟨hd, rm, c, F, h1, h2⟩ := hm
    refine jM_mono (key _ _ _ _ _ _ h2) ?_
    rintro v h' ⟨rfl, h3⟩
    exact ⟨rfl, ha, _, rm, c, _, h1, h3⟩
  · refine jM_mono (key _ _ _ _ _ _ hm.2) ?_
    rintro v h' ⟨rfl, h3⟩
    exact ⟨rfl, ha, hm.1, h3⟩
end CAT
