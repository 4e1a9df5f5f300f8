/-! THE BODIES, one behind the other: none: the text is none as said; some none: types are not; some (ev, br): all events, and for each item its first event and its room -/
abbrev CR : Type := Option (Option (List Ev × List (Nat × Nat)))
def bdStep (t : Nat → Nat) (n : Nat) (hs : List (Nat × Nat × Nat)) (md : CR) (d : HD) : CR := match md with
  | none => none
  | some q => if d.1 = 0 then (match pE t n hs d.2.2.1 8 d.2.2.2.2 with
    | none => none
    | some p => if pek t n p.1 = 0 ∨ pek t n p.1 = 59 then (match q with
      | none => some none
      | some z => match p.2 z.1.length 0 with
        | none => some none
        | some y => if y.1 = ta d.2.2.1 0 then some (some (z.1 ++ (y.2.1 ++ [(14, 0, 0, y.1)]), z.2 ++ [(z.1.length, y.2.2)])) else some none) else none) else (match q with
    | none => some none
    | some z => some (some (z.1, z.2 ++ [(0, 0)])))
def bdL (t : Nat → Nat) (n : Nat) (hs : List (Nat × Nat × Nat)) (l : List HD) : CR := l.foldl (bdStep t n hs) (some (some ([], [])))
/-- what a text is, by its bodies -/
def cmpR (t : Nat → Nat) (n : Nat) : CR := if hdsP t n = none then none else bdL t n ((hdsL t n).map h3) (hdsL t n)
def cmpF (t : Nat → Nat) (n : Nat) : Nat := match cmpR t n with
  | none => 1
  | some none => 2
  | some (some _) => 0
/-- a unit that has been compiled: its name, its heads, its events, the items' first events and rooms -/
def cU (h : jH) (u me : Nat) (hs : List HD) (ev : List Ev) (br : List (Nat × Nat)) : Prop := me < 6 ∧ hs.length ≤ 6 ∧ br.length = hs.length ∧ cpos ev ≤ 240 ∧ h.1 (ub u) 0 = nI me ∧ h.1 (ub u) 1 = nI hs.length ∧ (∀ i (hi : i < hs.length), h.1 (ub u + 3 + i) 0 = oI (hs[i]).1 ∧ h.1 (ub u + 3 + i) 1 = nI (hs[i]).2.1 ∧ h.1 (ub u + 3 + i) 2 = nI (hs[i]).2.2.1 ∧ h.1 (ub u + 3 + i) 3 = nI (wb (hs[i]).2.2.1 4) ∧ h.1 (ub u + 3 + i) 4 = nI (hs[i]).2.2.2.1) ∧ ∀ P : Nat → Nat, P 0 = 0 → cmp P 0 ev → Rep (h.1 (ub u + 2)) me P 0 ev ∧ ∀ i (hi : i < hs.length), (hs[i]).1 = 0 → h.1 (ub u + 3 + i) 5 = nI (P (br.getD i (0, 0)).1) ∧ h.1 (ub u + 3 + i) 6 = nI (br.getD i (0, 0)).2
/-- the bodies ahead of item i have been read -/
def cInv (h : jH) (u : Nat) (t : Nat → Nat) (n : Nat) (hs : List HD) (me i : Nat) (md : CR) : Prop := bS h u t n (hs.map h3) me ∧ (md = none → h.1 13 4 = 1) ∧ (md ≠ none → h.1 13 4 = 0) ∧ (∀ j (hj : j < hs.length), h.1 (ub u + 3 + j) 3 = nI (wb (hs[j]).2.2.1 4) ∧ h.1 (ub u + 3 + j) 4 = nI (hs[j]).2.2.2.1 ∧ (i ≤ j → (hs[j]).1 = 0 → h.1 (ub u + 3 + j) 5 = nI (hs[j]).2.2.2.2)) ∧ (md = some none → h.1 13 5 = 1 ∧ ∃ c, c ≤ 240 ∧ h.1 (ub u) 3 = nI c) ∧ ∀ ev br, md = some (some (ev, br)) → h.1 13 5 = 0 ∧ h.1 (ub u) 3 = nI (cpos ev) ∧ cpos ev ≤ 240 ∧ br.length = i ∧ (∃ lim, lim ≤ n ∧ cpos ev ≤ 2 * lim ∧ ∀ j (hj : j < hs.length), i ≤ j → (hs[j]).1 = 0 → lim ≤ (hs[j]).2.2.2.2) ∧ ∀ P : Nat → Nat, P 0 = 0 → cmp P 0 ev → Rep (h.1 (ub u + 2)) me P 0 ev ∧ ∀ j (hj : j < hs.length), j < i → (hs[j]).1 = 0 → h.1 (ub u + 3 + j) 5 = nI (P (br.getD j (0, 0)).1) ∧ h.1 (ub u + 3 + j) 6 = nI (br.getD j (0, 0)).2
/-- what compiling may change -/
def cF (u : Nat) (h h' : jH) : Prop := (∀ k j, ¬ (k = 13 ∧ (j = 0 ∨ j = 3)) → h'.2.1 k j = h.2.1 k j) ∧ h'.2.2 = h.2.2 ∧ ∀ k j, k ≠ 13 → ¬ (ub u ≤ k ∧ k < ub u + 9) → h'.1 k j = h.1 k j
section CMP
variable {l : Launch} {w : jW} {h h' : jH} {u : Nat} {t : Nat → Nat} {n : Nat} {hs : List HD} {me i : Nat} {md : CR}
theorem gD_app {br : List (Nat × Nat)} {x : Nat × Nat} {j : Nat} (hj : j < br.length) : (br ++ [x]).getD j (0, 0) = br.getD j (0, 0) := by
  simp [List.getD_eq_getElem?_getD, List.getElem?_append_left hj]
theorem gD_last {br : List (Nat × Nat)} {x : Nat × Nat} {j : Nat} (hj : j = br.length) : (br ++ [x]).getD j (0, 0) = x := by
  subst hj; simp [List.getD_eq_getElem?_getD]
/-- an import -/
theorem cInv_imp (hi : i < hs.length) (hd : (hs[i]).1 ≠ 0) (H : cInv h u t n hs me i md) : cInv h u t n hs me (i + 1) (bdStep t n (hs.map h3) md hs[i]) := by
  obtain ⟨h1, h2, h3', h4, h5, h6⟩ := H
  have e : bdStep t n (hs.map h3) md hs[i] = match md with
      | none => none
      | some none => some none
      | some (some z) => some (some (z.1, z.2 ++ [(0, 0)])) := by
    unfold bdStep
    rcases md with _ | _ | z
    · rfl
    · simp [hd]
    · simp [hd]
  rw [e]
  refine ⟨h1, ?_, ?_, fun j hj => ⟨(h4 j hj).1, (h4 j hj).2.1, fun a => (h4 j hj).2.2 (by omega)⟩, ?_, ?_⟩
  · intro z; rcases md with _ | _ | q
    · exact h2 rfl
    · cases z
    · cases z
  · intro z; rcases md with _ | _ | q
    · exact absurd rfl z
    · exact h3' (by simp)
    · exact h3' (by simp)
  · intro z; rcases md with _ | _ | q
    · cases z
    · exact h5 rfl
    · cases z
  · intro ev br z
    rcases md with _ | _ | q
    · cases z
    · cases z
    · simp only [Option.some.injEq, Prod.mk.injEq] at z
      obtain ⟨rfl, rfl⟩ := z
      obtain ⟨g1, g2, g3, g4, ⟨lim, g5, g6, g7⟩, g8⟩ := h6 q.1 q.2 rfl
      refine ⟨g1, g2, g3, by simp [g4], ⟨lim, g5, g6, fun j hj hij => g7 j hj (by omega)⟩, fun P hP hc => ⟨(g8 P hP hc).1, fun j hj hij e0 => ?_⟩⟩
      have : j ≠ i := fun z => hd (by subst z; exact e0)
      rw [gD_app (by omega)]
      exact (g8 P hP hc).2 j hj (by omega) e0
/-- a definition's body -/
theorem cInv_def {c : Nat} {yw : Int32} {F : Nat → Int32} {md' : cMd} (hi : i < hs.length) (h6 : hs.length ≤ 6) (hok : ∀ j (hj : j < hs.length), hdK n hs[j]) (hsk : ∀ j (hj : j < hs.length), i < j → (hs[j]).1 = 0 → skp t n (n - (hs[i]).2.2.2.2) (hs[i]).2.2.2.2 ≤ (hs[j]).2.2.2.2) (hd : (hs[i]).1 = 0) (hm : md ≠ none) (H : cInv h u t n hs me i md)
    (hyw : h.1 13 5 = yw) (hcl : h.1 (ub u) 3 = nI c) (hc2 : c ≤ 240) (hc3 : ∀ z, md = some (some z) → c = cpos z.1) (hF : h.1 (ub u + 2) = F) (hB : bFr u i h h') (hR : ∀ z, md = some (some z) → bRel t n me z.1.length (ta (hs[i]).2.2.1 0) (bMd yw c F) (pE t n (hs.map h3) (hs[i]).2.2.1 8 (hs[i]).2.2.2.2) md') (hR2 : md = some none → bRel t n me 0 (ta (hs[i]).2.2.1 0) (bMd yw c F) (pE t n (hs.map h3) (hs[i]).2.2.1 8 (hs[i]).2.2.2.2) md') (hH : bodH u i c h' md') : cInv h' u t n hs me (i + 1) (bdStep t n (hs.map h3) md hs[i]) := by
  obtain ⟨h1, h2, h3', h4, h5, h6'⟩ := H
  have hub := ub_in h1.1.1
  have hh : hsok (hs.map h3) := by
    intro q hq
    obtain ⟨d, hd1, rfl⟩ := List.mem_map.mp hq
    obtain ⟨j, hj, rfl⟩ := List.mem_iff_getElem.mp hd1
    exact (hok j hj).2.2.2.2.1
  have hi6 : i < 6 := by omega
  have B1 : bS h' u t n (hs.map h3) me := bS_keep hi6 hB h1
  have I1 : ∀ j (hj : j < hs.length), h'.1 (ub u + 3 + j) 3 = nI (wb (hs[j]).2.2.1 4) ∧ h'.1 (ub u + 3 + j) 4 = nI (hs[j]).2.2.2.1 ∧ (i + 1 ≤ j → (hs[j]).1 = 0 → h'.1 (ub u + 3 + j) 5 = nI (hs[j]).2.2.2.2) := by
    intro j hj
    have := h4 j hj
    refine ⟨?_, ?_, fun a b => ?_⟩
    · rw [hB.2 (ub u + 3 + j) 3 (by omega) (by omega) (by omega) (by omega)]; exact this.1
    · rw [hB.2 (ub u + 3 + j) 4 (by omega) (by omega) (by omega) (by omega)]; exact this.2.1
    · rw [hB.2 (ub u + 3 + j) 5 (by omega) (by omega) (by omega) (by omega)]; exact this.2.2 (by omega) b
  obtain ⟨q1, q2, q3, q4⟩ := hH
  have none' : md' = none → bdStep t n (hs.map h3) md hs[i] = none → cInv h' u t n hs me (i + 1) (bdStep t n (hs.map h3) md hs[i]) := by
    intro e1 e2
    rw [e2]
    exact ⟨B1, fun _ => q1 e1, fun z => absurd rfl z, I1, (fun z => by cases z), fun _ _ z => by cases z⟩
  have bad' : md' = some none → bdStep t n (hs.map h3) md hs[i] = some none → cInv h' u t n hs me (i + 1) (bdStep t n (hs.map h3) md hs[i]) := by
    intro e1 e2
    rw [e2]
    exact ⟨B1, (fun z => by cases z), fun _ => q2 (by rw [e1]; simp), I1, fun _ => q3 e1, fun _ _ z => by cases z⟩
  cases hp : pE t n (hs.map h3) (hs[i]).2.2.1 8 (hs[i]).2.2.2.2 with
  | none =>
    rw [hp] at hR hR2
    refine none' ?_ ?_
    · rcases md with _ | _ | z
      · exact absurd rfl hm
      · exact hR2 rfl
      · exact hR z rfl
    · unfold bdStep
      rcases md with _ | q
      · rfl
      · simp only [hd, if_true, hp]
  | some p =>
    rw [hp] at hR hR2
    by_cases he : pek t n p.1 = 0 ∨ pek t n p.1 = 59
    · rcases md with _ | _ | z
      · exact absurd rfl hm
      · have y1 : yw = 1 := by rw [← hyw]; exact (h5 rfl).1
        refine bad' ?_ ?_
        · have := (hR2 rfl).2 he
          rw [y1] at this
          exact this
        · unfold bdStep
          simp only [hd, if_true, hp, he]
      · obtain ⟨g1, g2, g3, g4, ⟨lim, g5, g6, g7⟩, g8⟩ := h6' z.1 z.2 rfl
        have y0 : yw = 0 := by rw [← hyw]; exact g1
        have ec := hc3 z rfl
        have r := (hR z rfl).2 he
        rw [y0] at r
        change (match p.2 z.1.length 0 with
          | none => md' = some none
          | some y => if y.1 = ta (hs[i]).2.2.1 0 then ∃ F' : Nat → Int32, md' = some (some (c + cpos (y.2.1 ++ [(14, 0, 0, y.1)]), 0, max 0 y.2.2, F')) ∧ (∀ p, p < c → F' p = F p) ∧ ∀ P : Nat → Nat, P z.1.length = c → cmp P z.1.length (y.2.1 ++ [(14, 0, 0, y.1)]) → Rep F' me P z.1.length (y.2.1 ++ [(14, 0, 0, y.1)]) else md' = some none) at r
        cases hf : p.2 z.1.length 0 with
        | none =>
          rw [hf] at r
          refine bad' r ?_
          unfold bdStep
          simp only [hd, if_true, hp, he, hf]
        | some y =>
          rw [hf] at r
          simp only at r
          by_cases hy : y.1 = ta (hs[i]).2.2.1 0
          · rw [if_pos hy] at r
            obtain ⟨F', e1, e2, e3⟩ := r
            have e4 : bdStep t n (hs.map h3) (some (some z)) hs[i] = some (some (z.1 ++ (y.2.1 ++ [(14, 0, 0, y.1)]), z.2 ++ [(z.1.length, y.2.2)])) := by
              unfold bdStep
              simp only [hd, if_true, hp, he, hf, hy]
            rw [e4]
            obtain ⟨a1, f⟩ := p
            obtain ⟨y0, e, m⟩ := y
            have sz1 := sz_E (t := t) (n := n) hh (hok i hi).2.2.1 (hok i hi).2.2.2.1 8 _ _ _ hp _ _ _ _ _ hf
            have pg1 := pgr_E (t := t) (n := n) 8 _ _ _ hp
            have ns1 := ns_E (t := t) (n := n) 8 _ _ _ hp
            have sk1 := skp_ge (n - (hs[i]).2.2.2.2) (hs[i]).2.2.2.2 a1 (by omega) pg1.2 (by omega) ns1
            have l1 := g7 i hi (Nat.le_refl _) hd
            obtain ⟨o1, o2, o3, o4, o5, o6⟩ := q4 _ e1
            dsimp only at o2 o3 o4 o6 sz1
            have ecp : cpos (z.1 ++ (e ++ [(14, 0, 0, y0)])) = c + cpos (e ++ [(14, 0, 0, y0)]) := by rw [cpos_app, ec]
            have ecq : cpos (e ++ [(14, 0, 0, y0)]) = cpos e + 1 := by rw [cpos_app]; rfl
            refine ⟨B1, (fun z => by cases z), fun _ => q2 (by rw [e1]; simp), I1, (fun z => by cases z), ?_⟩
            intro ev br ez
            simp only [Option.some.injEq, Prod.mk.injEq] at ez
            obtain ⟨rfl, rfl⟩ := ez
            refine ⟨o1, by rw [ecp]; exact o2, by rw [ecp]; exact o3, by simp [g4], ⟨a1, pg1.2, by omega, fun j hj hij e0 => Nat.le_trans sk1 (hsk j hj (by omega) e0)⟩, fun P hP hc => ?_⟩
            rw [cmp_app] at hc
            simp only [Nat.zero_add] at hc
            have pe := cmp_end z.1 0 hc.1
            rw [hP, Nat.zero_add, Nat.zero_add] at pe
            obtain ⟨r1, r2⟩ := g8 P hP hc.1
            refine ⟨?_, fun j hj hij e0 => ?_⟩
            · rw [Rep_app, o4, Nat.zero_add]
              refine ⟨Rep_low (c := c) (by omega) hc.1 e2 ?_, e3 P (by omega) hc.2⟩
              rw [← hF]; exact r1
            · by_cases hj2 : j = i
              · subst hj2
                rw [gD_last g4.symm]
                refine ⟨?_, ?_⟩
                · rw [o5, pe, ec]
                · rw [o6]; simp
              · rw [gD_app (by omega), hB.2 (ub u + 3 + j) 5 (by omega) (by omega) (by omega) (by omega), hB.2 (ub u + 3 + j) 6 (by omega) (by omega) (by omega) (by omega)]
                exact r2 j hj (by omega) e0
          · rw [if_neg hy] at r
            refine bad' r ?_
            unfold bdStep
            simp only [hd, if_true, hp, he, hf, hy, if_false]
    · refine none' ?_ ?_
      · rcases md with _ | _ | z
        · exact absurd rfl hm
        · exact (hR2 rfl).1 he
        · exact (hR z rfl).1 he
      · unfold bdStep
        rcases md with _ | q
        · rfl
        · simp only [hd, if_true, hp, he, if_false]
end CMP
