/-- what reading all items may change -/
def wF (g g' : jH) : Prop := g'.2 = g.2 ∧ ∀ k j, ¬ ((k = 70 ∧ (j = 4 ∨ j = 5 ∨ j = 6 ∨ j = 7 ∨ j = 21 ∨ j = 22 ∨ j = 23 ∨ j = 31 ∨ j = 32 ∨ j = 33)) ∨ (85 ≤ k ∧ k ≤ 91) ∨ (82 ≤ k ∧ k ≤ 84 ∧ 780 ≤ j) ∨ (74 ≤ k ∧ k ≤ 81 ∧ k ≠ 78 ∧ 36 ≤ j) ∨ (k = 78 ∧ 108 ≤ j) ∨ (k = 73 ∧ j = 6)) → g'.1 k j = g.1 k j
def hsX (t : Nat → Nat) (n : Nat) : List (Nat × Nat × Nat) := (hdsL t n).map h3
/-- the bodies of these heads -/
def mdX (t : Nat → Nat) (n : Nat) (l : List HD) : CR := l.foldl (bdStep t n (hsX t n)) (some (some ([], [])))
def evO (md : CR) : Option (List Ev) := match md with
  | some (some z) => some z.1
  | _ => none
/-- the code and the rooms of the heads that have been read -/
def mdI (g : jH) (l : List HD) (s : Nat) (ty : Bool) (md : CR) : Prop := match md with
  | some (some z) => ty = true ∧ s = rpos z.1 ∧ rR g (fun _ => False) z.1 ∧ z.2.length = l.length ∧ ∀ j (hj : j < l.length), (l[j]).1 = 0 → g.1 80 (36 + j) = nI (z.2.getD j (0, 0)).2 ∧ g.1 81 (36 + j) = nI (Rc z.1 (z.2.getD j (0, 0)).1) ∧ (z.2.getD j (0, 0)).1 ≤ z.1.length
  | _ => ty = false
section XS
variable {l : Launch} {w : jW} {h g g' : jH} {t : Nat → Nat} {n a : Nat} {gd ty dc : Bool} {i s : Nat} {hsH tb : List HD}
theorem wF_rf : wF g g := ⟨rfl, fun _ _ _ => rfl⟩
theorem wF_zF {g2 : jH} (hi : i < 6) (F : wF g g') (G : zF i g' g2) : wF g g2 := ⟨by rw [G.1, F.1], fun k j z => by rw [G.2 k j (by omega)]; exact F.2 k j z⟩
theorem wF_up (F : wF g g') {k j : Nat} {v : Int32} (hk : k = 70 ∧ (j = 4 ∨ j = 5 ∨ j = 6 ∨ j = 7 ∨ j = 21 ∨ j = 22 ∨ j = 23 ∨ j = 31 ∨ j = 32 ∨ j = 33)) : wF g (up2 g'.1 k j v, g'.2) := ⟨F.1, fun k' j' z => by dsimp only; rw [up2_n (by omega)]; exact F.2 k' j' z⟩
theorem hdL_pre : ∀ (f : Nat) (hs : List HD) (p : Option Nat), ∃ r, (hdL t n f hs p).1 = hs ++ r
  | 0, hs, p => ⟨[], by simp [hdL]⟩
  | f + 1, hs, p => by
    unfold hdL
    split
    · obtain ⟨r, hr⟩ := hdL_pre f (hs ++ [hdD t n hs (tk t n 59 p)]) (hdP7 t n hs (tk t n 59 p))
      exact ⟨hdD t n hs (tk t n 59 p) :: r, by rw [hr]; simp⟩
    · exact ⟨[], by simp⟩
theorem mdX_app {d : HD} : mdX t n (hsH ++ [d]) = bdStep t n (hsX t n) (mdX t n hsH) d := by unfold mdX; rw [List.foldl_append]; rfl
/-- the text is wrong when one of its bodies is -/
theorem cmp_bad {r : List HD} (hL : hdsL t n = hsH ++ r) (h : mdX t n hsH = none) : cmpR t n = none := by
  unfold cmpR
  split
  · rfl
  · unfold bdL
    show (hdsL t n).foldl (bdStep t n (hsX t n)) (some (some ([], []))) = none
    rw [hL, List.foldl_append]
    show r.foldl (bdStep t n (hsX t n)) (mdX t n hsH) = none
    rw [h]
    exact bd_none _ _
theorem cmp_hds (h : hdsP t n = none) : cmpR t n = none := by unfold cmpR; rw [if_pos h]
theorem cmp_ok (hP : hdsP t n ≠ none) : cmpR t n = mdX t n (hdsL t n) := by unfold cmpR; rw [if_neg hP]; rfl
theorem rIt_nil (h : g.1 73 6 = 0) : rIt g 6 [] := ⟨⟨by rw [h]; rfl, by simp, fun i hi => absurd hi (Nat.not_lt_zero _)⟩, fun i hi => absurd hi (Nat.not_lt_zero _)⟩
theorem dst_pre {r : List HD} (h : dst (hsH ++ r)) : dst hsH := by
  intro i j hj hi z
  refine h i j (by rw [List.length_append]; omega) hi ?_
  rw [List.getElem_append_left (by omega), List.getElem_append_left hj]
  exact z
theorem bdS_bad {d : HD} {md : CR} {hs : List (Nat × Nat × Nat)} (h0 : d.1 = 0) (h : bdV t n (pE t n hs d.2.2.1 8 d.2.2.2.2) ∨ ∃ p, pE t n hs d.2.2.1 8 d.2.2.2.2 = some p ∧ ¬ eob t n p.1) : bdStep t n hs md d = none := by
  unfold bdStep
  cases md with
  | none => rfl
  | some q =>
    simp only
    rw [if_pos h0]
    cases e : pE t n hs d.2.2.1 8 d.2.2.2.2 with
    | none => rfl
    | some p =>
      simp only
      rw [if_neg]
      rcases h with h | ⟨p', h1, h2⟩
      · rw [e] at h
        have h : 48 ≤ pek t n p.1 ∧ pek t n p.1 ≤ 57 := h
        omega
      · rw [e] at h1
        simp only [Option.some.injEq] at h1
        rw [h1]
        exact h2
theorem bdS_def {d : HD} {q : Option (List Ev × List (Nat × Nat))} {hs : List (Nat × Nat × Nat)} {a' : Nat} {f : CL} (h0 : d.1 = 0) (hpe : pE t n hs d.2.2.1 8 d.2.2.2.2 = some (a', f)) (he : eob t n a') : bdStep t n hs (some q) d = match q with
    | none => some none
    | some z => match f z.1.length 0 with
      | none => some none
      | some y => if y.1 = ta d.2.2.1 0 then some (some (z.1 ++ (y.2.1 ++ [(14, 0, 0, y.1)]), z.2 ++ [(z.1.length, y.2.2)])) else some none := by
  unfold bdStep
  simp only
  rw [if_pos h0, hpe]
  simp only
  rw [if_pos (show pek t n a' = 0 ∨ pek t n a' = 59 from he)]
  cases q with
  | none => rfl
  | some z => rfl
theorem bdS_imp {d : HD} {q : Option (List Ev × List (Nat × Nat))} {hs : List (Nat × Nat × Nat)} (h0 : d.1 ≠ 0) : bdStep t n hs (some q) d = match q with
    | none => some none
    | some z => some (some (z.1, z.2 ++ [(0, 0)])) := by
  unfold bdStep
  simp only
  rw [if_neg h0]
  cases q with
  | none => rfl
  | some z => rfl
theorem hdL_s {f : Nat} {hs : List HD} {p : Option Nat} : hdL t n (f + 1) hs p = if hs = [] ∨ pkO t n p = 59 then hdL t n f (hs ++ [hdD t n hs (tk t n 59 p)]) (hdP7 t n hs (tk t n 59 p)) else (hs, p) := rfl
theorem mdI_room {z : List Ev × List (Nat × Nat)} {x : List Ev} {b : Nat × Nat} {d : HD} (hz : z.2.length = hsH.length) (hi : i = hsH.length) (Z : zF i g g') (hj : ∀ j (hj : j < hsH.length), (hsH[j]).1 = 0 → g.1 80 (36 + j) = nI (z.2.getD j (0, 0)).2 ∧ g.1 81 (36 + j) = nI (Rc z.1 (z.2.getD j (0, 0)).1) ∧ (z.2.getD j (0, 0)).1 ≤ z.1.length) (hd : d.1 = 0 → g'.1 80 (36 + i) = nI b.2 ∧ g'.1 81 (36 + i) = nI (Rc (z.1 ++ x) b.1) ∧ b.1 ≤ (z.1 ++ x).length) : ∀ j (hj : j < (hsH ++ [d]).length), ((hsH ++ [d])[j]).1 = 0 → g'.1 80 (36 + j) = nI ((z.2 ++ [b]).getD j (0, 0)).2 ∧ g'.1 81 (36 + j) = nI (Rc (z.1 ++ x) ((z.2 ++ [b]).getD j (0, 0)).1) ∧ ((z.2 ++ [b]).getD j (0, 0)).1 ≤ (z.1 ++ x).length := by
  intro j hj2 h0
  by_cases c : j < hsH.length
  · rw [List.getElem_append_left c] at h0
    obtain ⟨q1, q2, q3⟩ := hj j c h0
    rw [gD_app (by omega)]
    exact ⟨by rw [Z.2 _ _ (by omega)]; exact q1, by rw [Z.2 _ _ (by omega), Rc_app q3]; exact q2, by rw [List.length_append]; omega⟩
  · have hjl : j = hsH.length := by rw [List.length_append] at hj2; simp at hj2; omega
    subst hjl
    rw [gD_last hz.symm]
    subst hi
    refine hd ?_
    rw [List.getElem_append_right (Nat.le_refl _)] at h0
    simpa using h0
theorem r_items (hw : jok w) (hr : g.2.1 70 = rMap) (ht : rtx g t n) (hm : 65 ≤ pek t n 0 ∧ pek t n 0 ≤ 70) (hN : rIt g 6 (if dc then [] else hdsL t n)) (hdc : dc = false → ty = true ∧ dst (hdsL t n)) : jM l w yX5_readItems cX5_readItems 3 none 7 [.ref (jad w 70), .int (bI dc)] (pv g a true ty) (fun r h' => r = none ∧ ∃ (g' : jH) (a' : Nat) (gd' ty' : Bool) (s' : Nat), h' = pv g' a' gd' ty' ∧ wF g g' ∧ g'.1 70 21 = nI s' ∧ ((gd' = false ∧ cmpR t n = none) ∨ (gd' = true ∧ cmpR t n ≠ none ∧ rIt g' 6 (hdsL t n) ∧ s' ≤ 120 ∧ (dc = false → mdI g' (hdsL t n) s' ty' (cmpR t n))))) := by
  refine jM_of (by decide) hw (Nat.le_of_ble_eq_true rfl) ?_
  intro X C hl hR hnL hrt hE
  subst hl
  have C : jC X w cX5_readItems RX5 := C
  have hn := ht.2.1
  have ht0 : ∀ i, i < n → t i ≠ 0 := fun i hi => by have := (ht.2.2 i hi).2; omega
  have e0 : am t n 65 70 (some 0) = some 1 := by unfold am pkO; simp only [Option.getD_some, Option.map_some]; rw [if_pos hm]
  have hn1 : 1 ≤ n := by have : 0 < n := pek_gt (t := t) (c := 0) (by omega); omega
  have hp0 : ∀ a, a ≤ n → (pek t n a = 0 ↔ a = n) := by
    intro a ha
    constructor
    · intro z
      by_cases c : a < n
      · exfalso
        unfold pek at z
        rw [if_pos c] at z
        exact ht0 a c z
      · omega
    · intro z; exact pek_ge (by omega)
  -- the end
  have fin : ∀ (g' : jH) (b : Nat) (gd ty : Bool) (i s : Nat), wF g g' → g'.1 70 21 = nI s → i ≤ 7 → b ≤ 1000 → (∀ gd', (gd' = (gd && (decide (0 < i) && decide (b = n)))) → ((gd' = false ∧ cmpR t n = none) ∨ (gd' = true ∧ cmpR t n ≠ none ∧ rIt g' 6 (hdsL t n) ∧ s ≤ 120 ∧ (dc = false → mdI g' (hdsL t n) s ty (cmpR t n))))) → J X w (pv g' b gd ty) 66 [(0, .ref (jad w 70)), (1, .int (bI dc)), (2, .int (nI i))] [] := by
    intro g' b gd ty i s F h21 hi6 hb hp
    have e3 : (pv g' b gd ty).1 70 3 = nI n := by rw [pv_o (by omega), F.2 70 3 (by omega)]; exact ht.1
    have fin2 : ∀ v : Bool, v = (decide (0 < i) && decide (b = n)) → J X w (pv g' b gd ty) 87 [(0, .ref (jad w 70)), (1, .int (bI dc)), (2, .int (nI i))] [.int (bI v), .ref (jad w 70)] := by
      intro v hv
      refine k_callV (k := 70) (ci := 5) (As := [.int (bI v)]) C mX5_131 (r_must hw v) jCl5.1 (by first | decide | omega) (by first | assumption | rfl) rfl rfl (Nat.le_of_ble_eq_true rfl) (jroom hR (by first | decide | omega) (by decide)) dX5_readItems_87 ?_
      rintro v9 h9 ⟨rfl, rfl⟩
      exact j_vret C hrt hE dX5_readItems_90 (⟨rfl, g', b, _, ty, s, rfl, F, h21, hp _ (by rw [hv])⟩)
    by_cases hi0 : 0 < i
    · by_cases hbn : b = n
      · skip
        refine k_aload_n C dX5_readItems_66 rfl ?_
        refine k_iload_n C dX5_readItems_67 rfl ?_
        refine j_if_le C 86 dX5_readItems_68 (by decide) (fun c68 => ?_) (fun c68 => ?_)
        · exact absurd c68 (by rw [show (0 : Int32) = nI 0 from rfl, nI_leI (by omega) (by omega)]; omega) -- stop
        · refine k_aload_n C dX5_readItems_71 rfl ?_
          refine j_geti C fX5_113 rfl (by first | decide | omega) (by first | assumption | rfl) dX5_readItems_72 ?_
          refine k_aload_n C dX5_readItems_75 rfl ?_
          refine j_geti C fX5_110 rfl (by first | decide | omega) (by first | assumption | rfl) dX5_readItems_76 ?_
          refine j_icmp_ne C 86 dX5_readItems_79 (by decide) (fun c79 => ?_) (fun c79 => ?_)
          · exact absurd (by rw [pv_4, e3, hbn]) c79 -- stop
          · refine j_iconst (v := 1) C dX5_readItems_82 (by decide) ?_
            refine j_goto C 87 dX5_readItems_83 (by decide) ?_
            exact fin2 true (by rw [decide_eq_true hi0, decide_eq_true hbn]; rfl)
      · skip
        refine k_aload_n C dX5_readItems_66 rfl ?_
        refine k_iload_n C dX5_readItems_67 rfl ?_
        refine j_if_le C 86 dX5_readItems_68 (by decide) (fun c68 => ?_) (fun c68 => ?_)
        · exact absurd c68 (by rw [show (0 : Int32) = nI 0 from rfl, nI_leI (by omega) (by omega)]; omega) -- stop
        · refine k_aload_n C dX5_readItems_71 rfl ?_
          refine j_geti C fX5_113 rfl (by first | decide | omega) (by first | assumption | rfl) dX5_readItems_72 ?_
          refine k_aload_n C dX5_readItems_75 rfl ?_
          refine j_geti C fX5_110 rfl (by first | decide | omega) (by first | assumption | rfl) dX5_readItems_76 ?_
          refine j_icmp_ne C 86 dX5_readItems_79 (by decide) (fun c79 => ?_) (fun c79 => ?_)
          · refine j_iconst (v := 0) C dX5_readItems_86 (by decide) ?_
            exact fin2 false (by rw [decide_eq_false hbn, Bool.and_false])
          · exact absurd ((nI_eq (by omega) (by omega)).mp (by rw [← e3, ← pv_4 (g := g') (a := b) (gd := gd) (ty := ty)]; first | exact c79 | exact Classical.not_not.mp c79)) hbn -- stop
    · have : i = 0 := by omega
      subst this
      refine k_aload_n C dX5_readItems_66 rfl ?_
      refine k_iload_n C dX5_readItems_67 rfl ?_
      refine j_if_le C 86 dX5_readItems_68 (by decide) (fun c68 => ?_) (fun c68 => ?_)
      · refine j_iconst (v := 0) C dX5_readItems_86 (by decide) ?_
        exact fin2 false rfl
      · exact absurd (show nI 0 ≤ 0 by decide) c68 -- stop
  have bad17 : ∀ (g' : jH) (b : Nat) (ty : Bool) (i s : Nat), wF g g' → g'.1 70 21 = nI s → i ≤ 7 → b ≤ 1000 → cmpR t n = none → J X w (pv g' b false ty) 17 [(0, .ref (jad w 70)), (1, .int (bI dc)), (2, .int (nI i))] [] := by
    intro g' b ty i s F h21 hi6 hb hv
    refine k_aload_n C dX5_readItems_17 rfl ?_
    refine j_geti C fX5_116 rfl (by first | decide | omega) (by first | assumption | rfl) dX5_readItems_18 ?_
    refine j_if_eq C 66 dX5_readItems_21 (by decide) (fun c21 => ?_) (fun c21 => ?_)
    · exact fin g' b false ty i s F h21 hi6 hb (fun gd' hg => Or.inl ⟨by rw [hg]; rfl, hv⟩)
    · exact absurd pv_5 c21 -- stop
  have loop : ∀ (f i : Nat), i + f = 6 → ∀ (g' : jH) (a s : Nat) (ty : Bool) (hsH : List HD), hsH.length = i → wF g g' → g'.1 70 7 = bI dc → g'.1 70 21 = nI s → s ≤ a → 1 ≤ a → a ≤ n → hdL t n f hsH (some a) = hdL t n 6 [] (some 1) → rIt g' 6 (if dc then hsH else hdsL t n) → mdX t n hsH ≠ none → (dc = false → mdI g' hsH s ty (mdX t n hsH)) → J X w (pv g' a true ty) 17 [(0, .ref (jad w 70)), (1, .int (bI dc)), (2, .int (nI i))] [] := by
    intro f
    induction f with
    | zero =>
      intro i hi g' a s ty hsH hlen F h7 h21 hsa ha1 han hLL N hmd hmi
      have hr' : g'.2.1 70 = rMap := by rw [F.1]; exact hr
      have ht' : rtx g' t n := rtx_keep (F.2 70 3 (by omega)) (fun j => F.2 71 j (by omega)) ht
      have n5 : ∀ {b : Nat}, ¬ (pv g' b true ty).1 70 5 = 0 := fun {b} => by rw [pv_5]; decide
      have hds : (hdL t n 6 [] (am t n 65 70 (some 0))) = (hsH, some a) := by rw [e0, ← hLL]; rfl
      have hL1 : hdsL t n = hsH := by unfold hdsL; rw [hds]
      by_cases c59 : pek t n a = 59
      · have b59 : (pek t n a == 59) = true := by simp [c59]
        have hv : cmpR t n = none := cmp_hds (by unfold hdsP; rw [hds]; rw [if_neg (show ¬ pkO t n (some a) = 0 by show ¬ pek t n a = 0; omega)])
        refine k_aload_n C dX5_readItems_17 rfl ?_
        refine j_geti C fX5_116 rfl (by first | decide | omega) (by first | assumption | rfl) dX5_readItems_18 ?_
        refine j_if_eq C 66 dX5_readItems_21 (by decide) (fun c21 => ?_) (fun c21 => ?_)
        · exact absurd c21 n5 -- stop
        · refine k_aload_n C dX5_readItems_24 rfl ?_
          refine j_bipush (v := 59) C dX5_readItems_25 (by decide) ?_
          refine k_callV (k := 70) (ci := 5) (As := [.int (nI 59)]) C mX5_127 (r_pass hw hr' ht' (by omega) (ch := 59) (by decide)) jCl5.1 (by first | decide | omega) (by first | assumption | rfl) rfl rfl (Nat.le_of_ble_eq_true rfl) (jroom hR (by first | decide | omega) (by decide)) dX5_readItems_27 ?_
          rintro v9 h9 ⟨rfl, rfl⟩
          rw [b59, if_pos c59]
          refine j_if_eq C 66 dX5_readItems_30 (by decide) (fun c30 => ?_) (fun c30 => ?_)
          · exact absurd c30 (by decide) -- stop
          · refine k_aload_n C dX5_readItems_33 rfl ?_
            refine k_iload_n C dX5_readItems_34 rfl ?_
            refine j_bipush (v := 6) C dX5_readItems_35 (by decide) ?_
            refine j_icmp_ge C 44 dX5_readItems_37 (by decide) (fun c37 => ?_) (fun c37 => ?_)
            · refine j_iconst (v := 0) C dX5_readItems_44 (by decide) ?_
              refine k_callV (k := 70) (ci := 5) (As := [.int (bI false)]) C mX5_131 (r_must hw false) jCl5.1 (by first | decide | omega) (by first | assumption | rfl) rfl rfl (Nat.le_of_ble_eq_true rfl) (jroom hR (by first | decide | omega) (by decide)) dX5_readItems_45 ?_
              rintro v9 h9 ⟨rfl, rfl⟩
              rw [Bool.and_false]
              refine k_aload_n C dX5_readItems_48 rfl ?_
              refine j_geti C fX5_116 rfl (by first | decide | omega) (by first | assumption | rfl) dX5_readItems_49 ?_
              refine j_if_eq C 60 dX5_readItems_52 (by decide) (fun c52 => ?_) (fun c52 => ?_)
              · refine k_iinc C dX5_readItems_60 rfl rfl (by rw [hnL]; decide) ?_
                refine j_goto C 17 dX5_readItems_63 (by decide) ?_
                rw [show nI i + Int32.ofInt 1 = nI (i + 1) from nI_1 i]
                exact bad17 g' (a + 1) ty (i + 1) s F h21 (by omega) (by omega) hv
              · exact absurd pv_5 c52 -- stop
            · exact absurd (nI_le (a := 6) (b := i) (by omega) (by omega)) c37 -- stop
      · have b59 : (pek t n a == 59) = false := by simp [c59]
        have hi6 : i = 6 := by omega
        refine k_aload_n C dX5_readItems_17 rfl ?_
        refine j_geti C fX5_116 rfl (by first | decide | omega) (by first | assumption | rfl) dX5_readItems_18 ?_
        refine j_if_eq C 66 dX5_readItems_21 (by decide) (fun c21 => ?_) (fun c21 => ?_)
        · exact absurd c21 n5 -- stop
        · refine k_aload_n C dX5_readItems_24 rfl ?_
          refine j_bipush (v := 59) C dX5_readItems_25 (by decide) ?_
          refine k_callV (k := 70) (ci := 5) (As := [.int (nI 59)]) C mX5_127 (r_pass hw hr' ht' (by omega) (ch := 59) (by decide)) jCl5.1 (by first | decide | omega) (by first | assumption | rfl) rfl rfl (Nat.le_of_ble_eq_true rfl) (jroom hR (by first | decide | omega) (by decide)) dX5_readItems_27 ?_
          rintro v9 h9 ⟨rfl, rfl⟩
          rw [b59, if_neg c59]
          refine j_if_eq C 66 dX5_readItems_30 (by decide) (fun c30 => ?_) (fun c30 => ?_)
          · refine fin g' a true ty i s F h21 (by omega) (by omega) (fun gd' hg => ?_)
            by_cases can : a = n
            · have hP : hdsP t n = some a := by unfold hdsP; rw [hds]; exact if_pos ((hp0 a han).mpr can)
              have hc := cmp_ok (t := t) (n := n) (by rw [hP]; simp)
              rw [hL1] at hc
              refine Or.inr ⟨by rw [hg, decide_eq_true can, decide_eq_true (show 0 < i by omega)]; rfl, by rw [hc]; exact hmd, ?_, by omega, fun z => ?_⟩
              · rw [hL1]; cases dc with
                | true => exact N
                | false => rw [← hL1]; exact N
              · rw [hc, hL1]; exact hmi z
            · have hP : hdsP t n = none := by unfold hdsP; rw [hds]; exact if_neg (fun z => can ((hp0 a han).mp z))
              exact Or.inl ⟨by rw [hg, decide_eq_false can, Bool.and_false, Bool.and_false], cmp_hds hP⟩
          · exact absurd rfl c30 -- stop
    | succ f ih =>
      intro i hi g' a s ty hsH hlen F h7 h21 hsa ha1 han hLL N hmd hmi
      have hr' : g'.2.1 70 = rMap := by rw [F.1]; exact hr
      have ht' : rtx g' t n := rtx_keep (F.2 70 3 (by omega)) (fun j => F.2 71 j (by omega)) ht
      have n5 : ∀ {b : Nat}, ¬ (pv g' b true ty).1 70 5 = 0 := fun {b} => by rw [pv_5]; decide
      by_cases c59 : pek t n a = 59
      · have b59 : (pek t n a == 59) = true := by simp [c59]
        have ha2 := pek_in c59 (by decide)
        have etk : tk t n 59 (some a) = some (a + 1) := by unfold tk pkO; simp [c59]
        rw [hdL_s, if_pos (Or.inr (show pkO t n (some a) = 59 from c59)), etk] at hLL
        obtain ⟨d, ed⟩ : ∃ d, d = hdD t n hsH (some (a + 1)) := ⟨_, rfl⟩
        rw [← ed] at hLL
        obtain ⟨r, hrr⟩ := hdL_pre (t := t) (n := n) f (hsH ++ [d]) (hdP7 t n hsH (some (a + 1)))
        have hL1 : hdsL t n = hsH ++ [d] ++ r := by unfold hdsL; rw [e0, ← hLL]; exact hrr
        have hL6 := hdL_len (t := t) (n := n) 6 [] (am t n 65 70 (some 0))
        have hKK : ∀ j (hj : j < (hdsL t n).length), hdK n (hdsL t n)[j] := hdK_hds 6 [] _ (fun j hj => absurd hj (Nat.not_lt_zero _))
        have hSS : ∀ j (hj : j < (hdsL t n).length), sgn ((hdsL t n)[j]).2.2.1 := hdL_n 6 [] _ (fun j hj => absurd hj (Nat.not_lt_zero _))
        have tbf : ∀ i (hi : i < (if dc then hsH else hdsL t n).length), (∀ k, ta ((if dc then hsH else hdsL t n)[i]).2.2.1 k ≠ 3) ∧ sgn ((if dc then hsH else hdsL t n)[i]).2.2.1 ∧ (ta ((if dc then hsH else hdsL t n)[i]).2.2.1 0 = 1 ∨ ta ((if dc then hsH else hdsL t n)[i]).2.2.1 0 = 2) := by
          have key : ∀ j (hj : j < (hdsL t n).length), (∀ k, ta ((hdsL t n)[j]).2.2.1 k ≠ 3) ∧ sgn ((hdsL t n)[j]).2.2.1 ∧ (ta ((hdsL t n)[j]).2.2.1 0 = 1 ∨ ta ((hdsL t n)[j]).2.2.1 0 = 2) := fun j hj => ⟨(hKK j hj).2.2.2.1, hSS j hj, (hKK j hj).2.2.2.2.1⟩
          cases dc with
          | false => exact key
          | true =>
            intro j hj
            have hj' : j < hsH.length := hj
            have e9 : (hdsL t n)[j]'(by rw [hL1]; simp; omega) = hsH[j] := by
              simp only [hL1, List.append_assoc]
              exact List.getElem_append_left hj'
            have := key j (by rw [hL1]; simp; omega)
            rw [e9] at this
            exact this
        have hri := r_readItem (l := jXl X) (dc := dc) (hs := hsX t n) (hsH := hsH) (tb := if dc then hsH else hdsL t n) (q0 := evO (mdX t n hsH)) (i := i) (a := a + 1) (s := s) (ty := ty) hw hr' ht' hn (by omega) (by omega) h7 h21 (by omega) N tbf (fun z => by rw [z]; exact ⟨hlen, rfl⟩) (fun z => by
            obtain ⟨-, hdst⟩ := hdc z
            subst z
            have hil : i < (hdsL t n).length := by rw [hL1]; simp; omega
            have hdi : (hdsL t n)[i] = d := by
              simp only [hL1, List.append_assoc]
              rw [List.getElem_append_right (by omega)]
              simp [hlen]
            refine ⟨hil, by rw [← ed]; exact hdi, rfl, hdst, ?_⟩
            cases e2 : lkp (hsH.map h3) (hdO t n (some (a + 1))) (hdN t n (some (a + 1))) with
            | none => rfl
            | some s9 =>
              obtain ⟨q, hq, h1, h2, -⟩ := lkp_in _ _ _ _ e2
              obtain ⟨d9, hd1, rfl⟩ := List.mem_map.mp hq
              obtain ⟨j, hj, rfl⟩ := List.getElem_of_mem hd1
              have e9 : (hdsL t n)[j]'(by rw [hL1]; simp; omega) = hsH[j] := by
                simp only [hL1, List.append_assoc]
                exact List.getElem_append_left hj
              exact absurd ⟨by rw [e9, hdi, ed]; exact h1, by rw [e9, hdi, ed]; exact h2⟩ (hdst j i hil (by omega))) (fun z => by
            have := hmi z
            cases e : mdX t n hsH with
            | none => exact absurd e hmd
            | some q =>
              rw [e] at this
              cases q with
              | none => exact this
              | some z => exact ⟨this.1, this.2.1, this.2.2.1⟩)
        rw [← ed] at hri
        have after : ∀ h9, riP g' t n (hsX t n) hsH dc ty i (a + 1) s (evO (mdX t n hsH)) (tbN dc (if dc then hsH else hdsL t n) d) none h9 → J X w h9 60 [(0, .ref (jad w 70)), (1, .int (bI dc)), (2, .int (nI i))] [] := by
          rintro h9 ⟨-, g9, a9, gd9, ty9, s9, rfl, Z, i21, hs9, ha9, p9⟩
          have F9 := wF_zF (by omega) F Z
          have h79 : g9.1 70 7 = bI dc := by rw [Z.2 70 7 (by omega)]; exact h7
          have go : J X w (pv g9 a9 gd9 ty9) 17 [(0, .ref (jad w 70)), (1, .int (bI dc)), (2, .int (nI (i + 1)))] [] → J X w (pv g9 a9 gd9 ty9) 60 [(0, .ref (jad w 70)), (1, .int (bI dc)), (2, .int (nI i))] [] := by
            intro kk
            refine k_iinc C dX5_readItems_60 rfl rfl (by rw [hnL]; decide) ?_
            refine j_goto C 17 dX5_readItems_63 (by decide) ?_
            rw [show nI i + Int32.ofInt 1 = nI (i + 1) from nI_1 i]
            exact kk
          refine go ?_
          have dO : d.1 = hdO t n (some (a + 1)) := by rw [ed]; rfl
          have dS : d.2.2.1 = hdS t n hsH (some (a + 1)) := by rw [ed]; rfl
          have dB : ∀ b, hdO t n (some (a + 1)) = 0 → hdP6 t n hsH (some (a + 1)) = some b → d.2.2.2.2 = b := fun b z1 z2 => by rw [ed]; show (if hdO t n (some (a + 1)) = 0 then (hdP6 t n hsH (some (a + 1))).getD n else 0) = b; rw [if_pos z1, z2]; rfl
          have badP7 : hdP7 t n hsH (some (a + 1)) = none → cmpR t n = none := by
            intro z
            refine cmp_hds ?_
            unfold hdsP
            rw [e0, ← hLL, z, hdL_none]
            split <;> rfl
          have badM : mdX t n (hsH ++ [d]) = none → cmpR t n = none := fun z => cmp_bad hL1 z
          have N9 : rIt g9 6 (tbN dc (if dc then hsH else hdsL t n) d) → rIt g9 6 (if dc then hsH ++ [d] else hdsL t n) := by
            intro z
            cases dc with
            | true => exact z
            | false => exact z
          rcases p9 with ⟨rfl, p9⟩ | ⟨rfl, b, hb6, NN, hsa9, p9⟩
          · refine bad17 g9 a9 ty9 (i + 1) s9 F9 i21 (by omega) (by omega) ?_
            rcases p9 with p9 | ⟨hO, b, hb6, hv⟩
            · refine badP7 ?_
              unfold hdP7
              rw [p9]
              split <;> rfl
            · refine badM ?_
              rw [mdX_app]
              exact bdS_bad (dO.trans hO) (Or.inl (by rw [dS, dB b hO hb6]; exact hv))
          · have hbn : b ≤ n := hdP6_ok b hb6
            have hab : a + 1 ≤ b := by
              have := hdP6_ge (t := t) (hs := hsH) (n := n) (p := some (a + 1)) (fun b hb => by cases hb; omega)
              rw [hb6] at this
              exact this
            rcases p9 with ⟨hO, rfl, rfl, rfl, hcc⟩ | ⟨hO, f9, hpe, hq9⟩
            · have e7 : hdP7 t n hsH (some (a + 1)) = some a9 := by unfold hdP7; rw [if_neg hO]; exact hb6
              rw [e7] at hLL
              have hd0 : d.1 ≠ 0 := by rw [dO]; exact hO
              refine ih (i + 1) (by omega) g9 a9 s9 ty9 (hsH ++ [d]) (by simp [hlen]) F9 h79 i21 hsa9 (by omega) hbn hLL (N9 NN) ?_ ?_
              · rw [mdX_app]
                cases e : mdX t n hsH with
                | none => exact absurd e hmd
                | some q => rw [bdS_imp hd0]; cases q <;> simp
              · intro z
                have hm := hmi z
                rw [mdX_app]
                cases e : mdX t n hsH with
                | none => exact absurd e hmd
                | some q =>
                  rw [e] at hm
                  rw [bdS_imp hd0]
                  cases q with
                  | none => exact hm
                  | some z =>
                    obtain ⟨m1, m2, m3, m4, m5⟩ := hm
                    refine ⟨m1, m2, rR_eq hcc m3, by simp [m4], ?_⟩
                    have := mdI_room (x := []) (b := (0, 0)) (d := d) m4 hlen.symm Z m5 (fun u => absurd u hd0)
                    simpa using this
            · have hd0 : d.1 = 0 := dO.trans hO
              have hb9 := dB b hO hb6
              rw [← dS, ← hb9] at hpe
              have hgr := pgr_E 8 _ _ _ hpe
              rw [hb9] at hgr
              by_cases heo : eob t n a9
              · have e7 : hdP7 t n hsH (some (a + 1)) = some a9 := by
                  unfold hdP7
                  rw [if_pos hO, hb6]
                  show some (skp t n (n - b) b) = some a9
                  rw [skp_eq ht0 (n - b) b a9 (by omega) hgr.2 (by omega) (by rw [hb9] at hpe; exact ns_E 8 _ _ _ hpe) heo]
                rw [e7] at hLL
                refine ih (i + 1) (by omega) g9 a9 s9 ty9 (hsH ++ [d]) (by simp [hlen]) F9 h79 i21 hsa9 (by omega) hgr.2 hLL (N9 NN) ?_ ?_
                · rw [mdX_app]
                  cases e : mdX t n hsH with
                  | none => exact absurd e hmd
                  | some q =>
                    rw [bdS_def hd0 hpe heo]
                    cases q with
                    | none => simp
                    | some z =>
                      simp only
                      cases f9 z.1.length 0 with
                      | none => simp
                      | some y => simp only; split <;> simp
                · intro z
                  have hm := hmi z
                  have hq := hq9 z
                  rw [mdX_app]
                  cases e : mdX t n hsH with
                  | none => exact absurd e hmd
                  | some q =>
                    rw [e] at hm hq
                    rw [bdS_def hd0 hpe heo]
                    cases q with
                    | none => exact hq
                    | some z =>
                      obtain ⟨m1, m2, m3, m4, m5⟩ := hm
                      unfold eQ evO at hq
                      simp only at hq ⊢
                      cases hf : f9 z.1.length 0 with
                      | none => rw [hf] at hq; exact hq
                      | some y =>
                        rw [hf] at hq
                        simp only at hq ⊢
                        rw [← dS] at hq
                        by_cases hy : y.1 = ta d.2.2.1 0
                        · rw [if_pos hy] at hq ⊢
                          obtain ⟨k1, k2, k3, k4, k5⟩ := hq
                          refine ⟨k1, k2, k3, by simp [m4], mdI_room m4 hlen.symm Z m5 (fun _ => ⟨k4, ?_, by simp⟩)⟩
                          rw [k5, Rc_app (Nat.le_refl _), Rc_len]
                        · rw [if_neg hy] at hq ⊢; exact hq
              · have hv : cmpR t n = none := badM (by rw [mdX_app]; exact bdS_bad hd0 (Or.inr ⟨_, hpe, heo⟩))
                have c59' : ¬ pek t n a9 = 59 := fun z => heo (Or.inr z)
                have c0' : ¬ a9 = n := fun z => heo (Or.inl ((hp0 a9 hgr.2).mpr z))
                have b59' : (pek t n a9 == 59) = false := by simp [c59']
                have hr9 : g9.2.1 70 = rMap := by rw [F9.1]; exact hr
                have ht9 : rtx g9 t n := rtx_keep (F9.2 70 3 (by omega)) (fun j => F9.2 71 j (by omega)) ht
                have n59 : ∀ {b : Nat}, ¬ (pv g9 b true ty9).1 70 5 = 0 := fun {b} => by rw [pv_5]; decide
                refine k_aload_n C dX5_readItems_17 rfl ?_
                refine j_geti C fX5_116 rfl (by first | decide | omega) (by first | assumption | rfl) dX5_readItems_18 ?_
                refine j_if_eq C 66 dX5_readItems_21 (by decide) (fun c21 => ?_) (fun c21 => ?_)
                · exact absurd c21 n59 -- stop
                · refine k_aload_n C dX5_readItems_24 rfl ?_
                  refine j_bipush (v := 59) C dX5_readItems_25 (by decide) ?_
                  refine k_callV (k := 70) (ci := 5) (As := [.int (nI 59)]) C mX5_127 (r_pass hw hr9 ht9 (by omega) (ch := 59) (by decide)) jCl5.1 (by first | decide | omega) (by first | assumption | rfl) rfl rfl (Nat.le_of_ble_eq_true rfl) (jroom hR (by first | decide | omega) (by decide)) dX5_readItems_27 ?_
                  rintro v9 h9 ⟨rfl, rfl⟩
                  rw [b59', if_neg c59']
                  refine j_if_eq C 66 dX5_readItems_30 (by decide) (fun c30 => ?_) (fun c30 => ?_)
                  · exact fin g9 a9 true ty9 (i + 1) s9 F9 i21 (by omega) (by omega) (fun gd' hg => Or.inl ⟨by rw [hg, decide_eq_false c0', Bool.and_false, Bool.and_false], hv⟩)
                  · exact absurd rfl c30 -- stop
        refine k_aload_n C dX5_readItems_17 rfl ?_
        refine j_geti C fX5_116 rfl (by first | decide | omega) (by first | assumption | rfl) dX5_readItems_18 ?_
        refine j_if_eq C 66 dX5_readItems_21 (by decide) (fun c21 => ?_) (fun c21 => ?_)
        · exact absurd c21 n5 -- stop
        · refine k_aload_n C dX5_readItems_24 rfl ?_
          refine j_bipush (v := 59) C dX5_readItems_25 (by decide) ?_
          refine k_callV (k := 70) (ci := 5) (As := [.int (nI 59)]) C mX5_127 (r_pass hw hr' ht' (by omega) (ch := 59) (by decide)) jCl5.1 (by first | decide | omega) (by first | assumption | rfl) rfl rfl (Nat.le_of_ble_eq_true rfl) (jroom hR (by first | decide | omega) (by decide)) dX5_readItems_27 ?_
          rintro v9 h9 ⟨rfl, rfl⟩
          rw [b59, if_pos c59]
          refine j_if_eq C 66 dX5_readItems_30 (by decide) (fun c30 => ?_) (fun c30 => ?_)
          · exact absurd c30 (by decide) -- stop
          · refine k_aload_n C dX5_readItems_33 rfl ?_
            refine k_iload_n C dX5_readItems_34 rfl ?_
            refine j_bipush (v := 6) C dX5_readItems_35 (by decide) ?_
            refine j_icmp_ge C 44 dX5_readItems_37 (by decide) (fun c37 => ?_) (fun c37 => ?_)
            · exact absurd c37 (nI_ge (a := i) (b := 6) (by omega) (by omega)) -- stop
            · refine j_iconst (v := 1) C dX5_readItems_40 (by decide) ?_
              refine j_goto C 45 dX5_readItems_41 (by decide) ?_
              refine k_callV (k := 70) (ci := 5) (As := [.int (bI true)]) C mX5_131 (r_must hw true) jCl5.1 (by first | decide | omega) (by first | assumption | rfl) rfl rfl (Nat.le_of_ble_eq_true rfl) (jroom hR (by first | decide | omega) (by decide)) dX5_readItems_45 ?_
              rintro v9 h9 ⟨rfl, rfl⟩
              rw [Bool.and_true]
              refine k_aload_n C dX5_readItems_48 rfl ?_
              refine j_geti C fX5_116 rfl (by first | decide | omega) (by first | assumption | rfl) dX5_readItems_49 ?_
              refine j_if_eq C 60 dX5_readItems_52 (by decide) (fun c52 => ?_) (fun c52 => ?_)
              · exact absurd c52 n5 -- stop
              · refine k_aload_n C dX5_readItems_55 rfl ?_
                refine k_iload_n C dX5_readItems_56 rfl ?_
                refine k_callV (k := 70) (ci := 5) (As := [.int (nI i)]) C mX5_237 (hri) jCl5.1 (by first | decide | omega) (by first | assumption | rfl) rfl rfl (Nat.le_of_ble_eq_true rfl) (jroom hR (by first | decide | omega) (by decide)) dX5_readItems_57 ?_
                intro v9 h9 p9
                obtain rfl := p9.1
                exact after _ p9
      · have b59 : (pek t n a == 59) = false := by simp [c59]
        refine k_aload_n C dX5_readItems_17 rfl ?_
        refine j_geti C fX5_116 rfl (by first | decide | omega) (by first | assumption | rfl) dX5_readItems_18 ?_
        refine j_if_eq C 66 dX5_readItems_21 (by decide) (fun c21 => ?_) (fun c21 => ?_)
        · exact absurd c21 n5 -- stop
        · refine k_aload_n C dX5_readItems_24 rfl ?_
          refine j_bipush (v := 59) C dX5_readItems_25 (by decide) ?_
          refine k_callV (k := 70) (ci := 5) (As := [.int (nI 59)]) C mX5_127 (r_pass hw hr' ht' (by omega) (ch := 59) (by decide)) jCl5.1 (by first | decide | omega) (by first | assumption | rfl) rfl rfl (Nat.le_of_ble_eq_true rfl) (jroom hR (by first | decide | omega) (by decide)) dX5_readItems_27 ?_
          rintro v9 h9 ⟨rfl, rfl⟩
          rw [b59, if_neg c59]
          refine j_if_eq C 66 dX5_readItems_30 (by decide) (fun c30 => ?_) (fun c30 => ?_)
          · refine fin g' a true ty i s F h21 (by omega) (by omega) (fun gd' hg => ?_)
            by_cases hne : hsH = []
            · have hi0 : i = 0 := by rw [← hlen, hne]; rfl
              refine Or.inl ⟨by rw [hg, decide_eq_false (show ¬ 0 < i by omega)]; rfl, cmp_hds ?_⟩
              rw [hdL_s, if_pos (Or.inl hne), show tk t n 59 (some a) = none from by unfold tk pkO; simp [c59], hdP7_P4 hdP4_none] at hLL
              unfold hdsP
              rw [e0, ← hLL, hdL_none]
              split <;> rfl
            · rw [hdL_s, if_neg (fun z => by rcases z with z | z; exact hne z; exact c59 z)] at hLL
              have hds : (hdL t n 6 [] (am t n 65 70 (some 0))) = (hsH, some a) := by rw [e0, ← hLL]
              have hL1 : hdsL t n = hsH := by unfold hdsL; rw [hds]
              have hi0 : 0 < i := by rw [← hlen]; exact List.length_pos_iff.mpr hne
              by_cases can : a = n
              · have hP : hdsP t n = some a := by unfold hdsP; rw [hds]; exact if_pos ((hp0 a han).mpr can)
                have hc := cmp_ok (t := t) (n := n) (by rw [hP]; simp)
                rw [hL1] at hc
                refine Or.inr ⟨by rw [hg, decide_eq_true can, decide_eq_true hi0]; rfl, by rw [hc]; exact hmd, ?_, by omega, fun z => ?_⟩
                · rw [hL1]; cases dc with
                  | true => exact N
                  | false => rw [← hL1]; exact N
                · rw [hc, hL1]; exact hmi z
              · have hP : hdsP t n = none := by unfold hdsP; rw [hds]; exact if_neg (fun z => can ((hp0 a han).mp z))
                exact Or.inl ⟨by rw [hg, decide_eq_false can, Bool.and_false, Bool.and_false], cmp_hds hP⟩
          · exact absurd rfl c30 -- stop
  obtain ⟨g1, eg1⟩ : ∃ g1 : jH, g1 = (up2 (up2 g.1 70 7 (bI dc)) 70 21 0, g.2) := ⟨_, rfl⟩
  have F1 : wF g g1 := by rw [eg1]; exact wF_up (g' := (up2 g.1 70 7 (bI dc), g.2)) (wF_up wF_rf (by omega)) (by omega)
  have i7 : g1.1 70 7 = bI dc := by rw [eg1]; dsimp only; rw [up2_n (by omega), up2_s]
  have i21 : g1.1 70 21 = nI 0 := by rw [eg1]; dsimp only; rw [up2_s]; rfl
  have N1 : rIt g1 6 (if dc then [] else hdsL t n) := rIt_o hN (fun k j z1 z2 => by rw [eg1]; dsimp only; rw [up2_n (by omega), up2_n (by omega)])
  show J X w (pv g a true ty) 0 [(0, .ref (jad w 70)), (1, .int (bI dc))] []
  refine k_aload_n C dX5_readItems_0 rfl ?_
  refine k_iload_n C dX5_readItems_1 rfl ?_
  refine j_putz C fX5_135 rfl rfl (bI_01 dc) (by first | decide | omega) (by first | assumption | rfl) dX5_readItems_2 ?_
  refine jeqh (pv_put (by omega)) ?_
  refine k_aload_n C dX5_readItems_5 rfl ?_
  refine j_iconst (v := 0) C dX5_readItems_6 (by decide) ?_
  refine j_puti C fX5_138 rfl rfl (by first | decide | omega) (by first | assumption | rfl) dX5_readItems_7 ?_
  refine jeqh (show _ = pv g1 a true ty from by rw [pv_put (by omega), eg1]) ?_
  refine k_aload_n C dX5_readItems_10 rfl ?_
  refine j_iconst (v := 1) C dX5_readItems_11 (by decide) ?_
  refine j_puti C fX5_113 rfl rfl (by first | decide | omega) (by first | assumption | rfl) dX5_readItems_12 ?_
  refine jeqh (show _ = pv g1 1 true ty from pv_at (b := 1)) ?_
  refine j_iconst (v := 0) C dX5_readItems_15 (by decide) ?_
  refine k_istore_n C dX5_readItems_16 (by rw [hnL]; decide) ?_
  refine loop 6 0 rfl g1 1 0 ty [] rfl F1 i7 i21 (by omega) (by omega) hn1 rfl ?_ (by simp [mdX]) (fun z => ?_)
  · cases dc with
    | true => exact N1
    | false => exact N1
  · exact ⟨(hdc z).1, rfl, (fun p x hx => by simp at hx), rfl, fun j hj => absurd hj (Nat.not_lt_zero _)⟩
end XS
