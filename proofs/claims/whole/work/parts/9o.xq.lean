/-- what reading an item may change -/
def zF (i : Nat) (g g' : jH) : Prop := g'.2 = g.2 ∧ ∀ k j, ¬ ((k = 70 ∧ (j = 4 ∨ j = 5 ∨ j = 6 ∨ j = 21 ∨ j = 22 ∨ j = 23 ∨ j = 31 ∨ j = 32 ∨ j = 33)) ∨ (85 ≤ k ∧ k ≤ 91) ∨ (82 ≤ k ∧ k ≤ 84 ∧ 780 ≤ j) ∨ (74 ≤ k ∧ k ≤ 81 ∧ k ≠ 78 ∧ j = 36 + i) ∨ (k = 78 ∧ 3 * (36 + i) ≤ j ∧ j < 3 * (36 + i) + 3) ∨ (k = 73 ∧ j = 6)) → g'.1 k j = g.1 k j
def riP (g : jH) (t : Nat → Nat) (n : Nat) (hs : List (Nat × Nat × Nat)) (hsH : List HD) (dc ty : Bool) (i a s : Nat) (q0 : Option (List Ev)) (tb' : List HD) (r : Option Value) (h' : jH) : Prop := r = none ∧ ∃ (g' : jH) (a' : Nat) (gd' ty' : Bool) (s' : Nat), h' = pv g' a' gd' ty' ∧ zF i g g' ∧ g'.1 70 21 = nI s' ∧ s' ≤ 128 ∧ a' ≤ 300 ∧
  ((gd' = false ∧ (hdP6 t n hsH (some a) = none ∨ (hdO t n (some a) = 0 ∧ ∃ b, hdP6 t n hsH (some a) = some b ∧ bdV t n (pE t n hs (hdS t n hsH (some a)) 8 b))))
  ∨ (gd' = true ∧ ∃ b, hdP6 t n hsH (some a) = some b ∧ rIt g' 6 tb' ∧ s' ≤ a' ∧
    ((hdO t n (some a) ≠ 0 ∧ a' = b ∧ ty' = ty ∧ s' = s ∧ ∀ k j, 82 ≤ k → k ≤ 84 → g'.1 k j = g.1 k j)
    ∨ (hdO t n (some a) = 0 ∧ ∃ f, pE t n hs (hdS t n hsH (some a)) 8 b = some (a', f) ∧ (dc = false → eQ g' i (hdS t n hsH (some a)) s' f q0 ty')))))
section XQ
variable {l : Launch} {w : jW} {h g g' : jH} {t : Nat → Nat} {n a : Nat} {gd ty dc : Bool} {i s : Nat} {hs : List (Nat × Nat × Nat)} {hsH tb : List HD} {q0 : Option (List Ev)}
theorem zF_rf : zF i g g := ⟨rfl, fun _ _ _ => rfl⟩
theorem zF_up (F : zF i g g') {k j : Nat} {v : Int32} (hk : (k = 70 ∧ (j = 4 ∨ j = 5 ∨ j = 6 ∨ j = 21 ∨ j = 22 ∨ j = 23 ∨ j = 31 ∨ j = 32 ∨ j = 33)) ∨ (74 ≤ k ∧ k ≤ 81 ∧ k ≠ 78 ∧ j = 36 + i) ∨ (k = 73 ∧ j = 6)) : zF i g (up2 g'.1 k j v, g'.2) := ⟨F.1, fun k' j' z => by dsimp only; rw [up2_n (by omega)]; exact F.2 k' j' z⟩
theorem zF_sF {g2 : jH} (F : zF i g g') (G : sF (36 + i) g' g2) : zF i g g2 := ⟨by rw [G.1, F.1], fun k j z => by rw [G.2 k j (by omega) (by omega)]; exact F.2 k j z⟩
theorem zF_yF {g2 : jH} (F : zF i g g') (G : yF i g' g2) : zF i g g2 := ⟨by rw [G.1, F.1], fun k j z => by rw [G.2 k j (by omega)]; exact F.2 k j z⟩
theorem lkp_lix0 {ow nm : Nat} (hn : ∀ i (hi : i < tb.length), (tb[i]).2.1 < 26) (hnm : nm < 26) : lkp (tb.map h3) ow nm = none ↔ lix tb ow (nI nm) tb.length = none := by
  constructor
  · intro e
    cases e2 : lix tb ow (nI nm) tb.length with
    | none => rfl
    | some i =>
      obtain ⟨hi, h1, h2⟩ := lix_some _ e2
      rw [gtD hi] at h1 h2
      have h2' := (nI_eq (by have := hn i hi; omega) (by omega)).mp h2
      exact absurd ⟨h1, h2'⟩ (lkp_none _ _ _ e (h3 tb[i]) (List.mem_map.mpr ⟨_, List.getElem_mem hi, rfl⟩))
  · intro e
    cases e2 : lkp (tb.map h3) ow nm with
    | none => rfl
    | some s =>
      obtain ⟨q, hq, h1, h2, -⟩ := lkp_in _ _ _ _ e2
      obtain ⟨d, hd1, rfl⟩ := List.mem_map.mp hq
      obtain ⟨i, hi, rfl⟩ := List.getElem_of_mem hd1
      exact absurd ⟨by rw [gtD hi]; exact h1, by rw [gtD hi]; exact congrArg nI h2⟩ (lix_none _ e i hi)
/-- the first part of readItem: the owner, whether exported, the name -/
theorem rI_head {X : jX} (hw : jok w) (C : jC X w cX5_readItem RX5) (hR : jXR X = jrm 6) (hnL : (jXc X).maxLocals = 7) (hr : g.2.1 70 = rMap) (ht : rtx g t n) (hn : n ≤ 120) (han : a ≤ n) (hi : i < 6) (kk : ∀ (a2 : Nat) (gd2 imp ex : Bool) (o' nm' : Nat), a2 ≤ 130 → o' ≤ 6 → nm' < 26 → (imp = true ↔ hdO t n (some a) ≠ 0) → (gd2 = true → am t n 97 122 (hdP2 t n (some a)) = some a2 ∧ o' = hdO t n (some a) ∧ nm' = hdN t n (some a) ∧ bI ex = nI (hdX t n (some a))) → (gd2 = false → am t n 97 122 (hdP2 t n (some a)) = none) → J X w (pv g a2 gd2 ty) 70 [(0, .ref (jad w 70)), (1, .int (nI i)), (2, .int (nI (36 + i))), (3, .int (bI imp)), (4, .int (oI o')), (5, .int (bI ex)), (6, .int (nI nm'))] []) : J X w (pv g a true ty) 0 [(0, .ref (jad w 70)), (1, .int (nI i))] [] := by
  have e36 : (36 : Int32) + nI i = nI (36 + i) := by rw [show (36 : Int32) = nI 36 from rfl, nI_add]
  have hp := pek_le ht a
  have hp1 := pek_le ht (a + 1)
  -- from the name on
  have nme : ∀ (a1 : Nat) (gd1 imp ex : Bool) (o' : Nat), a1 ≤ 125 → o' ≤ 6 → (imp = true ↔ hdO t n (some a) ≠ 0) → (gd1 = true → hdP2 t n (some a) = some a1 ∧ o' = hdO t n (some a) ∧ bI ex = nI (hdX t n (some a))) → (gd1 = false → hdP2 t n (some a) = none) → J X w (pv g a1 gd1 ty) 60 [(0, .ref (jad w 70)), (1, .int (nI i)), (2, .int (nI (36 + i))), (3, .int (bI imp)), (4, .int (oI o')), (5, .int (bI ex))] [] := by
    intro a1 gd1 imp ex o' ha1 ho' himp h1 h2
    have hp2 := pek_le ht a1
    refine k_aload_n C dX5_readItem_60 rfl ?_
    refine j_bipush (v := 97) C dX5_readItem_61 (by decide) ?_
    refine j_bipush (v := 122) C dX5_readItem_63 (by decide) ?_
    refine k_callV (k := 70) (ci := 5) (As := [.int (nI 97), .int (nI 122)]) C mX5_165 (r_letter hw hr ht (by omega) (lo := 97) (hi := 122) (by decide) (by decide) (by decide)) jCl5.1 (by first | decide | omega) (by first | assumption | rfl) rfl rfl (Nat.le_of_ble_eq_true rfl) (jroom hR (by first | decide | omega) (by decide)) dX5_readItem_65 ?_
    rintro v9 h9 ⟨rfl, rfl⟩
    refine k_istore C dX5_readItem_68 (by rw [hnL]; decide) ?_
    refine kk (a1 + 1) _ imp ex o' _ (by omega) ho' (by split <;> omega) himp ?_ ?_
    · intro z
      simp only [Bool.and_eq_true, decide_eq_true_eq] at z
      obtain ⟨q1, q2, q3⟩ := h1 z.1
      refine ⟨?_, q2, ?_, q3⟩
      · rw [q1]; unfold am pkO; simp only [Option.getD_some, Option.map_some]; rw [if_pos z.2]
      · rw [if_pos ⟨z.1, z.2⟩]; unfold hdN; rw [q1]; unfold amV pkO; simp only [Option.getD_some]; rw [if_pos z.2]
    · intro z
      cases hg : gd1 with
      | false => rw [h2 hg]; exact am_none
      | true =>
        rw [hg, Bool.true_and] at z
        rw [(h1 hg).1]
        unfold am pkO
        simp only [Option.getD_some, Option.map_some]
        rw [if_neg (of_decide_eq_false z)]
  by_cases c63 : pek t n a = 63
  · have b63 : (pek t n a == 63) = true := by simp [c63]
    have hO : hdO t n (some a) = (if 65 ≤ pek t n (a + 1) ∧ pek t n (a + 1) ≤ 70 then pek t n (a + 1) - 65 else 0) + 1 := by
      unfold hdO tkI amV pkO
      simp only [Option.getD_some, Option.map_some, c63, if_true]
    have hX : hdX t n (some a) = 0 := by unfold hdX pkO; simp [c63]
    have h2 : hdP2 t n (some a) = tk t n 46 (am t n 65 70 (some (a + 1))) := by
      unfold hdP2 tkI pkO
      simp only [Option.getD_some, Option.map_some, c63, if_true]
    refine j_bipush (v := 36) C dX5_readItem_0 (by decide) ?_
    refine k_iload_n C dX5_readItem_2 rfl ?_
    refine j_iadd C dX5_readItem_3 ?_
    rw [e36]
    refine k_istore_n C dX5_readItem_4 (by rw [hnL]; decide) ?_
    refine k_aload_n C dX5_readItem_5 rfl ?_
    refine j_bipush (v := 63) C dX5_readItem_6 (by decide) ?_
    refine k_callV (k := 70) (ci := 5) (As := [.int (nI 63)]) C mX5_127 (r_pass hw hr ht (by omega) (ch := 63) (by decide)) jCl5.1 (by first | decide | omega) (by first | assumption | rfl) rfl rfl (Nat.le_of_ble_eq_true rfl) (jroom hR (by first | decide | omega) (by decide)) dX5_readItem_8 ?_
    rintro v9 h9 ⟨rfl, rfl⟩
    rw [b63, if_pos c63]
    refine k_istore_n C dX5_readItem_11 (by rw [hnL]; decide) ?_
    refine k_iload_n C dX5_readItem_12 rfl ?_
    refine j_if_eq C 27 dX5_readItem_13 (by decide) (fun c13 => ?_) (fun c13 => ?_)
    · exact absurd c13 (by decide) -- stop
    · refine k_aload_n C dX5_readItem_16 rfl ?_
      refine j_bipush (v := 65) C dX5_readItem_17 (by decide) ?_
      refine j_bipush (v := 70) C dX5_readItem_19 (by decide) ?_
      refine k_callV (k := 70) (ci := 5) (As := [.int (nI 65), .int (nI 70)]) C mX5_165 (r_letter hw hr ht (by omega) (lo := 65) (hi := 70) (by decide) (by decide) (by decide)) jCl5.1 (by first | decide | omega) (by first | assumption | rfl) rfl rfl (Nat.le_of_ble_eq_true rfl) (jroom hR (by first | decide | omega) (by decide)) dX5_readItem_21 ?_
      rintro v9 h9 ⟨rfl, rfl⟩
      refine j_goto C 28 dX5_readItem_24 (by decide) ?_
      refine k_istore C dX5_readItem_28 (by rw [hnL]; decide) ?_
      refine k_iload_n C dX5_readItem_30 rfl ?_
      refine j_if_eq C 40 dX5_readItem_31 (by decide) (fun c31 => ?_) (fun c31 => ?_)
      · exact absurd c31 (by decide) -- stop
      · refine k_aload_n C dX5_readItem_34 rfl ?_
        refine j_bipush (v := 46) C dX5_readItem_35 (by decide) ?_
        refine k_callV (k := 70) (ci := 5) (As := [.int (nI 46)]) C mX5_175 (r_expect hw hr ht (by omega) (ch := 46) (by decide)) jCl5.1 (by first | decide | omega) (by first | assumption | rfl) rfl rfl (Nat.le_of_ble_eq_true rfl) (jroom hR (by first | decide | omega) (by decide)) dX5_readItem_37 ?_
        rintro v9 h9 ⟨rfl, rfl⟩
        refine k_iload_n C dX5_readItem_40 rfl ?_
        refine j_if_ne C 57 dX5_readItem_41 (by decide) (fun c41 => ?_) (fun c41 => ?_)
        · refine j_iconst (v := 0) C dX5_readItem_57 (by decide) ?_
          refine k_istore C dX5_readItem_58 (by rw [hnL]; decide) ?_
          rw [show nI (if true = true ∧ 65 ≤ pek t n (a + 1) ∧ pek t n (a + 1) ≤ 70 then pek t n (a + 1) - 65 else 0) = oI (hdO t n (some a)) from by rw [hO, oI_s]; simp]
          refine nme _ _ true false (hdO t n (some a)) (by split <;> omega) hdO_le ⟨fun _ => by omega, fun _ => rfl⟩ ?_ ?_
          · intro z
            simp only [Bool.true_and, Bool.and_eq_true, decide_eq_true_eq, beq_iff_eq] at z
            refine ⟨?_, rfl, by rw [hX]; rfl⟩
            rw [h2, if_pos z.2]
            unfold am tk pkO
            simp only [Option.getD_some, Option.map_some]
            rw [if_pos z.1]
            simp only [Option.getD_some, Option.map_some]
            rw [if_pos z.2]
          · intro z
            rw [h2]
            by_cases c1 : 65 ≤ pek t n (a + 1) ∧ pek t n (a + 1) ≤ 70
            · rw [decide_eq_true c1] at z
              have c2 : ¬ pek t n (a + 1 + 1) = 46 := fun u => by rw [u] at z; cases z
              unfold am tk pkO
              simp only [Option.getD_some, Option.map_some]
              rw [if_pos c1]
              simp only [Option.getD_some, Option.map_some]
              rw [if_neg c2]
            · have : am t n 65 70 (some (a + 1)) = none := by unfold am pkO; simp only [Option.getD_some]; rw [if_neg c1]
              rw [this, tk_none]
        · exact absurd (by first | exact c41 | exact Classical.not_not.mp c41) (by decide) -- stop
  · have b63 : (pek t n a == 63) = false := by simp [c63]
    have hO : hdO t n (some a) = 0 := by unfold hdO pkO; simp [c63]
    have hX : hdX t n (some a) = if pek t n a = 43 then 1 else 0 := by unfold hdX tkI pkO; simp [c63]
    have h2 : hdP2 t n (some a) = if pek t n a = 43 then some (a + 1) else some a := by unfold hdP2 tkI pkO; simp [c63]
    by_cases c43 : pek t n a = 43
    · have b43 : (pek t n a == 43) = true := by simp [c43]
      rw [if_pos c43] at hX h2
      refine j_bipush (v := 36) C dX5_readItem_0 (by decide) ?_
      refine k_iload_n C dX5_readItem_2 rfl ?_
      refine j_iadd C dX5_readItem_3 ?_
      rw [e36]
      refine k_istore_n C dX5_readItem_4 (by rw [hnL]; decide) ?_
      refine k_aload_n C dX5_readItem_5 rfl ?_
      refine j_bipush (v := 63) C dX5_readItem_6 (by decide) ?_
      refine k_callV (k := 70) (ci := 5) (As := [.int (nI 63)]) C mX5_127 (r_pass hw hr ht (by omega) (ch := 63) (by decide)) jCl5.1 (by first | decide | omega) (by first | assumption | rfl) rfl rfl (Nat.le_of_ble_eq_true rfl) (jroom hR (by first | decide | omega) (by decide)) dX5_readItem_8 ?_
      rintro v9 h9 ⟨rfl, rfl⟩
      rw [b63, if_neg c63]
      refine k_istore_n C dX5_readItem_11 (by rw [hnL]; decide) ?_
      refine k_iload_n C dX5_readItem_12 rfl ?_
      refine j_if_eq C 27 dX5_readItem_13 (by decide) (fun c13 => ?_) (fun c13 => ?_)
      · refine j_iconst (v := -1) C dX5_readItem_27 (by decide) ?_
        refine k_istore C dX5_readItem_28 (by rw [hnL]; decide) ?_
        refine k_iload_n C dX5_readItem_30 rfl ?_
        refine j_if_eq C 40 dX5_readItem_31 (by decide) (fun c31 => ?_) (fun c31 => ?_)
        · refine k_iload_n C dX5_readItem_40 rfl ?_
          refine j_if_ne C 57 dX5_readItem_41 (by decide) (fun c41 => ?_) (fun c41 => ?_)
          · exact absurd rfl c41 -- stop
          · refine k_aload_n C dX5_readItem_44 rfl ?_
            refine j_bipush (v := 43) C dX5_readItem_45 (by decide) ?_
            refine k_callV (k := 70) (ci := 5) (As := [.int (nI 43)]) C mX5_127 (r_pass hw hr ht (by omega) (ch := 43) (by decide)) jCl5.1 (by first | decide | omega) (by first | assumption | rfl) rfl rfl (Nat.le_of_ble_eq_true rfl) (jroom hR (by first | decide | omega) (by decide)) dX5_readItem_47 ?_
            rintro v9 h9 ⟨rfl, rfl⟩
            rw [b43, if_pos c43]
            refine j_if_eq C 57 dX5_readItem_50 (by decide) (fun c50 => ?_) (fun c50 => ?_)
            · exact absurd c50 (by decide) -- stop
            · refine j_iconst (v := 1) C dX5_readItem_53 (by decide) ?_
              refine j_goto C 58 dX5_readItem_54 (by decide) ?_
              refine k_istore C dX5_readItem_58 (by rw [hnL]; decide) ?_
              exact nme (a + 1) true false true 0 (by omega) (by omega) ⟨(fun z => by cases z), fun z => absurd hO z⟩ (fun _ => ⟨h2, hO.symm, by rw [hX]; rfl⟩) (fun z => by cases z)
        · exact absurd rfl c31 -- stop
      · exact absurd rfl c13 -- stop
    · have b43 : (pek t n a == 43) = false := by simp [c43]
      rw [if_neg c43] at hX h2
      refine j_bipush (v := 36) C dX5_readItem_0 (by decide) ?_
      refine k_iload_n C dX5_readItem_2 rfl ?_
      refine j_iadd C dX5_readItem_3 ?_
      rw [e36]
      refine k_istore_n C dX5_readItem_4 (by rw [hnL]; decide) ?_
      refine k_aload_n C dX5_readItem_5 rfl ?_
      refine j_bipush (v := 63) C dX5_readItem_6 (by decide) ?_
      refine k_callV (k := 70) (ci := 5) (As := [.int (nI 63)]) C mX5_127 (r_pass hw hr ht (by omega) (ch := 63) (by decide)) jCl5.1 (by first | decide | omega) (by first | assumption | rfl) rfl rfl (Nat.le_of_ble_eq_true rfl) (jroom hR (by first | decide | omega) (by decide)) dX5_readItem_8 ?_
      rintro v9 h9 ⟨rfl, rfl⟩
      rw [b63, if_neg c63]
      refine k_istore_n C dX5_readItem_11 (by rw [hnL]; decide) ?_
      refine k_iload_n C dX5_readItem_12 rfl ?_
      refine j_if_eq C 27 dX5_readItem_13 (by decide) (fun c13 => ?_) (fun c13 => ?_)
      · refine j_iconst (v := -1) C dX5_readItem_27 (by decide) ?_
        refine k_istore C dX5_readItem_28 (by rw [hnL]; decide) ?_
        refine k_iload_n C dX5_readItem_30 rfl ?_
        refine j_if_eq C 40 dX5_readItem_31 (by decide) (fun c31 => ?_) (fun c31 => ?_)
        · refine k_iload_n C dX5_readItem_40 rfl ?_
          refine j_if_ne C 57 dX5_readItem_41 (by decide) (fun c41 => ?_) (fun c41 => ?_)
          · exact absurd rfl c41 -- stop
          · refine k_aload_n C dX5_readItem_44 rfl ?_
            refine j_bipush (v := 43) C dX5_readItem_45 (by decide) ?_
            refine k_callV (k := 70) (ci := 5) (As := [.int (nI 43)]) C mX5_127 (r_pass hw hr ht (by omega) (ch := 43) (by decide)) jCl5.1 (by first | decide | omega) (by first | assumption | rfl) rfl rfl (Nat.le_of_ble_eq_true rfl) (jroom hR (by first | decide | omega) (by decide)) dX5_readItem_47 ?_
            rintro v9 h9 ⟨rfl, rfl⟩
            rw [b43, if_neg c43]
            refine j_if_eq C 57 dX5_readItem_50 (by decide) (fun c50 => ?_) (fun c50 => ?_)
            · refine j_iconst (v := 0) C dX5_readItem_57 (by decide) ?_
              refine k_istore C dX5_readItem_58 (by rw [hnL]; decide) ?_
              exact nme a true false false 0 (by omega) (by omega) ⟨(fun z => by cases z), fun z => absurd hO z⟩ (fun _ => ⟨h2, hO.symm, by rw [hX]; rfl⟩) (fun z => by cases z)
            · exact absurd rfl c50 -- stop
        · exact absurd rfl c31 -- stop
      · exact absurd rfl c13 -- stop
end XQ
