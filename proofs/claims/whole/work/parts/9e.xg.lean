/-! the loop of readExpression: at 48 a factor begins, at 68 one has been read, at 80 a sum has been read, at 112 it ends -/
def lvZ (w : jW) (x : Nat) : List (Nat × Value) := [(0, .ref (jad w 70)), (1, .int (nI (36 + x)))]
def lvF (w : jW) (x : Nat) : List (Nat × Value) := [(0, .ref (jad w 70)), (1, .int (nI (36 + x))), (2, .int 0)]
def lvD (w : jW) (x : Nat) : List (Nat × Value) := [(0, .ref (jad w 70)), (1, .int (nI (36 + x))), (2, .int 0), (3, .int 1)]
/-- a level is well: what stands open on it -/
def lok (g : jH) (dc : Bool) (L : Nat) : Prop := L = 0 ∨ ∃ st, g.1 86 L = nI st ∧ st < 900 ∧ (g.1 85 L = 1 ∨ (g.1 85 L = 2 ∧ st ≤ 1) ∨ (g.1 85 L = 3 ∧ st ≤ 2 ∧ (1 ≤ st → dc = false → ∃ kq, g.1 90 L = nI kq ∧ kq < 130) ∧ (st = 2 → ∃ kp, g.1 89 L = bI kp)) ∨ (g.1 85 L = 4 ∧ ∃ ow nm, g.1 91 L = nI (26 * ow + nm) ∧ ow ≤ 6 ∧ nm < 26))
section XG
variable {X : jX} {w : jW} {h h0 g1 gE g g' : jH} {t : Nat → Nat} {n : Nat} {dc gd ty ip kp : Bool} {H : Nat → Prop} {L c a s M ow nm k st kq x : Nat} {tb : List HD} {sg0 sg : Nat}
theorem zdrop {v2 v3 : Value} {pc : Nat} (kz : J X w h pc (lvZ w x) []) : J X w h pc [(0, .ref (jad w 70)), (1, .int (nI (36 + x))), (2, v2), (3, v3)] [] := j_mono (lv' := lvZ w x) (fun q hq => List.mem_append_left [(2, v2), (3, v3)] hq) kz
/-- good or not: behind the inner loop -/
theorem g_out (C : jC X w cX5_readExpression RX5) (hg : h.1 70 5 = 0) {v2 v3 : Int32} (kz : J X w h 112 (lvZ w x) []) : J X w h 53 [(0, .ref (jad w 70)), (1, .int (nI (36 + x))), (2, .int v2), (3, .int v3)] [] := by
  refine k_aload_n C dX5_readExpression_53 rfl ?_
  refine j_geti C fX5_116 rfl (by first | decide | omega) (by first | assumption | rfl) dX5_readExpression_54 ?_
  refine j_if_eq C 109 dX5_readExpression_57 (by decide) (fun c57 => ?_) (fun c57 => ?_)
  · refine j_goto C 37 dX5_readExpression_109 (by decide) ?_
    refine k_aload_n C dX5_readExpression_37 rfl ?_
    refine j_geti C fX5_116 rfl (by decide) rfl dX5_readExpression_38 ?_
    exact j_if_eq C 112 dX5_readExpression_41 (by decide) (fun _ => zdrop kz) (fun c => absurd hg c)
  · exact absurd hg c57 -- stop
theorem g_inF (C : jC X w cX5_readExpression RX5) (hg : h.1 70 5 = 1) (kz : J X w h 48 (lvF w x) []) : J X w h 53 [(0, .ref (jad w 70)), (1, .int (nI (36 + x))), (2, .int 0), (3, .int 0)] [] := by
  have n0 : ¬ h.1 70 5 = 0 := by rw [hg]; decide
  refine k_aload_n C dX5_readExpression_53 rfl ?_
  refine j_geti C fX5_116 rfl (by first | decide | omega) (by first | assumption | rfl) dX5_readExpression_54 ?_
  refine j_if_eq C 109 dX5_readExpression_57 (by decide) (fun c57 => ?_) (fun c57 => ?_)
  · exact absurd c57 n0 -- stop
  · refine k_iload_n C dX5_readExpression_60 rfl ?_
    refine j_if_eq C 109 dX5_readExpression_61 (by decide) (fun c61 => ?_) (fun c61 => ?_)
    · refine j_goto C 37 dX5_readExpression_109 (by decide) ?_
      refine k_aload_n C dX5_readExpression_37 rfl ?_
      refine j_geti C fX5_116 rfl (by decide) rfl dX5_readExpression_38 ?_
      refine j_if_eq C 112 dX5_readExpression_41 (by decide) (fun c => absurd c n0) (fun _ => ?_)
      refine k_iload_n C dX5_readExpression_44 rfl ?_
      refine j_if_ne C 112 dX5_readExpression_45 (by decide) (fun c => absurd rfl c) (fun _ => ?_)
      exact j_mono (lv' := lvF w x) (fun q hq => List.mem_append_left [(3, Value.int 0)] hq) kz
    · exact absurd rfl c61 -- stop
theorem g_inD (C : jC X w cX5_readExpression RX5) (hg : h.1 70 5 = 1) (kz : J X w h 68 (lvD w x) []) : J X w h 53 [(0, .ref (jad w 70)), (1, .int (nI (36 + x))), (2, .int 0), (3, .int 1)] [] := by
  have n0 : ¬ h.1 70 5 = 0 := by rw [hg]; decide
  refine k_aload_n C dX5_readExpression_53 rfl ?_
  refine j_geti C fX5_116 rfl (by first | decide | omega) (by first | assumption | rfl) dX5_readExpression_54 ?_
  refine j_if_eq C 109 dX5_readExpression_57 (by decide) (fun c57 => ?_) (fun c57 => ?_)
  · exact absurd c57 n0 -- stop
  · refine k_iload_n C dX5_readExpression_60 rfl ?_
    refine j_if_eq C 109 dX5_readExpression_61 (by decide) (fun c61 => ?_) (fun c61 => ?_)
    · exact absurd c61 (by decide) -- stop
    · refine k_iload_n C dX5_readExpression_64 rfl ?_
      refine j_if_ne C 109 dX5_readExpression_65 (by decide) (fun c65 => ?_) (fun c65 => ?_)
      · exact absurd rfl c65 -- stop
      · exact kz
theorem g_F (C : jC X w cX5_readExpression RX5) (hR : jXR X = jrm 5) (hnL : (jXc X).maxLocals = 4) {Po : Option Value → jH → Prop} (hM : jM (jXl X) w yX5_beginFactor cX5_beginFactor 3 (some .boolean) 4 [.ref (jad w 70)] h Po) (kk : ∀ v h', Po v h' → ∃ (b gd : Bool) (g' : jH) (a' : Nat) (ty' : Bool), v = some (.int (bI b)) ∧ h' = pv g' a' gd ty' ∧ (gd = false → J X w h' 112 (lvZ w x) []) ∧ (gd = true → b = true → J X w h' 68 (lvD w x) []) ∧ (gd = true → b = false → J X w h' 48 (lvF w x) [])) : J X w h 48 (lvF w x) [] := by
  show J X w h 48 [(0, .ref (jad w 70)), (1, .int (nI (36 + x))), (2, .int 0)] []
  refine k_aload_n C dX5_readExpression_48 rfl ?_
  refine k_callV (k := 70) (ci := 5) (As := []) C mX5_219 (hM) jCl5.1 (by first | decide | omega) (by first | assumption | rfl) rfl rfl (Nat.le_of_ble_eq_true rfl) (jroom hR (by first | decide | omega) (by decide)) dX5_readExpression_49 ?_
  intro v9 h9 p9
  obtain ⟨b, gd, g', a', ty', rfl, rfl, k1, k2, k3⟩ := kk _ _ p9
  refine k_istore_n C dX5_readExpression_52 (by rw [hnL]; decide) ?_
  cases gd with
  | false => exact g_out C pv_5 (k1 rfl)
  | true =>
    cases b with
    | true => exact g_inD C pv_5 (k2 rfl rfl)
    | false => exact g_inF C pv_5 (k3 rfl rfl)
theorem g_D (C : jC X w cX5_readExpression RX5) (hR : jXR X = jrm 5) (hnL : (jXc X).maxLocals = 4) {Po : Option Value → jH → Prop} (hM : jM (jXl X) w yX5_endFactor cX5_endFactor 2 (some .boolean) 3 [.ref (jad w 70)] h Po) (kk : ∀ v h', Po v h' → ∃ (b gd : Bool) (g' : jH) (a' : Nat) (ty' : Bool), v = some (.int (bI b)) ∧ h' = pv g' a' gd ty' ∧ (b = true → gd = false → J X w h' 112 (lvZ w x) []) ∧ (b = true → gd = true → J X w h' 48 (lvF w x) []) ∧ (b = false → J X w h' 80 (lvD w x) [])) : J X w h 68 (lvD w x) [] := by
  show J X w h 68 [(0, .ref (jad w 70)), (1, .int (nI (36 + x))), (2, .int 0), (3, .int 1)] []
  refine k_aload_n C dX5_readExpression_68 rfl ?_
  refine k_callV (k := 70) (ci := 5) (As := []) C mX5_222 (hM) jCl5.1 (by first | decide | omega) (by first | assumption | rfl) rfl rfl (Nat.le_of_ble_eq_true rfl) (jroom hR (by first | decide | omega) (by decide)) dX5_readExpression_69 ?_
  intro v9 h9 p9
  obtain ⟨b, gd, g', a', ty', rfl, rfl, k1, k2, k3⟩ := kk _ _ p9
  refine j_if_eq C 80 dX5_readExpression_72 (by decide) (fun c72 => ?_) (fun c72 => ?_)
  · rw [bI_z] at c72; subst c72; exact k3 rfl -- stop
  · rw [bI_z] at c72; replace c72 := eq_true_of_ne_false c72; subst c72
    refine j_iconst (v := 0) C dX5_readExpression_75 (by decide) ?_
    refine k_istore_n C dX5_readExpression_76 (by rw [hnL]; decide) ?_
    refine j_goto C 53 dX5_readExpression_77 (by decide) ?_
    cases gd with
    | false => exact g_out C pv_5 (k1 rfl rfl)
    | true => exact g_inF C pv_5 (k2 rfl rfl)
theorem g_S1 (C : jC X w cX5_readExpression RX5) (hnL : (jXc X).maxLocals = 4) (h23 : g.1 70 23 = nI 1) (kz : J X w (pv g a gd ty) 112 (lvZ w x) []) : J X w (pv g a gd ty) 80 (lvD w x) [] := by
  have e23 : (pv g a gd ty).1 70 23 = nI 1 := by rw [pv_o (by omega)]; exact h23
  show J X w (pv g a gd ty) 80 [(0, .ref (jad w 70)), (1, .int (nI (36 + x))), (2, .int 0), (3, .int 1)] []
  cases gd with
  | false =>
    refine k_aload_n C dX5_readExpression_80 rfl ?_
    refine j_geti C fX5_151 rfl (by first | decide | omega) (by first | assumption | rfl) dX5_readExpression_81 ?_
    refine j_iconst (v := 1) C dX5_readExpression_84 (by decide) ?_
    refine j_icmp_ne C 93 dX5_readExpression_85 (by decide) (fun c85 => ?_) (fun c85 => ?_)
    · exact absurd e23 c85 -- stop
    · refine j_iconst (v := 1) C dX5_readExpression_88 (by decide) ?_
      refine k_istore_n C dX5_readExpression_89 (by rw [hnL]; decide) ?_
      refine j_goto C 53 dX5_readExpression_90 (by decide) ?_
      exact g_out C pv_5 kz
  | true =>
    have n0 : ¬ (pv g a true ty).1 70 5 = 0 := by rw [pv_5]; decide
    refine k_aload_n C dX5_readExpression_80 rfl ?_
    refine j_geti C fX5_151 rfl (by first | decide | omega) (by first | assumption | rfl) dX5_readExpression_81 ?_
    refine j_iconst (v := 1) C dX5_readExpression_84 (by decide) ?_
    refine j_icmp_ne C 93 dX5_readExpression_85 (by decide) (fun c85 => ?_) (fun c85 => ?_)
    · exact absurd e23 c85 -- stop
    · refine j_iconst (v := 1) C dX5_readExpression_88 (by decide) ?_
      refine k_istore_n C dX5_readExpression_89 (by rw [hnL]; decide) ?_
      refine j_goto C 53 dX5_readExpression_90 (by decide) ?_
      refine k_aload_n C dX5_readExpression_53 rfl ?_
      refine j_geti C fX5_116 rfl (by decide) rfl dX5_readExpression_54 ?_
      refine j_if_eq C 109 dX5_readExpression_57 (by decide) (fun c => absurd c n0) (fun _ => ?_)
      refine k_iload_n C dX5_readExpression_60 rfl ?_
      refine j_if_eq C 109 dX5_readExpression_61 (by decide) (fun c => absurd c (by decide)) (fun _ => ?_)
      refine k_iload_n C dX5_readExpression_64 rfl ?_
      refine j_if_ne C 109 dX5_readExpression_65 (by decide) (fun _ => ?_) (fun c => absurd (by first | exact c | exact Classical.not_not.mp c) (by decide))
      refine j_goto C 37 dX5_readExpression_109 (by decide) ?_
      refine k_aload_n C dX5_readExpression_37 rfl ?_
      refine j_geti C fX5_116 rfl (by decide) rfl dX5_readExpression_38 ?_
      refine j_if_eq C 112 dX5_readExpression_41 (by decide) (fun c => absurd c n0) (fun _ => ?_)
      refine k_iload_n C dX5_readExpression_44 rfl ?_
      exact j_if_ne C 112 dX5_readExpression_45 (by decide) (fun _ => zdrop kz) (fun c => absurd (by first | exact c | exact Classical.not_not.mp c) (by decide))
theorem g_S (C : jC X w cX5_readExpression RX5) (hR : jXR X = jrm 5) (hnL : (jXc X).maxLocals = 4) (h23 : g.1 70 23 = nI (M + 1)) (hM1 : 1 ≤ M) (hM2 : M < 10) {Po : Option Value → jH → Prop} (hM : jM (jXl X) w yX5_endSum cX5_endSum 4 (some .boolean) 4 [.ref (jad w 70)] (pv g a gd ty) Po) (kk : ∀ v h', Po v h' → ∃ (b gd : Bool) (g' : jH) (a' : Nat) (ty' : Bool), v = some (.int (bI b)) ∧ h' = pv g' a' gd ty' ∧ (gd = false → J X w h' 112 (lvZ w x) []) ∧ (gd = true → b = false → J X w h' 68 (lvD w x) []) ∧ (gd = true → b = true → J X w h' 48 (lvF w x) [])) : J X w (pv g a gd ty) 80 (lvD w x) [] := by
  have e23 : (pv g a gd ty).1 70 23 = nI (M + 1) := by rw [pv_o (by omega)]; exact h23
  have hne : ¬ nI (M + 1) = 1 := fun z => by have := (nI_eq (b := 1) (by omega) (by omega)).mp z; omega
  show J X w (pv g a gd ty) 80 [(0, .ref (jad w 70)), (1, .int (nI (36 + x))), (2, .int 0), (3, .int 1)] []
  refine k_aload_n C dX5_readExpression_80 rfl ?_
  refine j_geti C fX5_151 rfl (by first | decide | omega) (by first | assumption | rfl) dX5_readExpression_81 ?_
  refine j_iconst (v := 1) C dX5_readExpression_84 (by decide) ?_
  refine j_icmp_ne C 93 dX5_readExpression_85 (by decide) (fun c85 => ?_) (fun c85 => ?_)
  · refine k_aload_n C dX5_readExpression_93 rfl ?_
    refine k_callV (k := 70) (ci := 5) (As := []) C mX5_225 (hM) jCl5.1 (by first | decide | omega) (by first | assumption | rfl) rfl rfl (Nat.le_of_ble_eq_true rfl) (jroom hR (by first | decide | omega) (by decide)) dX5_readExpression_94 ?_
    intro v9 h9 p9
    obtain ⟨b, gd, g', a', ty', rfl, rfl, k1, k2, k3⟩ := kk _ _ p9
    refine j_if_ne C 104 dX5_readExpression_97 (by decide) (fun c97 => ?_) (fun c97 => ?_)
    · replace c97 : b = true := by cases b; (exact absurd rfl c97); rfl
      refine j_iconst (v := 0) C dX5_readExpression_104 (by decide) ?_
      refine k_istore_n C dX5_readExpression_105 (by rw [hnL]; decide) ?_
      refine j_goto C 53 dX5_readExpression_106 (by decide) ?_
      subst c97
      cases gd with
      | false => exact g_out C pv_5 (k1 rfl)
      | true => first | exact g_inF C pv_5 (k3 rfl rfl) | exact g_inD C pv_5 (k2 rfl rfl)
    · replace c97 : b = false := by rw [← bI_z]; first | exact c97 | exact Classical.not_not.mp c97
      refine j_iconst (v := 1) C dX5_readExpression_100 (by decide) ?_
      refine j_goto C 105 dX5_readExpression_101 (by decide) ?_
      refine k_istore_n C dX5_readExpression_105 (by rw [hnL]; decide) ?_
      refine j_goto C 53 dX5_readExpression_106 (by decide) ?_
      subst c97
      cases gd with
      | false => exact g_out C pv_5 (k1 rfl)
      | true => first | exact g_inF C pv_5 (k3 rfl rfl) | exact g_inD C pv_5 (k2 rfl rfl)
  · exact absurd (e23.symm.trans (by first | exact c85 | exact Classical.not_not.mp c85)) hne -- stop
end XG
