/-- what accept does -/
def acP (m s : Nat) (h h' : jH) : Prop := h'.2 = h.2 ∧ h'.1 72 m = 1 ∧ h'.1 73 m = h.1 73 6 ∧ (∀ i, i < 6 → ∀ k, (k = 74 ∨ k = 75 ∨ k = 77 ∨ k = 80 ∨ k = 81) → h'.1 k (6 * m + i) = h.1 k (36 + i)) ∧ (∀ i, i < 6 → ∀ k, (k = 76 ∨ k = 79) → h'.1 k (6 * m + i) = vp_nar .boolean (h.1 k (36 + i))) ∧ (∀ i, i < 6 → ∀ q, q < 3 → h'.1 78 (3 * (6 * m + i) + q) = vp_nar .boolean (h.1 78 (3 * (36 + i) + q))) ∧ (∀ j, j < s → ∀ k, 82 ≤ k → k ≤ 84 → h'.1 k (130 * m + j) = h.1 k (780 + j)) ∧ ∀ k j, ¬ ((k = 72 ∨ k = 73) ∧ j = m) → ¬ (74 ≤ k ∧ k ≤ 81 ∧ k ≠ 78 ∧ 6 * m ≤ j ∧ j < 6 * m + 6) → ¬ (k = 78 ∧ 18 * m ≤ j ∧ j < 18 * m + 18) → ¬ (82 ≤ k ∧ k ≤ 84 ∧ 130 * m ≤ j ∧ j < 130 * m + 130) → h'.1 k j = h.1 k j
/-- its first part, i items done -/
def acI (m i : Nat) (h h' : jH) : Prop := h'.2 = h.2 ∧ h'.1 72 m = 1 ∧ h'.1 73 m = h.1 73 6 ∧ (∀ i', i' < i → ∀ k, (k = 74 ∨ k = 75 ∨ k = 77 ∨ k = 80 ∨ k = 81) → h'.1 k (6 * m + i') = h.1 k (36 + i')) ∧ (∀ i', i' < i → ∀ k, (k = 76 ∨ k = 79) → h'.1 k (6 * m + i') = vp_nar .boolean (h.1 k (36 + i'))) ∧ (∀ i', i' < i → ∀ q, q < 3 → h'.1 78 (3 * (6 * m + i') + q) = vp_nar .boolean (h.1 78 (3 * (36 + i') + q))) ∧ ∀ k j, ¬ ((k = 72 ∨ k = 73) ∧ j = m) → ¬ (74 ≤ k ∧ k ≤ 81 ∧ k ≠ 78 ∧ 6 * m ≤ j ∧ j < 6 * m + i) → ¬ (k = 78 ∧ 18 * m ≤ j ∧ j < 18 * m + 3 * i) → h'.1 k j = h.1 k j
section XT
variable {X : jX} {l : Launch} {w : jW} {h h' g : jH} {cc : ByteArray} {own : String} {pc : Nat} {lv : List (Nat × Value)} {r : List Value} {m s : Nat}
theorem j_zastn (C : jC X w cc own) {k n len : Nat} {i x : Int32} (hk : k < 99) (hc : jk k = .inr (2, len)) (hi : i = nI n) (hn : n < len) (hl : len < 2 ^ 31) (d : decode cc pc = .ok (.bastore, 1)) (kk : J X w (up2 h.1 k n (vp_nar .boolean x), h.2) (pc + 1) lv r) : J X w h pc lv (.int x :: .int i :: .ref (jad w k) :: r) := by
  intro H locs ls hP hS hl'
  subst hi
  refine va_zast C.1 C.2.1 C.2.2.2.2.1 hP (jD C.2.2.2.2.2.2.1 h) hS k 2 (by rw [jws_at w h hk, jcel_a hc]; rfl) (jtys_at w (t := 2) (by decide)) (vp_in_nI hn hl) d ?_
  intro H1 locs1 p1 _ s1
  rw [nI_clamp (by omega), jst_arr (h' := (up2 h.1 k n (vp_nar .boolean x), h.2)) (n := n) hc (by rw [upd_up]; show Sum.inl (up2 h.1 k n (vp_nar .boolean x) k) = _; rw [up2_r]) (fun i hi => jcel_i hi)] at p1
  exact kk H1 locs1 ls p1 s1 hl'
theorem nar_b (b : Bool) : vp_nar .boolean (bI b) = bI b := by cases b <;> rfl
theorem r_accept (hw : jok w) (hr : h.2.1 70 = rMap) (hm : m < 6) (hs : h.1 70 21 = nI s) (hs2 : s ≤ 130) : jM l w yX5_accept cX5_accept 6 none 0 [.ref (jad w 70), .int (nI m)] h (fun r h' => r = none ∧ acP m s h h') := by
  refine jM_of (by decide) hw (Nat.le_of_ble_eq_true rfl) ?_
  intro X C hl hR hnL hrt hE
  have C : jC X w cX5_accept RX5 := C
  -- the signs
  have sgl : ∀ (g0 : jH), acI m 6 h g0 → ∀ (f j : Nat), j + f = s → ∀ (g : jH), g.2 = h.2 → (∀ j', j' < j → ∀ k, 82 ≤ k → k ≤ 84 → g.1 k (130 * m + j') = h.1 k (780 + j')) → (∀ k j', ¬ (82 ≤ k ∧ k ≤ 84 ∧ 130 * m ≤ j' ∧ j' < 130 * m + j) → g.1 k j' = g0.1 k j') → J X w g 178 [(0, .ref (jad w 70)), (1, .int (nI m)), (2, .int (nI j))] [] := by
    intro g0 A0 f
    obtain ⟨A1, A2, A3, A4, A5, A6, A7⟩ := A0
    induction f with
    | zero =>
      intro j hj g e2 hc ho
      have e21 : g.1 70 21 = nI s := by rw [ho 70 21 (by omega), A7 70 21 (by omega) (by omega) (by omega)]; exact hs
      have post : acP m s h g := by
        refine ⟨e2, by rw [ho _ _ (by omega)]; exact A2, by rw [ho _ _ (by omega)]; exact A3, fun i hi k hk => by rw [ho _ _ (by omega)]; exact A4 i hi k hk, fun i hi k hk => by rw [ho _ _ (by omega)]; exact A5 i hi k hk, fun i hi q hq => by rw [ho _ _ (by omega)]; exact A6 i hi q hq, fun j' hj' k z1 z2 => hc j' (by omega) k z1 z2, fun k j' z1 z2 z3 z4 => by rw [ho k j' (by omega)]; exact A7 k j' z1 (by omega) (by omega)⟩
      refine k_iload_n C dX5_accept_178 rfl ?_
      refine k_aload_n C dX5_accept_179 rfl ?_
      refine j_geti C fX5_138 rfl (by first | decide | omega) (by first | assumption | rfl) dX5_accept_180 ?_
      refine j_icmp_ge C 258 dX5_accept_183 (by decide) (fun c183 => ?_) (fun c183 => ?_)
      · exact j_vret C hrt hE dX5_accept_258 (⟨rfl, post⟩)
      · exact absurd (by rw [e21]; exact nI_le (a := s) (b := j) (by omega) (by omega)) c183 -- stop
    | succ f ih =>
      intro j hj g e2 hc ho
      have e21 : g.1 70 21 = nI s := by rw [ho 70 21 (by omega), A7 70 21 (by omega) (by omega) (by omega)]; exact hs
      have hrg : g.2.1 70 = rMap := by rw [e2]; exact hr
      have ed : (130 : Int32) * nI m + nI j = nI (130 * m + j) := by rw [show (130 : Int32) = nI 130 from rfl, pk_mul, nI_add]
      have es : (780 : Int32) + nI j = nI (780 + j) := by rw [show (780 : Int32) = nI 780 from rfl, nI_add]
      have src : ∀ k, 82 ≤ k → k ≤ 84 → g.1 k (780 + j) = h.1 k (780 + j) := fun k z1 z2 => by rw [ho k _ (by omega)]; exact A7 k _ (by omega) (by omega) (by omega)
      obtain ⟨g1, eg1⟩ : ∃ g1 : jH, g1 = (up2 g.1 82 (130 * m + j) (h.1 82 (780 + j)), g.2) := ⟨_, rfl⟩
      obtain ⟨g2, eg2⟩ : ∃ g2 : jH, g2 = (up2 g1.1 83 (130 * m + j) (h.1 83 (780 + j)), g1.2) := ⟨_, rfl⟩
      obtain ⟨g3, eg3⟩ : ∃ g3 : jH, g3 = (up2 g2.1 84 (130 * m + j) (h.1 84 (780 + j)), g2.2) := ⟨_, rfl⟩
      have r1 : g1.2.1 70 = rMap := by rw [eg1]; exact hrg
      have r2 : g2.2.1 70 = rMap := by rw [eg2]; exact r1
      have v1 : g1.1 83 (780 + j) = h.1 83 (780 + j) := by rw [eg1]; dsimp only; rw [up2_n (by omega)]; exact src 83 (by omega) (by omega)
      have v2 : g2.1 84 (780 + j) = h.1 84 (780 + j) := by rw [eg2]; dsimp only; rw [up2_n (by omega), eg1]; dsimp only; rw [up2_n (by omega)]; exact src 84 (by omega) (by omega)
      have o3 : ∀ k j', ¬ (82 ≤ k ∧ k ≤ 84 ∧ j' = 130 * m + j) → g3.1 k j' = g.1 k j' := fun k j' z => by rw [eg3]; dsimp only; rw [up2_n (by omega), eg2]; dsimp only; rw [up2_n (by omega), eg1]; dsimp only; rw [up2_n (by omega)]
      have n3 : ∀ k, 82 ≤ k → k ≤ 84 → g3.1 k (130 * m + j) = h.1 k (780 + j) := by
        intro k z1 z2
        have : k = 82 ∨ k = 83 ∨ k = 84 := by omega
        rcases this with rfl | rfl | rfl
        · rw [eg3]; dsimp only; rw [up2_n (by omega), eg2]; dsimp only; rw [up2_n (by omega), eg1]; dsimp only; rw [up2_s]
        · rw [eg3]; dsimp only; rw [up2_n (by omega), eg2]; dsimp only; rw [up2_s]
        · rw [eg3]; dsimp only; rw [up2_s]
      refine k_iload_n C dX5_accept_178 rfl ?_
      refine k_aload_n C dX5_accept_179 rfl ?_
      refine j_geti C fX5_138 rfl (by first | decide | omega) (by first | assumption | rfl) dX5_accept_180 ?_
      refine j_icmp_ge C 258 dX5_accept_183 (by decide) (fun c183 => ?_) (fun c183 => ?_)
      · exact absurd c183 (by rw [e21]; exact nI_ge (a := j) (b := s) (by omega) (by omega)) -- stop
      · refine k_aload_n C dX5_accept_186 rfl ?_
        refine j_getr C fX5_45 rfl (by first | decide | omega) (by first | assumption | rfl) (congrFun hrg _) dX5_accept_187 ?_
        refine j_sipush (v := 130) C dX5_accept_190 (by decide) ?_
        refine k_iload_n C dX5_accept_193 rfl ?_
        refine j_imul C dX5_accept_194 ?_
        refine k_iload_n C dX5_accept_195 rfl ?_
        refine j_iadd C dX5_accept_196 ?_
        refine k_aload_n C dX5_accept_197 rfl ?_
        refine j_getr C fX5_45 rfl (by first | decide | omega) (by first | assumption | rfl) (congrFun hrg _) dX5_accept_198 ?_
        refine j_sipush (v := 780) C dX5_accept_201 (by decide) ?_
        refine k_iload_n C dX5_accept_204 rfl ?_
        refine j_iadd C dX5_accept_205 ?_
        refine j_iald C (by first | decide | omega) (by first | assumption | rfl) (es) ((by omega)) (by decide) dX5_accept_206 ?_
        rw [src 82 (by omega) (by omega)]
        refine j_iast C (by first | decide | omega) (by first | assumption | rfl) (ed) ((by omega)) (by decide) dX5_accept_207 ?_
        refine jeqh (show _ = g1 from eg1.symm) ?_
        refine k_aload_n C dX5_accept_208 rfl ?_
        refine j_getr C fX5_48 rfl (by first | decide | omega) (by first | assumption | rfl) (congrFun r1 _) dX5_accept_209 ?_
        refine j_sipush (v := 130) C dX5_accept_212 (by decide) ?_
        refine k_iload_n C dX5_accept_215 rfl ?_
        refine j_imul C dX5_accept_216 ?_
        refine k_iload_n C dX5_accept_217 rfl ?_
        refine j_iadd C dX5_accept_218 ?_
        refine k_aload_n C dX5_accept_219 rfl ?_
        refine j_getr C fX5_48 rfl (by first | decide | omega) (by first | assumption | rfl) (congrFun r1 _) dX5_accept_220 ?_
        refine j_sipush (v := 780) C dX5_accept_223 (by decide) ?_
        refine k_iload_n C dX5_accept_226 rfl ?_
        refine j_iadd C dX5_accept_227 ?_
        refine j_iald C (by first | decide | omega) (by first | assumption | rfl) (es) ((by omega)) (by decide) dX5_accept_228 ?_
        rw [v1]
        refine j_iast C (by first | decide | omega) (by first | assumption | rfl) (ed) ((by omega)) (by decide) dX5_accept_229 ?_
        refine jeqh (show _ = g2 from eg2.symm) ?_
        refine k_aload_n C dX5_accept_230 rfl ?_
        refine j_getr C fX5_51 rfl (by first | decide | omega) (by first | assumption | rfl) (congrFun r2 _) dX5_accept_231 ?_
        refine j_sipush (v := 130) C dX5_accept_234 (by decide) ?_
        refine k_iload_n C dX5_accept_237 rfl ?_
        refine j_imul C dX5_accept_238 ?_
        refine k_iload_n C dX5_accept_239 rfl ?_
        refine j_iadd C dX5_accept_240 ?_
        refine k_aload_n C dX5_accept_241 rfl ?_
        refine j_getr C fX5_51 rfl (by first | decide | omega) (by first | assumption | rfl) (congrFun r2 _) dX5_accept_242 ?_
        refine j_sipush (v := 780) C dX5_accept_245 (by decide) ?_
        refine k_iload_n C dX5_accept_248 rfl ?_
        refine j_iadd C dX5_accept_249 ?_
        refine j_iald C (by first | decide | omega) (by first | assumption | rfl) (es) ((by omega)) (by decide) dX5_accept_250 ?_
        rw [v2]
        refine j_iast C (by first | decide | omega) (by first | assumption | rfl) (ed) ((by omega)) (by decide) dX5_accept_251 ?_
        refine jeqh (show _ = g3 from eg3.symm) ?_
        refine k_iinc C dX5_accept_252 rfl rfl (by rw [hnL]; decide) ?_
        refine j_goto C 178 dX5_accept_255 (by decide) ?_
        rw [show nI j + Int32.ofInt 1 = nI (j + 1) from nI_1 j]
        refine ih (j + 1) (by omega) g3 (by rw [eg3, eg2, eg1]; exact e2) (fun j' hj' k z1 z2 => ?_) (fun k j' z => by rw [o3 k j' (by omega)]; exact ho k j' (by omega))
        by_cases c : j' = j
        · rw [c]; exact n3 k z1 z2
        · rw [o3 k _ (by omega)]; exact hc j' (by omega) k z1 z2
  -- the items
  have itl : ∀ (f i : Nat), i + f = 6 → ∀ (g : jH), acI m i h g → J X w g 22 [(0, .ref (jad w 70)), (1, .int (nI m)), (2, .int (nI i))] [] := by
    intro f
    induction f with
    | zero =>
      intro i hi g A
      have hi6 : i = 6 := by omega
      subst hi6
      refine k_iload_n C dX5_accept_22 rfl ?_
      refine j_bipush (v := 6) C dX5_accept_23 (by decide) ?_
      refine j_icmp_ge C 176 dX5_accept_25 (by decide) (fun c25 => ?_) (fun c25 => ?_)
      · refine j_iconst (v := 0) C dX5_accept_176 (by decide) ?_
        refine k_istore_n C dX5_accept_177 (by rw [hnL]; decide) ?_
        exact sgl g A s 0 (by omega) g A.1 (fun j' hj' => absurd hj' (Nat.not_lt_zero _)) (fun _ _ _ => rfl)
      · exact absurd (nI_le (a := 6) (b := 6) (by omega) (by omega)) c25 -- stop
    | succ f ih =>
      intro i hi g A
      obtain ⟨A1, A2, A3, A4, A5, A6, A7⟩ := id A
      have hrg : g.2.1 70 = rMap := by rw [A1]; exact hr
      have es : (36 : Int32) + nI i = nI (36 + i) := by rw [show (36 : Int32) = nI 36 from rfl, nI_add]
      have ed : (6 : Int32) * nI m + nI i = nI (6 * m + i) := by rw [show (6 : Int32) = nI 6 from rfl, pk_mul, nI_add]
      have src : ∀ k, 74 ≤ k → k ≤ 81 → k ≠ 78 → g.1 k (36 + i) = h.1 k (36 + i) := fun k z1 z2 z3 => A7 k _ (by omega) (by omega) (by omega)
      obtain ⟨g1, eg1⟩ : ∃ g1 : jH, g1 = (up2 g.1 74 (6 * m + i) (h.1 74 (36 + i)), g.2) := ⟨_, rfl⟩
      obtain ⟨g2, eg2⟩ : ∃ g2 : jH, g2 = (up2 g1.1 75 (6 * m + i) (h.1 75 (36 + i)), g1.2) := ⟨_, rfl⟩
      obtain ⟨g3, eg3⟩ : ∃ g3 : jH, g3 = (up2 g2.1 76 (6 * m + i) (vp_nar .boolean (h.1 76 (36 + i))), g2.2) := ⟨_, rfl⟩
      obtain ⟨g4, eg4⟩ : ∃ g4 : jH, g4 = (up2 g3.1 77 (6 * m + i) (h.1 77 (36 + i)), g3.2) := ⟨_, rfl⟩
      obtain ⟨g5, eg5⟩ : ∃ g5 : jH, g5 = (up2 g4.1 79 (6 * m + i) (vp_nar .boolean (h.1 79 (36 + i))), g4.2) := ⟨_, rfl⟩
      obtain ⟨g6, eg6⟩ : ∃ g6 : jH, g6 = (up2 g5.1 80 (6 * m + i) (h.1 80 (36 + i)), g5.2) := ⟨_, rfl⟩
      obtain ⟨g7, eg7⟩ : ∃ g7 : jH, g7 = (up2 g6.1 81 (6 * m + i) (h.1 81 (36 + i)), g6.2) := ⟨_, rfl⟩
      have r1 : g1.2.1 70 = rMap := by rw [eg1]; exact hrg
      have r2 : g2.2.1 70 = rMap := by rw [eg2]; exact r1
      have r3 : g3.2.1 70 = rMap := by rw [eg3]; exact r2
      have r4 : g4.2.1 70 = rMap := by rw [eg4]; exact r3
      have r5 : g5.2.1 70 = rMap := by rw [eg5]; exact r4
      have r6 : g6.2.1 70 = rMap := by rw [eg6]; exact r5
      have o1 : ∀ k j, ¬ (k = 74 ∧ j = 6 * m + i) → g1.1 k j = g.1 k j := fun k j z => by rw [eg1]; exact up2_n z
      have o2 : ∀ k j, ¬ (74 ≤ k ∧ k ≤ 75 ∧ j = 6 * m + i) → g2.1 k j = g.1 k j := fun k j z => by rw [eg2]; dsimp only; rw [up2_n (by omega)]; exact o1 k j (by omega)
      have o3 : ∀ k j, ¬ (74 ≤ k ∧ k ≤ 76 ∧ j = 6 * m + i) → g3.1 k j = g.1 k j := fun k j z => by rw [eg3]; dsimp only; rw [up2_n (by omega)]; exact o2 k j (by omega)
      have o4 : ∀ k j, ¬ (74 ≤ k ∧ k ≤ 77 ∧ j = 6 * m + i) → g4.1 k j = g.1 k j := fun k j z => by rw [eg4]; dsimp only; rw [up2_n (by omega)]; exact o3 k j (by omega)
      have o5 : ∀ k j, ¬ (74 ≤ k ∧ k ≤ 79 ∧ k ≠ 78 ∧ j = 6 * m + i) → g5.1 k j = g.1 k j := fun k j z => by rw [eg5]; dsimp only; rw [up2_n (by omega)]; exact o4 k j (by omega)
      have o6 : ∀ k j, ¬ (74 ≤ k ∧ k ≤ 80 ∧ k ≠ 78 ∧ j = 6 * m + i) → g6.1 k j = g.1 k j := fun k j z => by rw [eg6]; dsimp only; rw [up2_n (by omega)]; exact o5 k j (by omega)
      have o7 : ∀ k j, ¬ (74 ≤ k ∧ k ≤ 81 ∧ k ≠ 78 ∧ j = 6 * m + i) → g7.1 k j = g.1 k j := fun k j z => by rw [eg7]; dsimp only; rw [up2_n (by omega)]; exact o6 k j (by omega)
      have e7 : g7.2 = h.2 := by rw [eg7, eg6, eg5, eg4, eg3, eg2, eg1]; exact A1
      have n74 : g7.1 74 (6 * m + i) = h.1 74 (36 + i) := by rw [eg7, eg6, eg5, eg4, eg3, eg2, eg1]; dsimp only; rw [up2_n (by omega), up2_n (by omega), up2_n (by omega), up2_n (by omega), up2_n (by omega), up2_n (by omega), up2_s]
      have n75 : g7.1 75 (6 * m + i) = h.1 75 (36 + i) := by rw [eg7, eg6, eg5, eg4, eg3, eg2]; dsimp only; rw [up2_n (by omega), up2_n (by omega), up2_n (by omega), up2_n (by omega), up2_n (by omega), up2_s]
      have n76 : g7.1 76 (6 * m + i) = vp_nar .boolean (h.1 76 (36 + i)) := by rw [eg7, eg6, eg5, eg4, eg3]; dsimp only; rw [up2_n (by omega), up2_n (by omega), up2_n (by omega), up2_n (by omega), up2_s]
      have n77 : g7.1 77 (6 * m + i) = h.1 77 (36 + i) := by rw [eg7, eg6, eg5, eg4]; dsimp only; rw [up2_n (by omega), up2_n (by omega), up2_n (by omega), up2_s]
      have n79 : g7.1 79 (6 * m + i) = vp_nar .boolean (h.1 79 (36 + i)) := by rw [eg7, eg6, eg5]; dsimp only; rw [up2_n (by omega), up2_n (by omega), up2_s]
      have n80 : g7.1 80 (6 * m + i) = h.1 80 (36 + i) := by rw [eg7, eg6]; dsimp only; rw [up2_n (by omega), up2_s]
      have n81 : g7.1 81 (6 * m + i) = h.1 81 (36 + i) := by rw [eg7]; dsimp only; rw [up2_s]
      have inn : ∀ (p q : Nat), q + p = 3 → ∀ G : jH, G.2 = h.2 → (∀ q', q' < q → G.1 78 (3 * (6 * m + i) + q') = vp_nar .boolean (h.1 78 (3 * (36 + i) + q'))) → (∀ k j, ¬ (k = 78 ∧ 3 * (6 * m + i) ≤ j ∧ j < 3 * (6 * m + i) + q) → G.1 k j = g7.1 k j) → J X w G 135 [(0, .ref (jad w 70)), (1, .int (nI m)), (2, .int (nI i)), (3, .int (nI (36 + i))), (4, .int (nI (6 * m + i))), (5, .int (nI q))] [] := by
        intro p
        induction p with
        | zero =>
          intro q hq G eG hc ho
          have AA : acI m (i + 1) h G := by
            refine ⟨eG, by rw [ho _ _ (by omega), o7 _ _ (by omega)]; exact A2, by rw [ho _ _ (by omega), o7 _ _ (by omega)]; exact A3, fun i' hi' k hk => ?_, fun i' hi' k hk => ?_, fun i' hi' q' hq' => ?_, fun k j z1 z2 z3 => by rw [ho k j (by omega), o7 k j (by omega)]; exact A7 k j z1 (by omega) (by omega)⟩
            · rw [ho _ _ (by omega)]
              by_cases c : i' = i
              · rw [c]
                rcases hk with rfl | rfl | rfl | rfl | rfl
                · exact n74
                · exact n75
                · exact n77
                · exact n80
                · exact n81
              · rw [o7 _ _ (by omega)]; exact A4 i' (by omega) k hk
            · rw [ho _ _ (by omega)]
              by_cases c : i' = i
              · rw [c]
                rcases hk with rfl | rfl
                · exact n76
                · exact n79
              · rw [o7 _ _ (by omega)]; exact A5 i' (by omega) k hk
            · by_cases c : i' = i
              · rw [c]; exact hc q' (by omega)
              · rw [ho _ _ (by omega), o7 _ _ (by omega)]; exact A6 i' (by omega) q' hq'
          refine k_iload C dX5_accept_135 rfl ?_
          refine j_iconst (v := 3) C dX5_accept_137 (by decide) ?_
          refine j_icmp_ge C 170 dX5_accept_138 (by decide) (fun c138 => ?_) (fun c138 => ?_)
          · refine k_iinc C dX5_accept_170 rfl rfl (by rw [hnL]; decide) ?_
            refine j_goto C 22 dX5_accept_173 (by decide) ?_
            rw [show nI i + Int32.ofInt 1 = nI (i + 1) from nI_1 i]
            exact j_mono (lv' := [(0, .ref (jad w 70)), (1, .int (nI m)), (2, .int (nI (i + 1)))]) (fun q9 hq9 => List.mem_append_left [(3, Value.int (nI (36 + i))), (4, Value.int (nI (6 * m + i))), (5, Value.int (nI q))] hq9) (ih (i + 1) (by omega) G AA)
          · exact absurd (nI_le (a := 3) (b := q) (by omega) (by omega)) c138 -- stop
        | succ p ihp =>
          intro q hq G eG hc ho
          have rG : G.2.1 70 = rMap := by rw [eG]; exact hr
          have e1 : (3 : Int32) * nI (6 * m + i) + nI q = nI (3 * (6 * m + i) + q) := by rw [show (3 : Int32) = nI 3 from rfl, pk_mul, nI_add]
          have e2 : (3 : Int32) * nI (36 + i) + nI q = nI (3 * (36 + i) + q) := by rw [show (3 : Int32) = nI 3 from rfl, pk_mul, nI_add]
          have sv : G.1 78 (3 * (36 + i) + q) = h.1 78 (3 * (36 + i) + q) := by rw [ho _ _ (by omega), o7 _ _ (by omega)]; exact A7 _ _ (by omega) (by omega) (by omega)
          refine k_iload C dX5_accept_135 rfl ?_
          refine j_iconst (v := 3) C dX5_accept_137 (by decide) ?_
          refine j_icmp_ge C 170 dX5_accept_138 (by decide) (fun c138 => ?_) (fun c138 => ?_)
          · exact absurd c138 (nI_ge (a := q) (b := 3) (by omega) (by omega)) -- stop
          · refine k_aload_n C dX5_accept_141 rfl ?_
            refine j_getr C fX5_33 rfl (by first | decide | omega) (by first | assumption | rfl) (congrFun rG _) dX5_accept_142 ?_
            refine j_iconst (v := 3) C dX5_accept_145 (by decide) ?_
            refine k_iload C dX5_accept_146 rfl ?_
            refine j_imul C dX5_accept_148 ?_
            refine k_iload C dX5_accept_149 rfl ?_
            refine j_iadd C dX5_accept_151 ?_
            refine k_aload_n C dX5_accept_152 rfl ?_
            refine j_getr C fX5_33 rfl (by first | decide | omega) (by first | assumption | rfl) (congrFun rG _) dX5_accept_153 ?_
            refine j_iconst (v := 3) C dX5_accept_156 (by decide) ?_
            refine k_iload_n C dX5_accept_157 rfl ?_
            refine j_imul C dX5_accept_158 ?_
            refine k_iload C dX5_accept_159 rfl ?_
            refine j_iadd C dX5_accept_161 ?_
            refine j_zald C (by first | decide | omega) (by first | assumption | rfl) (e2) ((by omega)) (by decide) dX5_accept_162 ?_
            rw [sv, e1]
            refine j_zastn C (by decide) rfl rfl (by omega) (by decide) dX5_accept_163 ?_
            refine k_iinc C dX5_accept_164 rfl rfl (by rw [hnL]; decide) ?_
            refine j_goto C 135 dX5_accept_167 (by decide) ?_
            rw [show nI q + Int32.ofInt 1 = nI (q + 1) from nI_1 q]
            refine ihp (q + 1) (by omega) _ eG (fun q' hq' => ?_) (fun k j z => by dsimp only; rw [up2_n (by omega)]; exact ho k j (by omega))
            dsimp only
            by_cases c : q' = q
            · rw [c, up2_s]
            · rw [up2_n (by omega)]; exact hc q' (by omega)
      refine k_iload_n C dX5_accept_22 rfl ?_
      refine j_bipush (v := 6) C dX5_accept_23 (by decide) ?_
      refine j_icmp_ge C 176 dX5_accept_25 (by decide) (fun c25 => ?_) (fun c25 => ?_)
      · exact absurd c25 (nI_ge (a := i) (b := 6) (by omega) (by omega)) -- stop
      · refine j_bipush (v := 36) C dX5_accept_28 (by decide) ?_
        refine k_iload_n C dX5_accept_30 rfl ?_
        refine j_iadd C dX5_accept_31 ?_
        rw [es]
        refine k_istore_n C dX5_accept_32 (by rw [hnL]; decide) ?_
        refine j_bipush (v := 6) C dX5_accept_33 (by decide) ?_
        refine k_iload_n C dX5_accept_35 rfl ?_
        refine j_imul C dX5_accept_36 ?_
        refine k_iload_n C dX5_accept_37 rfl ?_
        refine j_iadd C dX5_accept_38 ?_
        rw [ed]
        refine k_istore C dX5_accept_39 (by rw [hnL]; decide) ?_
        refine k_aload_n C dX5_accept_41 rfl ?_
        refine j_getr C fX5_21 rfl (by first | decide | omega) (by first | assumption | rfl) (congrFun hrg _) dX5_accept_42 ?_
        refine k_iload C dX5_accept_45 rfl ?_
        refine k_aload_n C dX5_accept_47 rfl ?_
        refine j_getr C fX5_21 rfl (by first | decide | omega) (by first | assumption | rfl) (congrFun hrg _) dX5_accept_48 ?_
        refine k_iload_n C dX5_accept_51 rfl ?_
        refine j_iald C (by first | decide | omega) (by first | assumption | rfl) (rfl) ((by omega)) (by decide) dX5_accept_52 ?_
        rw [src 74 (by omega) (by omega) (by omega)]
        refine j_iast C (by first | decide | omega) (by first | assumption | rfl) (rfl) ((by omega)) (by decide) dX5_accept_53 ?_
        refine jeqh (show _ = g1 from eg1.symm) ?_
        refine k_aload_n C dX5_accept_54 rfl ?_
        refine j_getr C fX5_24 rfl (by first | decide | omega) (by first | assumption | rfl) (congrFun r1 _) dX5_accept_55 ?_
        refine k_iload C dX5_accept_58 rfl ?_
        refine k_aload_n C dX5_accept_60 rfl ?_
        refine j_getr C fX5_24 rfl (by first | decide | omega) (by first | assumption | rfl) (congrFun r1 _) dX5_accept_61 ?_
        refine k_iload_n C dX5_accept_64 rfl ?_
        refine j_iald C (by first | decide | omega) (by first | assumption | rfl) (rfl) ((by omega)) (by decide) dX5_accept_65 ?_
        rw [o1 _ _ (by omega), src 75 (by omega) (by omega) (by omega)]
        refine j_iast C (by first | decide | omega) (by first | assumption | rfl) (rfl) ((by omega)) (by decide) dX5_accept_66 ?_
        refine jeqh (show _ = g2 from eg2.symm) ?_
        refine k_aload_n C dX5_accept_67 rfl ?_
        refine j_getr C fX5_27 rfl (by first | decide | omega) (by first | assumption | rfl) (congrFun r2 _) dX5_accept_68 ?_
        refine k_iload C dX5_accept_71 rfl ?_
        refine k_aload_n C dX5_accept_73 rfl ?_
        refine j_getr C fX5_27 rfl (by first | decide | omega) (by first | assumption | rfl) (congrFun r2 _) dX5_accept_74 ?_
        refine k_iload_n C dX5_accept_77 rfl ?_
        refine j_zald C (by first | decide | omega) (by first | assumption | rfl) (rfl) ((by omega)) (by decide) dX5_accept_78 ?_
        rw [o2 _ _ (by omega), src 76 (by omega) (by omega) (by omega)]
        refine j_zastn C (by decide) rfl rfl (by omega) (by decide) dX5_accept_79 ?_
        refine jeqh (show _ = g3 from eg3.symm) ?_
        refine k_aload_n C dX5_accept_80 rfl ?_
        refine j_getr C fX5_30 rfl (by first | decide | omega) (by first | assumption | rfl) (congrFun r3 _) dX5_accept_81 ?_
        refine k_iload C dX5_accept_84 rfl ?_
        refine k_aload_n C dX5_accept_86 rfl ?_
        refine j_getr C fX5_30 rfl (by first | decide | omega) (by first | assumption | rfl) (congrFun r3 _) dX5_accept_87 ?_
        refine k_iload_n C dX5_accept_90 rfl ?_
        refine j_iald C (by first | decide | omega) (by first | assumption | rfl) (rfl) ((by omega)) (by decide) dX5_accept_91 ?_
        rw [o3 _ _ (by omega), src 77 (by omega) (by omega) (by omega)]
        refine j_iast C (by first | decide | omega) (by first | assumption | rfl) (rfl) ((by omega)) (by decide) dX5_accept_92 ?_
        refine jeqh (show _ = g4 from eg4.symm) ?_
        refine k_aload_n C dX5_accept_93 rfl ?_
        refine j_getr C fX5_36 rfl (by first | decide | omega) (by first | assumption | rfl) (congrFun r4 _) dX5_accept_94 ?_
        refine k_iload C dX5_accept_97 rfl ?_
        refine k_aload_n C dX5_accept_99 rfl ?_
        refine j_getr C fX5_36 rfl (by first | decide | omega) (by first | assumption | rfl) (congrFun r4 _) dX5_accept_100 ?_
        refine k_iload_n C dX5_accept_103 rfl ?_
        refine j_zald C (by first | decide | omega) (by first | assumption | rfl) (rfl) ((by omega)) (by decide) dX5_accept_104 ?_
        rw [o4 _ _ (by omega), src 79 (by omega) (by omega) (by omega)]
        refine j_zastn C (by decide) rfl rfl (by omega) (by decide) dX5_accept_105 ?_
        refine jeqh (show _ = g5 from eg5.symm) ?_
        refine k_aload_n C dX5_accept_106 rfl ?_
        refine j_getr C fX5_39 rfl (by first | decide | omega) (by first | assumption | rfl) (congrFun r5 _) dX5_accept_107 ?_
        refine k_iload C dX5_accept_110 rfl ?_
        refine k_aload_n C dX5_accept_112 rfl ?_
        refine j_getr C fX5_39 rfl (by first | decide | omega) (by first | assumption | rfl) (congrFun r5 _) dX5_accept_113 ?_
        refine k_iload_n C dX5_accept_116 rfl ?_
        refine j_iald C (by first | decide | omega) (by first | assumption | rfl) (rfl) ((by omega)) (by decide) dX5_accept_117 ?_
        rw [o5 _ _ (by omega), src 80 (by omega) (by omega) (by omega)]
        refine j_iast C (by first | decide | omega) (by first | assumption | rfl) (rfl) ((by omega)) (by decide) dX5_accept_118 ?_
        refine jeqh (show _ = g6 from eg6.symm) ?_
        refine k_aload_n C dX5_accept_119 rfl ?_
        refine j_getr C fX5_42 rfl (by first | decide | omega) (by first | assumption | rfl) (congrFun r6 _) dX5_accept_120 ?_
        refine k_iload C dX5_accept_123 rfl ?_
        refine k_aload_n C dX5_accept_125 rfl ?_
        refine j_getr C fX5_42 rfl (by first | decide | omega) (by first | assumption | rfl) (congrFun r6 _) dX5_accept_126 ?_
        refine k_iload_n C dX5_accept_129 rfl ?_
        refine j_iald C (by first | decide | omega) (by first | assumption | rfl) (rfl) ((by omega)) (by decide) dX5_accept_130 ?_
        rw [o6 _ _ (by omega), src 81 (by omega) (by omega) (by omega)]
        refine j_iast C (by first | decide | omega) (by first | assumption | rfl) (rfl) ((by omega)) (by decide) dX5_accept_131 ?_
        refine jeqh (show _ = g7 from eg7.symm) ?_
        refine j_iconst (v := 0) C dX5_accept_132 (by decide) ?_
        refine k_istore C dX5_accept_133 (by rw [hnL]; decide) ?_
        exact inn 3 0 rfl g7 e7 (fun q' hq' => absurd hq' (Nat.not_lt_zero _)) (fun _ _ _ => rfl)
  show J X w h 0 [(0, .ref (jad w 70)), (1, .int (nI m))] []
  obtain ⟨u1, eu1⟩ : ∃ u1 : jH, u1 = (up2 h.1 72 m 1, h.2) := ⟨_, rfl⟩
  have ru1 : u1.2.1 70 = rMap := by rw [eu1]; exact hr
  have vu : u1.1 73 6 = h.1 73 6 := by rw [eu1]; dsimp only; rw [up2_n (by omega)]
  refine k_aload_n C dX5_accept_0 rfl ?_
  refine j_getr C fX5_13 rfl (by first | decide | omega) (by first | assumption | rfl) (congrFun hr _) dX5_accept_1 ?_
  refine k_iload_n C dX5_accept_4 rfl ?_
  refine j_iconst (v := 1) C dX5_accept_5 (by decide) ?_
  refine j_zast C (by first | decide | omega) (by first | assumption | rfl) (rfl) ((by omega)) (by decide) (by first | decide | assumption) dX5_accept_6 ?_
  refine jeqh (show _ = u1 from eu1.symm) ?_
  refine k_aload_n C dX5_accept_7 rfl ?_
  refine j_getr C fX5_17 rfl (by first | decide | omega) (by first | assumption | rfl) (congrFun ru1 _) dX5_accept_8 ?_
  refine k_iload_n C dX5_accept_11 rfl ?_
  refine k_aload_n C dX5_accept_12 rfl ?_
  refine j_getr C fX5_17 rfl (by first | decide | omega) (by first | assumption | rfl) (congrFun ru1 _) dX5_accept_13 ?_
  refine j_bipush (v := 6) C dX5_accept_16 (by decide) ?_
  refine j_iald C (by first | decide | omega) (by first | assumption | rfl) ((show (6 : Int32) = nI 6 from rfl)) ((by omega)) (by decide) dX5_accept_18 ?_
  rw [vu]
  refine j_iast C (by first | decide | omega) (by first | assumption | rfl) (rfl) ((by omega)) (by decide) dX5_accept_19 ?_
  refine j_iconst (v := 0) C dX5_accept_20 (by decide) ?_
  refine k_istore_n C dX5_accept_21 (by rw [hnL]; decide) ?_
  refine itl 6 0 rfl _ ⟨by rw [eu1], ?_, ?_, fun i' hi' => absurd hi' (Nat.not_lt_zero _), fun i' hi' => absurd hi' (Nat.not_lt_zero _), fun i' hi' => absurd hi' (Nat.not_lt_zero _), fun k j z1 z2 z3 => ?_⟩
  · dsimp only; rw [up2_n (by omega), eu1]; dsimp only; rw [up2_s]
  · dsimp only; rw [up2_s]
  · dsimp only; rw [up2_n (by omega), eu1]; dsimp only; rw [up2_n (by omega)]
end XT
