/-! THE LAW'S HELPERS -/
def kF2 (h h' : jH) : Prop := ∀ k j, 70 ≤ k → h'.1 k j = h.1 k j ∧ h'.2.1 k j = h.2.1 k j
theorem KI_keep {sz : Nat} {G : GS} {h h' : jH} (h1 : ∀ k j, k < 70 → h'.1 k j = h.1 k j) (h2 : h'.2.1 = h.2.1) (H : KI sz G h) : KI sz G h' := by
  obtain ⟨σ, a, b, c, d, e⟩ := H
  refine ⟨σ, ?_, ?_, ?_, ?_, e⟩
  · obtain ⟨a1, a2, a3, a4, a5, a6, a7, a8, a9, a0⟩ := a
    refine ⟨by rw [h2]; exact a1, by rw [h2]; exact a2, by rw [h2]; exact a3, by rw [h2]; exact a4, by rw [h2]; exact a5, by rw [h2]; exact a6, by rw [h2]; exact a7, by rw [h2]; exact a8, fun u hu => ?_, a0⟩
    have := a9 u hu
    unfold ur at this ⊢
    rw [h2]
    exact this
  · obtain ⟨b1, b2, b3⟩ := b
    exact ⟨by rw [h1 _ _ (by decide)]; exact b1, b2, fun i hi => by rw [h1 _ _ (by decide)]; exact b3 i hi⟩
  · intro m hm
    obtain ⟨c1, c2⟩ := c m hm
    refine ⟨by rw [h1 _ _ (by decide)]; exact c1, fun hp => ⟨?_, (c2 hp).2⟩⟩
    have hu : σ m < 7 := (a.2.2.2.2.2.2.2.2.1 m (by omega)).1
    refine cU_keep hu (fun k j hk1 hk2 => h1 k j ?_) (c2 hp).1
    have : ub (σ m) ≤ 59 := by unfold ub; split <;> omega
    omega
  · obtain ⟨d1, d2, d3, d4, d5, d6, d7, d8, d9, da, db, dc⟩ := d
    exact ⟨by rw [h1 _ _ (by decide)]; exact d1, d2, by rw [h1 _ _ (by decide)]; exact d3, by rw [h1 _ _ (by decide)]; exact d4, by rw [h1 _ _ (by decide)]; exact d5, by rw [h1 _ _ (by decide)]; exact d6, d7, d8, by rw [h1 _ _ (by decide)]; exact d9, by rw [h1 _ _ (by decide)]; exact da, by rw [h1 _ _ (by decide)]; exact db, by rw [h1 _ _ (by decide)]; exact dc⟩
theorem RI_keep {sz : Nat} {G : GS} {h h' : jH} (hF : kF2 h h') (H : RI sz G h) : RI sz G h' := by
  obtain ⟨a, b, c, d⟩ := H
  refine ⟨?_, ?_, ?_, ?_⟩
  · rw [← a]; funext j; exact (hF 70 j (by decide)).2
  · obtain ⟨b1, b2, b3⟩ := b
    exact ⟨by rw [(hF _ _ (by decide)).1]; exact b1, b2, fun i hi => by rw [(hF _ _ (by decide)).1]; exact b3 i hi⟩
  · exact rM_keep (fun k j hk => (hF k j (by omega)).1) c
  · obtain ⟨d1, d2, d3, d4, d5, d6, d7, d8, d9, da, db, bb, dc⟩ := d
    exact ⟨by rw [(hF _ _ (by decide)).1]; exact d1, d2, d3, by rw [(hF _ _ (by decide)).1]; exact d4, by rw [(hF _ _ (by decide)).1]; exact d5, by rw [(hF _ _ (by decide)).1]; exact d6, by rw [(hF _ _ (by decide)).1]; exact d7, by rw [(hF _ _ (by decide)).1]; exact d8, by rw [(hF _ _ (by decide)).1]; exact d9, by rw [(hF _ _ (by decide)).1]; exact da, by rw [(hF _ _ (by decide)).1]; exact db, bb, by rw [(hF _ _ (by decide)).1]; exact dc⟩
theorem kF.two {h h' : jH} (H : kF h h') : kF2 h h' := H.1
/-- what a helper gives: the code, the class's state, the answer's long where it is asked for -/
def hPo (sz code ans : Nat) (G' : GS) (h : jH) : Option Value → jH → Prop := fun r h' => r = some (.int (nI code)) ∧ KI sz G' h' ∧ kF2 h h' ∧ (nI code = 0 → h'.2.2 98 0 = (nI ans).toInt64)
theorem hPo_of {sz ans : Nat} {G' : GS} {h h' : jH} (K : KI sz G' h') (F : kF2 h h') : hPo sz 0 ans G' h (some (.int 0)) (h'.1, h'.2.1, up2 h'.2.2 98 0 (nI ans).toInt64) := ⟨rfl, KI_keep (fun _ _ _ => rfl) rfl K, F, fun _ => by show up2 h'.2.2 98 0 _ 98 0 = _; exact up2_s⟩
theorem hPo_x {sz code ans : Nat} {G' : GS} {h h' : jH} {v : Int32} (hv : v = nI code) (hc : ¬ nI code = 0) (K : KI sz G' h') (F : kF2 h h') : hPo sz code ans G' h (some (.int v)) h' := ⟨by rw [hv], K, F, fun e => absurd e hc⟩
def hPd (sz code : Nat) (G' : GS) (h : jH) : Option Value → jH → Prop := fun r h' => r = some (.int (nI code)) ∧ KI sz G' h' ∧ kF2 h h'
section HL
variable {l : Launch} {w : jW} {h : jH} {sz : Nat} {G : GS}
theorem v_Mod (hw : jok w) (hl9 : l.stackTraces = false) (H : KI sz G h) : jHp l w yL_module cL_module 3 [(0, 8, 11, 13)] 59 [.ref (jad w 0), .ref (jad w 98)] h (hPo sz (gMod G).1 (gMod G).2.1 (gMod G).2.2 h) := by
  refine jHp_of (by decide) hw (Nat.le_of_ble_eq_true rfl) (fun X C hX hR hnL hrt hE htb hXk hNK => ?_)
  have hh : ∀ (h' : jH) (q : Nat), (gMod G).1 = 1 → KI sz (gMod G).2.2 h' → kF2 h h' → JP X (va_P w.1 vwCl (jws w h')) (jA w) (0 + 1) (0 + 6) 11 [(0, .ref (jad w 0)), (1, .ref (jad w 98))] [.ref q] := by
    intro h' q h1 K F
    skip
    refine q_astore_n C dL_module_11 (by rw [hnL]; decide) ?_
    refine p_iconst (v := 1) C dL_module_12 (by decide) ?_
    exact h_iret C hrt hE (by decide) (by decide) dL_module_13 (hPo_x (by rw [h1]; rfl) (by rw [h1]; decide) K F)
  skip
  refine q_aload_n C dL_module_0 rfl ?_
  refine p_iconst (v := 0) C dL_module_1 (by decide) ?_
  refine q_aload_n C dL_module_2 rfl ?_
  refine p_callT (As := []) (k := 0) (ci := 4) (r := [.int 0, .ref (jad w 98)]) C hXk (fun _ h9 => h9) mL_7 (rin_5 _ (List.mem_of_getElem? (i := 23) rfl)) (c_Mod hw (by rw [hX]; exact hl9) H) rfl (by decide) rfl rfl rfl (Nat.le_of_ble_eq_true rfl) (jroomX hR (by decide) (by decide)) ⟨by rw [hR]; decide, by rw [hR]; decide⟩ dL_module_3 ?_ (fun E9 h9 hp9 => ⟨[], ⟨0, 8, 11, 13⟩, [], by rw [htb]; rfl, fun y hy => (by cases hy), by decide, by decide, by rw [hp9.1]; exact (rin_5 _ (List.mem_of_getElem? (i := 22) rfl)), by rw [hp9.1]; decide, fun q => hh h9 q hp9.2.1 hp9.2.2.1 hp9.2.2.2.two⟩)
  rintro v9 h9 ⟨rfl, hz, K, F⟩
  refine p_i2l C dL_module_6 rfl ?_
  refine p_last C rfl dL_module_7 ?_
  refine p_goto C 14 dL_module_8 (by decide) ?_
  refine p_iconst (v := 0) C dL_module_14 (by decide) ?_
  exact h_iret C hrt hE (by decide) (by decide) dL_module_15 (by rw [hz]; exact hPo_of K F.two)
theorem v_Drop (hw : jok w) (hl9 : l.stackTraces = false) (H : KI sz G h) (m : Int32) : jHp l w yL_drop cL_drop 3 [(0, 5, 8, 19)] 8 [.ref (jad w 0), .int m] h (hPd sz (gDrop G m).1 (gDrop G m).2 h) := by
  refine jHp_of (by decide) hw (Nat.le_of_ble_eq_true rfl) (fun X C hX hR hnL hrt hE htb hXk hNK => ?_)
  have hh : ∀ (h' : jH) (q : Nat), (gDrop G m).1 = 1 → KI sz (gDrop G m).2 h' → kF2 h h' → JP X (va_P w.1 vwCl (jws w h')) (jA w) (0 + 1) (0 + 6) 8 [(0, .ref (jad w 0)), (1, .int m)] [.ref q] := by
    intro h' q h1 K F
    skip
    refine q_astore_n C dL_drop_8 (by rw [hnL]; decide) ?_
    refine p_iconst (v := 1) C dL_drop_9 (by decide) ?_
    exact h_iret C hrt hE (by decide) (by decide) dL_drop_10 ⟨by rw [h1]; rfl, K, F⟩
  skip
  refine q_aload_n C dL_drop_0 rfl ?_
  refine q_iload_n C dL_drop_1 rfl ?_
  refine p_callT (As := [.int m]) (k := 0) (ci := 4) (r := []) C hXk (fun _ h9 => h9) mL_15 (rin_18 _ (List.mem_of_getElem? (i := 6) rfl)) (c_Drop hw (by rw [hX]; exact hl9) H m) rfl (by decide) rfl rfl rfl (Nat.le_of_ble_eq_true rfl) (jroomX hR (by decide) (by decide)) ⟨by rw [hR]; decide, by rw [hR]; decide⟩ dL_drop_2 ?_ (fun E9 h9 hp9 => ⟨[], ⟨0, 5, 8, 19⟩, [], by rw [htb]; rfl, fun y hy => (by cases hy), by decide, by decide, by rw [hp9.1]; exact (rin_18 _ (List.mem_of_getElem? (i := 5) rfl)), by rw [hp9.1]; decide, fun q => hh h9 q hp9.2.1 hp9.2.2.1 hp9.2.2.2.two⟩)
  rintro v9 h9 ⟨rfl, hz, K, F⟩
  refine p_goto C 11 dL_drop_5 (by decide) ?_
  refine p_iconst (v := 0) C dL_drop_11 (by decide) ?_
  exact h_iret C hrt hE (by decide) (by decide) dL_drop_12 ⟨by rw [hz]; rfl, K, F.two⟩
theorem v_Link (hw : jok w) (hl9 : l.stackTraces = false) (H : KI sz G h) : jHp l w yL_link cL_link 3 [(0, 8, 11, 24), (0, 8, 14, 26)] 8 [.ref (jad w 0), .ref (jad w 98)] h (hPo sz (gLink G).1 (gLink G).2.1 (gLink G).2.2 h) := by
  refine jHp_of (by decide) hw (Nat.le_of_ble_eq_true rfl) (fun X C hX hR hnL hrt hE htb hXk hNK => ?_)
  have hh1 : ∀ (h' : jH) (q : Nat), (gLink G).1 = 1 → KI sz (gLink G).2.2 h' → kF2 h h' → JP X (va_P w.1 vwCl (jws w h')) (jA w) (0 + 1) (0 + 6) 11 [(0, .ref (jad w 0)), (1, .ref (jad w 98))] [.ref q] := by
    intro h' q h1 K F
    skip
    refine q_astore_n C dL_link_11 (by rw [hnL]; decide) ?_
    refine p_iconst (v := 1) C dL_link_12 (by decide) ?_
    exact h_iret C hrt hE (by decide) (by decide) dL_link_13 (hPo_x (by rw [h1]; rfl) (by rw [h1]; decide) K F)
  have hh2 : ∀ (h' : jH) (q : Nat), (gLink G).1 = 2 → KI sz (gLink G).2.2 h' → kF2 h h' → JP X (va_P w.1 vwCl (jws w h')) (jA w) (0 + 1) (0 + 6) 14 [(0, .ref (jad w 0)), (1, .ref (jad w 98))] [.ref q] := by
    intro h' q h1 K F
    skip
    refine q_astore_n C dL_link_14 (by rw [hnL]; decide) ?_
    refine p_iconst (v := 2) C dL_link_15 (by decide) ?_
    exact h_iret C hrt hE (by decide) (by decide) dL_link_16 (hPo_x (by rw [h1]; rfl) (by rw [h1]; decide) K F)
  skip
  refine q_aload_n C dL_link_0 rfl ?_
  refine p_iconst (v := 0) C dL_link_1 (by decide) ?_
  refine q_aload_n C dL_link_2 rfl ?_
  refine p_callT (As := []) (k := 0) (ci := 4) (r := [.int 0, .ref (jad w 98)]) C hXk (fun _ h9 => h9) mL_21 (rin_19 _ (List.mem_of_getElem? (i := 5) rfl)) (c_Link hw (by rw [hX]; exact hl9) H) rfl (by decide) rfl rfl rfl (Nat.le_of_ble_eq_true rfl) (jroomX hR (by decide) (by decide)) ⟨by rw [hR]; decide, by rw [hR]; decide⟩ dL_link_3 ?_ (fun E9 h9 hp9 => ?_)
  rotate_left
  · obtain ⟨hE9, K, F⟩ := hp9
    rcases hE9 with ⟨rfl, h1⟩ | ⟨rfl, h1⟩
    · exact ⟨[], ⟨0, 8, 11, 24⟩, [⟨0, 8, 14, 26⟩], by rw [htb]; rfl, fun y hy => (by cases hy), by decide, by decide, (rin_19 _ (List.mem_of_getElem? (i := 3) rfl)), by decide, fun q => hh1 h9 q h1 K F.two⟩
    · exact ⟨[⟨0, 8, 11, 24⟩], ⟨0, 8, 14, 26⟩, [], by rw [htb]; rfl, fun y hy => (by rw [List.mem_singleton.mp hy]; exact ⟨by decide, by decide, _, (rin_19 _ (List.mem_of_getElem? (i := 3) rfl)), hNK ("java/lang/UnsupportedOperationException", "java/lang/IllegalStateException") (by decide)⟩), by decide, by decide, (rin_19 _ (List.mem_of_getElem? (i := 4) rfl)), by decide, fun q => hh2 h9 q h1 K F.two⟩
  rintro v9 h9 ⟨rfl, hz, K, F⟩
  refine p_i2l C dL_link_6 rfl ?_
  refine p_last C rfl dL_link_7 ?_
  refine p_goto C 17 dL_link_8 (by decide) ?_
  refine p_iconst (v := 0) C dL_link_17 (by decide) ?_
  exact h_iret C hrt hE (by decide) (by decide) dL_link_18 (by rw [hz]; exact hPo_of K F.two)
theorem v_About (hw : jok w) (hl9 : l.stackTraces = false) (H : KI sz G h) (m f v : Int32) : jHp l w yL_about cL_about 6 [(0, 12, 15, 19)] 8 [.ref (jad w 0), .int m, .int f, .int v, .ref (jad w 98)] h (hPo sz (gAbout G m f v).1 (gAbout G m f v).2 G h) := by
  refine jHp_of (by decide) hw (Nat.le_of_ble_eq_true rfl) (fun X C hX hR hnL hrt hE htb hXk hNK => ?_)
  have hh : ∀ (q : Nat), (gAbout G m f v).1 = 1 → JP X (va_P w.1 vwCl (jws w h)) (jA w) (0 + 1) (0 + 6) 15 [(0, .ref (jad w 0)), (1, .int m), (2, .int f), (3, .int v), (4, .ref (jad w 98))] [.ref q] := by
    intro q h1
    skip
    refine q_astore C dL_about_15 (by rw [hnL]; decide) ?_
    refine p_iconst (v := 1) C dL_about_17 (by decide) ?_
    exact h_iret C hrt hE (by decide) (by decide) dL_about_18 (hPo_x (by rw [h1]; rfl) (by rw [h1]; decide) H (fun _ _ _ => ⟨rfl, rfl⟩))
  skip
  refine q_aload C dL_about_0 rfl ?_
  refine p_iconst (v := 0) C dL_about_2 (by decide) ?_
  refine q_aload_n C dL_about_3 rfl ?_
  refine q_iload_n C dL_about_4 rfl ?_
  refine q_iload_n C dL_about_5 rfl ?_
  refine q_iload_n C dL_about_6 rfl ?_
  refine p_callT (As := [.int m, .int f, .int v]) (k := 0) (ci := 4) (r := [.int 0, .ref (jad w 98)]) C hXk (fun _ h9 => h9) mL_28 (rin_21 _ (List.mem_of_getElem? (i := 11) rfl)) (c_About hw (by rw [hX]; exact hl9) H m f v) rfl (by decide) rfl rfl rfl (Nat.le_of_ble_eq_true rfl) (jroomX hR (by decide) (by decide)) ⟨by rw [hR]; decide, by rw [hR]; decide⟩ dL_about_7 ?_ (fun E9 h9 hp9 => ⟨[], ⟨0, 12, 15, 19⟩, [], by rw [htb]; rfl, fun y hy => (by cases hy), by decide, by decide, by rw [hp9.1]; exact (rin_18 _ (List.mem_of_getElem? (i := 5) rfl)), by rw [hp9.1]; decide, fun q => by rw [hp9.2.2]; exact hh q hp9.2.1⟩)
  rintro v9 h9 ⟨rfl, hz, rfl⟩
  refine p_i2l C dL_about_10 rfl ?_
  refine p_last C rfl dL_about_11 ?_
  refine p_goto C 19 dL_about_12 (by decide) ?_
  refine p_iconst (v := 0) C dL_about_19 (by decide) ?_
  exact h_iret C hrt hE (by decide) (by decide) dL_about_20 (by rw [hz]; exact hPo_of H (fun _ _ _ => ⟨rfl, rfl⟩))
theorem v_Call (hw : jok w) (hl9 : l.stackTraces = false) (H : KI sz G h) (m f a b c d fu : Int32) : jHp l w yL_call cL_call 10 [(0, 20, 23, 24), (0, 20, 27, 19), (0, 20, 31, 13)] 8 [.ref (jad w 0), .int m, .int f, .int a, .int b, .int c, .int d, .int fu, .ref (jad w 98)] h (hPo sz (gCall sz G m f a b c d fu).1 (gCall sz G m f a b c d fu).2.1 (gCall sz G m f a b c d fu).2.2 h) := by
  refine jHp_of (by decide) hw (Nat.le_of_ble_eq_true rfl) (fun X C hX hR hnL hrt hE htb hXk hNK => ?_)
  have hh1 : ∀ (h' : jH) (q : Nat), (gCall sz G m f a b c d fu).1 = 1 → KI sz (gCall sz G m f a b c d fu).2.2 h' → kF2 h h' → JP X (va_P w.1 vwCl (jws w h')) (jA w) (0 + 1) (0 + 6) 23 [(0, .ref (jad w 0)), (1, .int m), (2, .int f), (3, .int a), (4, .int b), (5, .int c), (6, .int d), (7, .int fu), (8, .ref (jad w 98))] [.ref q] := by
    intro h' q h1 K F
    skip
    refine q_astore C dL_call_23 (by rw [hnL]; decide) ?_
    refine p_iconst (v := 1) C dL_call_25 (by decide) ?_
    exact h_iret C hrt hE (by decide) (by decide) dL_call_26 (hPo_x (by rw [h1]; rfl) (by rw [h1]; decide) K F)
  have hh2 : ∀ (h' : jH) (q : Nat), (gCall sz G m f a b c d fu).1 = 2 → KI sz (gCall sz G m f a b c d fu).2.2 h' → kF2 h h' → JP X (va_P w.1 vwCl (jws w h')) (jA w) (0 + 1) (0 + 6) 27 [(0, .ref (jad w 0)), (1, .int m), (2, .int f), (3, .int a), (4, .int b), (5, .int c), (6, .int d), (7, .int fu), (8, .ref (jad w 98))] [.ref q] := by
    intro h' q h1 K F
    skip
    refine q_astore C dL_call_27 (by rw [hnL]; decide) ?_
    refine p_iconst (v := 2) C dL_call_29 (by decide) ?_
    exact h_iret C hrt hE (by decide) (by decide) dL_call_30 (hPo_x (by rw [h1]; rfl) (by rw [h1]; decide) K F)
  have hh3 : ∀ (h' : jH) (q : Nat), (gCall sz G m f a b c d fu).1 = 3 → KI sz (gCall sz G m f a b c d fu).2.2 h' → kF2 h h' → JP X (va_P w.1 vwCl (jws w h')) (jA w) (0 + 1) (0 + 6) 31 [(0, .ref (jad w 0)), (1, .int m), (2, .int f), (3, .int a), (4, .int b), (5, .int c), (6, .int d), (7, .int fu), (8, .ref (jad w 98))] [.ref q] := by
    intro h' q h1 K F
    skip
    refine q_astore C dL_call_31 (by rw [hnL]; decide) ?_
    refine p_iconst (v := 3) C dL_call_33 (by decide) ?_
    exact h_iret C hrt hE (by decide) (by decide) dL_call_34 (hPo_x (by rw [h1]; rfl) (by rw [h1]; decide) K F)
  skip
  refine q_aload C dL_call_0 rfl ?_
  refine p_iconst (v := 0) C dL_call_2 (by decide) ?_
  refine q_aload_n C dL_call_3 rfl ?_
  refine q_iload_n C dL_call_4 rfl ?_
  refine q_iload_n C dL_call_5 rfl ?_
  refine q_iload_n C dL_call_6 rfl ?_
  refine q_iload C dL_call_7 rfl ?_
  refine q_iload C dL_call_9 rfl ?_
  refine q_iload C dL_call_11 rfl ?_
  refine q_iload C dL_call_13 rfl ?_
  refine p_callT (As := [.int m, .int f, .int a, .int b, .int c, .int d, .int fu]) (k := 0) (ci := 4) (r := [.int 0, .ref (jad w 98)]) C hXk (fun _ h9 => h9) mL_32 (rin_22 _ (List.mem_of_getElem? (i := 2) rfl)) (c_Call hw (by rw [hX]; exact hl9) H m f a b c d fu) rfl (by decide) rfl rfl rfl (Nat.le_of_ble_eq_true rfl) (jroomX hR (by decide) (by decide)) ⟨by rw [hR]; decide, by rw [hR]; decide⟩ dL_call_15 ?_ (fun E9 h9 hp9 => ?_)
  rotate_left
  · obtain ⟨hE9, K, F⟩ := hp9
    rcases hE9 with ⟨rfl, h1⟩ | ⟨rfl, h1⟩ | ⟨rfl, h1⟩
    · exact ⟨[], ⟨0, 20, 23, 24⟩, [⟨0, 20, 27, 19⟩, ⟨0, 20, 31, 13⟩], by rw [htb]; rfl, fun y hy => (by cases hy), by decide, by decide, (rin_19 _ (List.mem_of_getElem? (i := 3) rfl)), by decide, fun q => hh1 h9 q h1 K F.two⟩
    · exact ⟨[⟨0, 20, 23, 24⟩], ⟨0, 20, 27, 19⟩, [⟨0, 20, 31, 13⟩], by rw [htb]; rfl, fun y hy => (by rw [List.mem_singleton.mp hy]; exact ⟨by decide, by decide, _, (rin_19 _ (List.mem_of_getElem? (i := 3) rfl)), hNK ("java/util/NoSuchElementException", "java/lang/IllegalStateException") (by decide)⟩), by decide, by decide, (rin_18 _ (List.mem_of_getElem? (i := 5) rfl)), by decide, fun q => hh2 h9 q h1 K F.two⟩
    · exact ⟨[⟨0, 20, 23, 24⟩, ⟨0, 20, 27, 19⟩], ⟨0, 20, 31, 13⟩, [], by rw [htb]; rfl, fun y hy => (by rcases List.mem_cons.mp hy with rfl | hy; exact ⟨by decide, by decide, _, (rin_19 _ (List.mem_of_getElem? (i := 3) rfl)), hNK ("java/lang/IllegalArgumentException", "java/lang/IllegalStateException") (by decide)⟩; rw [List.mem_singleton.mp hy]; exact ⟨by decide, by decide, _, (rin_18 _ (List.mem_of_getElem? (i := 5) rfl)), hNK ("java/lang/IllegalArgumentException", "java/util/NoSuchElementException") (by decide)⟩), by decide, by decide, (rin_5 _ (List.mem_of_getElem? (i := 22) rfl)), by decide, fun q => hh3 h9 q h1 K F.two⟩
  rintro v9 h9 ⟨rfl, hz, K, F⟩
  refine p_i2l C dL_call_18 rfl ?_
  refine p_last C rfl dL_call_19 ?_
  refine p_goto C 35 dL_call_20 (by decide) ?_
  refine p_iconst (v := 0) C dL_call_35 (by decide) ?_
  exact h_iret C hrt hE (by decide) (by decide) dL_call_36 (by rw [hz]; exact hPo_of K F.two)
end HL
