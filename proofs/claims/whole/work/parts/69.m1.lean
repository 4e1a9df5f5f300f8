/-! THE CLASS'S MACHINE: its cells 68 and 69 against the event machine -/
def mF (h h' : jH) : Prop := (∀ k j, ¬ (k = 68 ∧ j = 5) → h'.2.1 k j = h.2.1 k j) ∧ h'.2.2 = h.2.2 ∧ ∀ k j, k ≠ 69 → ¬ (k = 68 ∧ j ≠ 0) → h'.1 k j = h.1 k j
theorem mF_rf {h : jH} : mF h h := ⟨fun _ _ _ => rfl, rfl, fun _ _ _ _ => rfl⟩
theorem mF_tr {a b c : jH} (h1 : mF a b) (h2 : mF b c) : mF a c := ⟨fun k j z => (h2.1 k j z).trans (h1.1 k j z), h2.2.1.trans h1.2.1, fun k j z1 z2 => (h2.2.2 k j z1 z2).trans (h1.2.2 k j z1 z2)⟩
theorem mF_68 {h : jH} {j : Nat} {v : Int32} (hj : j ≠ 0) : mF h (up2 h.1 68 j v, h.2) := ⟨fun _ _ _ => rfl, rfl, fun k y z1 z2 => up2_n (by omega)⟩
theorem mF_69 {h : jH} {j : Nat} {v : Int32} : mF h (up2 h.1 69 j v, h.2) := ⟨fun _ _ _ => rfl, rfl, fun k y z1 z2 => up2_n (by omega)⟩
theorem mF_un {h : jH} {q : Nat} : mF h (h.1, up2 h.2.1 68 5 (some q), h.2.2) := ⟨fun k j z => up2_n z, rfl, fun _ _ _ _ => rfl⟩
def Pc (ev : List Ev) (p : Nat) : Nat := cpos (ev.take p)
theorem cmp_Pc : ∀ (l pre : List Ev), cmp (Pc (pre ++ l)) pre.length l
  | [], pre => trivial
  | e :: l, pre => by
    refine ⟨?_, ?_⟩
    · unfold Pc
      rw [List.take_append_of_le_length (Nat.le_refl _), List.take_length, List.take_length_add_append, cpos_app]
      show _ = _ + kcl e
      simp [cpos]
    · have := cmp_Pc l (pre ++ [e])
      simpa using this
theorem cmp_P0 (ev : List Ev) : cmp (Pc ev) 0 ev := cmp_Pc ev []
theorem cmp_at {P : Nat → Nat} : ∀ (l : List Ev) (b k : Nat) (e : Ev), cmp P b l → l[k]? = some e → P (b + k + 1) = P (b + k) + kcl e
  | [], b, k, e, _, h => by simp at h
  | x :: l, b, 0, e, hs, h => by simp at h; subst h; exact hs.1
  | x :: l, b, k + 1, e, hs, h => by
    have := cmp_at l (b + 1) k e hs.2 (by simpa using h)
    rw [show b + (k + 1) = b + 1 + k by omega]
    exact this
theorem Pc_s {ev : List Ev} {p : Nat} {e : Ev} (he : ev[p]? = some e) : Pc ev (p + 1) = Pc ev p + kcl e := by
  have := cmp_at ev 0 p e (cmp_P0 ev) he
  simpa using this
theorem Pc_le {ev : List Ev} {p : Nat} : Pc ev p ≤ cpos ev := by
  have := cpos_app (ev.take p) (ev.drop p)
  rw [List.take_append_drop] at this
  unfold Pc
  omega
theorem Pc_lt {ev : List Ev} {p : Nat} {e : Ev} (he : ev[p]? = some e) (h9 : e.1 ≠ 9) : Pc ev p < cpos ev := by
  have := Pc_s he
  have h2 := Pc_le (ev := ev) (p := p + 1)
  unfold kcl at this
  rw [if_neg h9] at this
  omega
theorem Rep_at {F : Nat → Int32} {me : Nat} {P : Nat → Nat} : ∀ (l : List Ev) (b k : Nat) (e : Ev), Rep F me P b l → l[k]? = some e → e.1 ≠ 9 → F (P (b + k)) = nI (enc me P e)
  | [], b, k, e, _, h, _ => by simp at h
  | x :: l, b, 0, e, hs, h, h9 => by simp at h; subst h; exact hs.1 h9
  | x :: l, b, k + 1, e, hs, h, h9 => by
    rw [show b + (k + 1) = b + 1 + k by omega]
    exact Rep_at l (b + 1) k e hs.2 (by simpa using h) h9
theorem cU_keep {h h' : jH} {u me : Nat} {hs : List HD} {ev : List Ev} {br : List (Nat × Nat)} (hu : u < 7) (hk : ∀ k j, ub u ≤ k → k < ub u + 9 → h'.1 k j = h.1 k j) (H : cU h u me hs ev br) : cU h' u me hs ev br := by
  obtain ⟨h1, h2, h3, h4, h5, h6, h7, h8⟩ := H
  refine ⟨h1, h2, h3, h4, by rw [hk _ _ (by omega) (by omega)]; exact h5, by rw [hk _ _ (by omega) (by omega)]; exact h6, fun i hi => ?_, fun P hP hc => ⟨?_, fun i hi e0 => ?_⟩⟩
  · rw [hk _ _ (by omega) (by omega), hk _ _ (by omega) (by omega), hk _ _ (by omega) (by omega), hk _ _ (by omega) (by omega), hk _ _ (by omega) (by omega)]
    exact h7 i hi
  · have : h'.1 (ub u + 2) = h.1 (ub u + 2) := funext fun j => hk _ _ (by omega) (by omega)
    rw [this]; exact (h8 P hP hc).1
  · rw [hk _ _ (by omega) (by omega), hk _ _ (by omega) (by omega)]
    exact (h8 P hP hc).2 i hi e0
/-- what stays while the machine runs -/
def mS (PG : Nat → PU) (sz : Nat) (pr : Nat → Bool) (σ : Nat → Nat) (h : jH) : Prop := h.2.1 68 1 = some 2 ∧ h.2.1 68 2 = some 69 ∧ h.1 68 0 = nI sz ∧ sz ≤ 500 ∧ (∀ m, m < 6 → h.2.1 2 m = some (ub (σ m)) ∧ ur h (σ m)) ∧ ∀ m, m < 6 → pr m = true → cU h (σ m) m (PG m).1 (PG m).2.1 (PG m).2.2
theorem mS_keep {PG : Nat → PU} {sz : Nat} {pr : Nat → Bool} {σ : Nat → Nat} {h h' : jH} (hF : mF h h') (H : mS PG sz pr σ h) : mS PG sz pr σ h' := by
  obtain ⟨h1, h2, h3, h4, h5, h6⟩ := H
  refine ⟨by rw [hF.1 _ _ (by omega)]; exact h1, by rw [hF.1 _ _ (by omega)]; exact h2, by rw [hF.2.2 _ _ (by omega) (by omega)]; exact h3, h4, fun m hm => ?_, fun m hm hp => ?_⟩
  · obtain ⟨a, b, c, d, e⟩ := h5 m hm
    have := ub_in b
    exact ⟨by rw [hF.1 _ _ (by omega)]; exact a, b, by rw [hF.1 _ _ (by omega)]; exact c, by rw [hF.1 _ _ (by omega)]; exact d, fun i hi => by rw [hF.1 _ _ (by omega)]; exact e i hi⟩
  · have hu := (h5 m hm).2.1
    have := ub_in hu
    exact cU_keep hu (fun k j z1 z2 => hF.2.2 k j (by omega) (by omega)) (h6 m hm hp)
section M1
variable {l : Launch} {w : jW} {h : jH}
theorem m_push (hw : jok w) (h2 : h.2.1 68 2 = some 69) {c : Nat} (hc : h.1 68 3 = nI c) (hc5 : c < 500) (x : Int32) : jM l w yX2_push cX2_push 2 none 0 [.ref (jad w 68), .int x] h (fun r h' => r = none ∧ h' = (up2 (up2 h.1 69 c x) 68 3 (nI (c + 1)), h.2)) := by
  refine jM_of (by decide) hw (Nat.le_of_ble_eq_true rfl) ?_
  intro X C hl hR hnL hrt hE
  have C : jC X w cX2_push RX2 := C
  show J X w h 0 [(0, .ref (jad w 68)), (1, .int x)] []
  refine k_aload_n C dX2_push_0 rfl ?_
  refine j_geti C fX2_28 rfl (by first | decide | omega) (by first | assumption | rfl) dX2_push_1 ?_
  refine j_sipush (v := 500) C dX2_push_4 (by decide) ?_
  refine j_icmp_ge C 30 dX2_push_7 (by decide) (fun c7 => ?_) (fun c7 => ?_)
  · exact absurd c7 (by rw [hc]; exact nI_ge (a := c) (b := 500) (by omega) (by omega)) -- stop
  · refine k_aload_n C dX2_push_10 rfl ?_
    refine j_getr C fX2_9 rfl (by first | decide | omega) (by first | assumption | rfl) (h2) dX2_push_11 ?_
    refine k_aload_n C dX2_push_14 rfl ?_
    refine j_geti C fX2_28 rfl (by first | decide | omega) (by first | assumption | rfl) dX2_push_15 ?_
    refine k_iload_n C dX2_push_18 rfl ?_
    refine j_iast C (by first | decide | omega) (by first | assumption | rfl) (hc) (hc5) (by decide) dX2_push_19 ?_
    refine k_aload_n C dX2_push_20 rfl ?_
    refine j_dup C dX2_push_21 rfl ?_
    refine j_geti C fX2_28 rfl (by first | decide | omega) (by first | assumption | rfl) dX2_push_22 ?_
    refine j_iconst (v := 1) C dX2_push_25 (by decide) ?_
    refine j_iadd C dX2_push_26 ?_
    refine j_puti C fX2_28 rfl rfl (by first | decide | omega) (by first | assumption | rfl) dX2_push_27 ?_
    exact j_vret C hrt hE dX2_push_30 (⟨rfl, by dsimp only; rw [up2_n (by omega), hc, nI_1]⟩)
theorem m_pop (hw : jok w) (h2 : h.2.1 68 2 = some 69) {c : Nat} (hc : h.1 68 3 = nI (c + 1)) (hc5 : c < 500) : jM l w yX2_pop cX2_pop 1 (some .int) 0 [.ref (jad w 68)] h (fun r h' => r = some (.int (h.1 69 c)) ∧ h' = (up2 h.1 68 3 (nI c), h.2)) := by
  refine jM_of (by decide) hw (Nat.le_of_ble_eq_true rfl) ?_
  intro X C hl hR hnL hrt hE
  have C : jC X w cX2_pop RX2 := C
  have e1 : h.1 68 3 - 1 = nI c := by rw [hc]; exact pk_sub (a := c + 1) (b := 1) (by omega)
  show J X w h 0 [(0, .ref (jad w 68))] []
  refine k_aload_n C dX2_pop_0 rfl ?_
  refine j_geti C fX2_28 rfl (by first | decide | omega) (by first | assumption | rfl) dX2_pop_1 ?_
  refine j_if_ne C 9 dX2_pop_4 (by decide) (fun c4 => ?_) (fun c4 => ?_)
  · refine k_aload_n C dX2_pop_9 rfl ?_
    refine j_dup C dX2_pop_10 rfl ?_
    refine j_geti C fX2_28 rfl (by first | decide | omega) (by first | assumption | rfl) dX2_pop_11 ?_
    refine j_iconst (v := 1) C dX2_pop_14 (by decide) ?_
    refine j_isub C dX2_pop_15 ?_
    rw [e1]
    refine j_puti C fX2_28 rfl rfl (by first | decide | omega) (by first | assumption | rfl) dX2_pop_16 ?_
    refine k_aload_n C dX2_pop_19 rfl ?_
    refine j_getr C fX2_9 rfl (by first | decide | omega) (by first | assumption | rfl) (h2) dX2_pop_20 ?_
    refine k_aload_n C dX2_pop_23 rfl ?_
    refine j_geti C fX2_28 rfl (by first | decide | omega) (by first | assumption | rfl) dX2_pop_24 ?_
    refine j_iald C (by first | decide | omega) (by first | assumption | rfl) (show up2 h.1 68 3 (nI c) 68 3 = nI c from up2_s) (hc5) (by decide) dX2_pop_27 ?_
    exact j_iret C hrt hE dX2_pop_28 (⟨by dsimp only; rw [up2_n (by omega)], rfl⟩)
  · rw [hc] at c4; exact absurd ((nI_eq (b := 0) (by omega) (by omega)).mp c4) (by omega) -- stop
theorem m_wordAt (hw : jok w) (h2 : h.2.1 68 2 = some 69) {c : Nat} (hc5 : c < 500) : jM l w yX2_wordAt cX2_wordAt 2 (some .int) 0 [.ref (jad w 68), .int (nI c)] h (fun r h' => r = some (.int (h.1 69 c)) ∧ h' = h) := by
  refine jM_of (by decide) hw (Nat.le_of_ble_eq_true rfl) ?_
  intro X C hl hR hnL hrt hE
  have C : jC X w cX2_wordAt RX2 := C
  show J X w h 0 [(0, .ref (jad w 68)), (1, .int (nI c))] []
  refine k_iload_n C dX2_wordAt_0 rfl ?_
  refine j_if_lt C 20 dX2_wordAt_1 (by decide) (fun c1 => ?_) (fun c1 => ?_)
  · exact absurd c1 (nI_nlt (a := c) (b := 0) (by omega) (by omega)) -- stop
  · refine k_iload_n C dX2_wordAt_4 rfl ?_
    refine j_sipush (v := 500) C dX2_wordAt_5 (by decide) ?_
    refine j_icmp_ge C 20 dX2_wordAt_8 (by decide) (fun c8 => ?_) (fun c8 => ?_)
    · exact absurd c8 (nI_ge (a := c) (b := 500) (by omega) (by omega)) -- stop
    · refine k_aload_n C dX2_wordAt_11 rfl ?_
      refine j_getr C fX2_9 rfl (by first | decide | omega) (by first | assumption | rfl) (h2) dX2_wordAt_12 ?_
      refine k_iload_n C dX2_wordAt_15 rfl ?_
      refine j_iald C (by first | decide | omega) (by first | assumption | rfl) (rfl) (hc5) (by decide) dX2_wordAt_16 ?_
      refine j_goto C 21 dX2_wordAt_17 (by decide) ?_
      exact j_iret C hrt hE dX2_wordAt_21 (⟨rfl, rfl⟩)
theorem m_load (hw : jok w) (h2 : h.2.1 68 2 = some 69) (a b c d : Int32) : jM l w yX2_load cX2_load 5 none 0 [.ref (jad w 68), .int a, .int b, .int c, .int d] h (fun r h' => r = none ∧ h' = (up2 (up2 (up2 (up2 h.1 69 0 a) 69 1 b) 69 2 c) 69 3 d, h.2)) := by
  refine jM_of (by decide) hw (Nat.le_of_ble_eq_true rfl) ?_
  intro X C hl hR hnL hrt hE
  have C : jC X w cX2_load RX2 := C
  show J X w h 0 [(0, .ref (jad w 68)), (1, .int a), (2, .int b), (3, .int c), (4, .int d)] []
  refine k_aload_n C dX2_load_0 rfl ?_
  refine j_getr C fX2_9 rfl (by first | decide | omega) (by first | assumption | rfl) (h2) dX2_load_1 ?_
  refine j_iconst (v := 0) C dX2_load_4 (by decide) ?_
  refine k_iload_n C dX2_load_5 rfl ?_
  refine j_iast C (by first | decide | omega) (by first | assumption | rfl) (show (0 : Int32) = nI 0 from rfl) (by decide) (by decide) dX2_load_6 ?_
  refine k_aload_n C dX2_load_7 rfl ?_
  refine j_getr C fX2_9 rfl (by first | decide | omega) (by first | assumption | rfl) (h2) dX2_load_8 ?_
  refine j_iconst (v := 1) C dX2_load_11 (by decide) ?_
  refine k_iload_n C dX2_load_12 rfl ?_
  refine j_iast C (by first | decide | omega) (by first | assumption | rfl) (show (1 : Int32) = nI 1 from rfl) (by decide) (by decide) dX2_load_13 ?_
  refine k_aload_n C dX2_load_14 rfl ?_
  refine j_getr C fX2_9 rfl (by first | decide | omega) (by first | assumption | rfl) (h2) dX2_load_15 ?_
  refine j_iconst (v := 2) C dX2_load_18 (by decide) ?_
  refine k_iload_n C dX2_load_19 rfl ?_
  refine j_iast C (by first | decide | omega) (by first | assumption | rfl) (show (2 : Int32) = nI 2 from rfl) (by decide) (by decide) dX2_load_20 ?_
  refine k_aload_n C dX2_load_21 rfl ?_
  refine j_getr C fX2_9 rfl (by first | decide | omega) (by first | assumption | rfl) (h2) dX2_load_22 ?_
  refine j_iconst (v := 3) C dX2_load_25 (by decide) ?_
  refine k_iload C dX2_load_26 rfl ?_
  refine j_iast C (by first | decide | omega) (by first | assumption | rfl) (show (3 : Int32) = nI 3 from rfl) (by decide) (by decide) dX2_load_28 ?_
  exact j_vret C hrt hE dX2_load_29 (⟨rfl, rfl⟩)
end M1
