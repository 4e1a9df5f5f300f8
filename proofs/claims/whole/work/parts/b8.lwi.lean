/-! THE START OF THE LAW -/
theorem jK_of {s : State} {args : Array Value} (hts : ∀ v ∈ wsL_law, v.before args s = true) : ∃ D : va_G, ∀ (c : Nat) (q : vw_C), vwCl[c]? = some q → u_Kn s q.1 q.2.1 q.2.2 (D.1 c) (D.2 c) := by
  have key : ∀ (ci n : Nat), jCl ci → Cond.instantiable (jR ci) n ∈ wsL_law → ∃ (cC : ClassId) (iS : Nat → Nat), u_Kn s (jR ci) (jT ci) (jN ci) cC iS := fun ci n h1 h2 => u_known hts h1.2.1 (hts _ h2)
  have hex : ∀ ci : Nat, ∃ d : ClassId × (Nat → Nat), ci < 6 → u_Kn s (jR ci) (jT ci) (jN ci) d.1 d.2 := by
    intro ci
    by_cases hc : ci < 6
    · have : ∃ (cC : ClassId) (iS : Nat → Nat), u_Kn s (jR ci) (jT ci) (jN ci) cC iS := by
        rcases (show ci = 0 ∨ ci = 1 ∨ ci = 2 ∨ ci = 3 ∨ ci = 4 ∨ ci = 5 by omega) with rfl | rfl | rfl | rfl | rfl | rfl
        · exact key 0 9 jCl0 (rin_2 _ (List.mem_of_getElem? (i := 3) rfl))
        · exact key 1 7 jCl1 (rin_3 _ (List.mem_of_getElem? (i := 3) rfl))
        · exact key 2 15 jCl2 (rin_2 _ (List.mem_of_getElem? (i := 10) rfl))
        · exact key 3 5 jCl3 (rin_1 _ (List.mem_of_getElem? (i := 23) rfl))
        · exact key 4 11 jCl4 (rin_1 _ (List.mem_of_getElem? (i := 1) rfl))
        · exact key 5 51 jCl5 (rin_1 _ (List.mem_of_getElem? (i := 4) rfl))
      obtain ⟨a, b, h⟩ := this
      exact ⟨(a, b), fun _ => h⟩
    · obtain ⟨a, b, h⟩ := key 4 11 jCl4 (rin_1 _ (List.mem_of_getElem? (i := 1) rfl))
      exact ⟨(a, b), fun h => absurd h hc⟩
  obtain ⟨F, hF⟩ := Classical.skolem.mp hex
  refine ⟨(fun c => (F c).1, fun c => (F c).2), fun c q hq => ?_⟩
  have hc : c < 6 := (List.getElem?_eq_some_iff.mp hq).1
  have h9 := hF c hc
  rcases (show c = 0 ∨ c = 1 ∨ c = 2 ∨ c = 3 ∨ c = 4 ∨ c = 5 by omega) with rfl | rfl | rfl | rfl | rfl | rfl <;> (cases hq; exact h9)
theorem jA_of {s : State} {args : Array Value} (hts : ∀ v ∈ wsL_law, v.before args s = true) (hao : jAO s) : ∃ F : Nat → ClassId, ∀ t, t < 6 → ArrOfT s (F t) (jaT t) ∧ va_RA s (F t) (jaT t) := by
  have prim : ∀ ty : FieldType, (∀ C, ty ≠ .object C) → Cond.arrayClass ty ∈ wsL_law → ∃ cA, ArrOfT s cA ty ∧ va_RA s cA ty := by
    intro ty hty hm
    obtain ⟨cA, kA, comp, h1, h2, h3⟩ := Cond.arrayClass_spec (hts _ hm)
    refine ⟨cA, fun n z => ⟨fun k h => (by cases h), kA, h2, comp, h3⟩, ?_⟩
    cases ty with
    | object C => exact absurd rfl (hty C)
    | _ => exact h1
  have refs : ∀ C : String, va_AO C s → ∃ cA, ArrOfT s cA (.object C) ∧ va_RA s cA (.object C) := by
    intro C hC
    obtain ⟨comp, cA, kA, h1, _, h2, h3, h4⟩ := Cond.arrayOver_spec hC
    exact ⟨cA, fun n z => ⟨fun k h => (by cases h), kA, h2, comp, h3⟩, kA, comp, h2, h3, h1, h4⟩
  have hex : ∀ t : Nat, ∃ cA : ClassId, t < 6 → ArrOfT s cA (jaT t) ∧ va_RA s cA (jaT t) := by
    intro t
    by_cases hc : t < 6
    · have : ∃ cA, ArrOfT s cA (jaT t) ∧ va_RA s cA (jaT t) := by
        rcases (show t = 0 ∨ t = 1 ∨ t = 2 ∨ t = 3 ∨ t = 4 ∨ t = 5 by omega) with rfl | rfl | rfl | rfl | rfl | rfl
        · exact prim .char (fun _ h => by cases h) (rin_1 _ (List.mem_of_getElem? (i := 17) rfl))
        · exact prim .int (fun _ h => by cases h) (rin_3 _ (List.mem_of_getElem? (i := 1) rfl))
        · exact prim .boolean (fun _ h => by cases h) (rin_1 _ (List.mem_of_getElem? (i := 21) rfl))
        · exact refs _ hao.1
        · exact refs _ hao.2
        · exact prim .long (fun _ h => by cases h) (rin_1 _ (List.mem_of_getElem? (i := 6) rfl))
      obtain ⟨a, h⟩ := this
      exact ⟨a, fun _ => h⟩
    · obtain ⟨a, h⟩ := prim .long (fun _ h => by cases h) (rin_1 _ (List.mem_of_getElem? (i := 6) rfl))
      exact ⟨a, fun h => absurd h hc⟩
  exact Classical.skolem.mp hex
theorem law_start {p : Program} {e : Env} {s : State} {m : MethodId} {below : List Frame} {meth : Method} {c : Code} (l : Launch) (hl9 : l.stackTraces = false) {b L : Nat} {xs : Nat → Int32} (hin : ∀ v ∈ wsL_law, v ∈ lw_tbl) (hL : L ≤ 4097) (C0 : lw_At p s m meth c b L xs) : W p l e room_1 s m #[Value.ref b] below meth c s.heap [] 0 0 (lw_Z below #[Value.ref b] s) (entryFrame m ([Value.ref b] : List Value).toArray 7) := by
  obtain ⟨hx, hb, hr, hml, hown, htb, hX, hbl, hlk, hgv⟩ := C0
  have hts : ∀ v ∈ wsL_law, v.before #[Value.ref b] s = true := fun v hv => htb v (hin v hv)
  have hfl := flat_of_before _ hgv
  have hao : jAO s := ⟨va_AO.of (htb _ jAO_in.1), va_AO.of (htb _ jAO_in.2)⟩
  have hN : jNok s := ⟨fun q hq => va_Nw.of rfl (htb _ (jNF_in q hq)), fun q hq => va_Nw.of rfl (htb _ (jNM_in q hq))⟩
  have hNK : jNK s := by
    intro q hq
    simp only [jNcs, List.mem_cons, List.not_mem_nil, or_false] at hq
    rcases hq with rfl | rfl | rfl | rfl <;> exact va_Nc.of (args := #[Value.ref b]) (hfl _ (by decide +kernel))
  have hXA : jXA (fun q => s.heap.size ≤ q) s := ⟨⟨fun E hE => va_Nw.of rfl (htb _ (jEX_in E hE)), fun x hx => va_Nw.of rfl (htb _ (jDX_in x hx))⟩, vx_Zqof (htb _ jST_in.1) (htb _ jST_in.2.2) (hfl _ (by decide +kernel)) (fun a h1 h2 => by omega), vx_Zqof (htb _ jST_in.2.1) (htb _ jST_in.2.2) (hfl _ (by decide +kernel)) (fun a h1 h2 => by omega)⟩
  obtain ⟨D, hD⟩ := jK_of hts
  obtain ⟨F, hF⟩ := jA_of hts hao
  have hlv := lv_entry [.ref b] (n := 7) (Nat.le_of_ble_eq_true rfl)
  rw [lg_entry_eq]
  generalize (lg_sl [.ref b] ++ List.replicate (7 - (lg_sl [.ref b]).length) Slot.unset).toArray = ls at hlv ⊢
  have hK : va_K D vwCl (jtys (D, F, fun k => s.heap.size + k)) s := by
    refine ⟨hD, fun k q hq => ?_⟩
    have hk : k < 6 := by
      have := (List.getElem?_eq_some_iff.mp hq).1
      simpa [jtys] using this
    rw [jtys_at _ hk] at hq
    cases hq
    exact hF k hk
  have hw : jlin (D, F, fun k => s.heap.size + k) := fun k => rfl
  have Z : LC (p, l, e, room_1, s, m, #[Value.ref b], below, meth, c, lw_Z below #[Value.ref b] s) (D, F, fun k => s.heap.size + k) b L xs := ⟨⟨hx, hb, hown, hts, hK, hN, hw.ok, hlk⟩, hw, rfl, hl9, hXA, hNK, hX, hbl, fun h9 => by have h8 : s.heap.size ≤ b := h9; omega, hml, hL⟩
  have key := law_begin Z hao (fun nc ns i h h1 h2 => by
    refine p_iconst (v := 1) Z.1 dL_law_571 (by decide) ?_
    intro H locs ls hP hS hl
    refine va_forget (fun q hq => ?_) (W.widen h1 h2 (lw_ret hx hb hr hlk dL_law_572))
    exact hS.2.2 q hq)
  exact key s.heap [] ls ⟨fun k q hq => (by simp [jwsN] at hq), rfl⟩ va_S.rf (by show lv_has ls c.maxLocals _; rw [hml]; exact hlv)
