/-- the locals by lookup; a store in its place -/
def jlk : List (Nat × Value) → Nat → Option Value
  | [], _ => none
  | q :: l, k => bif Nat.beq q.1 k then some q.2 else jlk l k
theorem jlk_at : ∀ (lv : List (Nat × Value)) (i : Nat) (v : Value), jlk lv i = some v → ∃ q : Nat, lv[q]? = some (i, v)
  | [], i, v, h => by simp [jlk] at h
  | q :: l, i, v, h => by
    unfold jlk at h
    cases e : Nat.beq q.1 i with
    | true =>
      rw [e] at h
      have e1 := Nat.eq_of_beq_eq_true e
      have e2 : q.2 = v := by simpa using h
      exact ⟨0, by subst e1; subst e2; rfl⟩
    | false =>
      rw [e] at h
      obtain ⟨p, hp⟩ := jlk_at l i v (by simpa using h)
      exact ⟨p + 1, by simpa using hp⟩
theorem nbeq (x y : Nat) : Nat.beq x y = (x == y) := by
  cases h : Nat.beq x y with
  | true =>
    have := Nat.eq_of_beq_eq_true h
    subst this
    simp
  | false =>
    have := Nat.ne_of_beq_eq_false h
    simp [this]
def jrmv (i : Nat) (lv : List (Nat × Value)) : List (Nat × Value) := lv.filter (fun q => !(Nat.beq q.1 i) && !(Nat.beq (q.1 + 1) i && q.2.category == 2))
def jsv : List (Nat × Value) → Nat → Value → List (Nat × Value)
  | [], i, v => [(i, v)]
  | q :: l, i, v => bif Nat.beq q.1 i then (i, v) :: jrmv i l else bif (Nat.beq (q.1 + 1) i && q.2.category == 2) then jsv l i v else q :: jsv l i v
theorem jsv_in : ∀ (lv : List (Nat × Value)) (i : Nat) (v : Value), ∀ q ∈ jsv lv i v, q ∈ jst i v lv
  | [], i, v, q, h => by simp [jsv] at h; simp [jst, h]
  | p :: l, i, v, q, h => by
    have key : ∀ z ∈ jst i v l, z ∈ jst i v (p :: l) := by
      intro z hz
      simp only [jst, List.mem_cons, List.mem_filter] at hz ⊢
      rcases hz with hz | hz
      · exact Or.inl hz
      · exact Or.inr ⟨Or.inr hz.1, hz.2⟩
    unfold jsv at h
    cases e : Nat.beq p.1 i with
    | true =>
      rw [e] at h
      simp only [cond_true, List.mem_cons] at h
      rcases h with h | h
      · subst h; simp [jst]
      · refine key q ?_
        simp only [jst, List.mem_cons, List.mem_filter, jrmv] at h ⊢
        exact Or.inr ⟨h.1, by simpa only [nbeq] using h.2⟩
    | false =>
      rw [e] at h
      simp only [cond_false] at h
      cases e2 : (Nat.beq (p.1 + 1) i && p.2.category == 2) with
      | true =>
        rw [e2] at h
        exact key q (jsv_in l i v q h)
      | false =>
        rw [e2] at h
        simp only [cond_false, List.mem_cons] at h
        rcases h with h | h
        · subst h
          have a : (q.1 == i) = false := by rw [← nbeq]; exact e
          have b : (q.1 + 1 == i && q.2.category == 2) = false := by rw [← nbeq]; exact e2
          refine List.mem_cons_of_mem _ (List.mem_filter.mpr ⟨List.mem_cons_self, ?_⟩)
          rw [a, b]; rfl
        · exact key q (jsv_in l i v q h)
theorem lv_mono {ls : Array Slot} {nL : Nat} {l l' : List (Nat × Value)} (h : lv_has ls nL l) (hi : ∀ q ∈ l', q ∈ l) : lv_has ls nL l' := ⟨h.1, h.2.1, fun q hq => h.2.2 q (hi q hq)⟩
section JS
variable {X : jX} {w : jW} {h : jH} {cc : ByteArray} {own : String} {pc : Nat} {lv : List (Nat × Value)} {r : List Value}
theorem j_mono {lv' : List (Nat × Value)} (hi : ∀ q ∈ lv', q ∈ lv) (k : J X w h pc lv' r) : J X w h pc lv r := fun H locs ls hP hS hl => k H locs ls hP hS (lv_mono hl hi)
theorem k_iload_n (C : jC X w cc own) {i : Fin 4} {x : Int32} (d : decode cc pc = .ok (.iload_n i, 1)) (hq : jlk lv i = some (.int x)) (k : J X w h (pc + 1) lv (.int x :: r)) : J X w h pc lv r := by
  obtain ⟨q, hq⟩ := jlk_at _ _ _ hq
  exact j_iload_n C q d hq k
theorem k_iload (C : jC X w cc own) {i : Nat} {x : Int32} (d : decode cc pc = .ok (.iload i, 2)) (hq : jlk lv i = some (.int x)) (k : J X w h (pc + 2) lv (.int x :: r)) : J X w h pc lv r := by
  obtain ⟨q, hq⟩ := jlk_at _ _ _ hq
  exact j_iload C q d hq k
theorem k_aload_n (C : jC X w cc own) {i : Fin 4} {x : Nat} (d : decode cc pc = .ok (.aload_n i, 1)) (hq : jlk lv i = some (.ref x)) (k : J X w h (pc + 1) lv (.ref x :: r)) : J X w h pc lv r := by
  obtain ⟨q, hq⟩ := jlk_at _ _ _ hq
  exact j_aload_n C q d hq k
theorem k_aload (C : jC X w cc own) {i : Nat} {x : Nat} (d : decode cc pc = .ok (.aload i, 2)) (hq : jlk lv i = some (.ref x)) (k : J X w h (pc + 2) lv (.ref x :: r)) : J X w h pc lv r := by
  obtain ⟨q, hq⟩ := jlk_at _ _ _ hq
  exact j_aload C q d hq k
theorem k_aload_nN (C : jC X w cc own) {i : Fin 4} (d : decode cc pc = .ok (.aload_n i, 1)) (hq : jlk lv i = some .null) (k : J X w h (pc + 1) lv (.null :: r)) : J X w h pc lv r := by
  obtain ⟨q, hq⟩ := jlk_at _ _ _ hq
  exact j_aload_nN C q d hq k
theorem k_istore_n (C : jC X w cc own) {i : Fin 4} {x : Int32} (d : decode cc pc = .ok (.istore_n i, 1)) (hn : (i : Nat) < (jXc X).maxLocals) (k : J X w h (pc + 1) (jsv lv i (.int x)) r) : J X w h pc lv (.int x :: r) := j_istore_n C d hn rfl (j_mono (jsv_in _ _ _) k)
theorem k_istore (C : jC X w cc own) {i : Nat} {x : Int32} (d : decode cc pc = .ok (.istore i, 2)) (hn : i < (jXc X).maxLocals) (k : J X w h (pc + 2) (jsv lv i (.int x)) r) : J X w h pc lv (.int x :: r) := j_istore C d hn rfl (j_mono (jsv_in _ _ _) k)
theorem k_astore_n (C : jC X w cc own) {i : Fin 4} {x : Nat} (d : decode cc pc = .ok (.astore_n i, 1)) (hn : (i : Nat) < (jXc X).maxLocals) (k : J X w h (pc + 1) (jsv lv i (.ref x)) r) : J X w h pc lv (.ref x :: r) := j_astore_n C d hn rfl (j_mono (jsv_in _ _ _) k)
theorem k_astore (C : jC X w cc own) {i : Nat} {x : Nat} (d : decode cc pc = .ok (.astore i, 2)) (hn : i < (jXc X).maxLocals) (k : J X w h (pc + 2) (jsv lv i (.ref x)) r) : J X w h pc lv (.ref x :: r) := j_astore C d hn rfl (j_mono (jsv_in _ _ _) k)
theorem k_astore_nN (C : jC X w cc own) {i : Fin 4} (d : decode cc pc = .ok (.astore_n i, 1)) (hn : (i : Nat) < (jXc X).maxLocals) (k : J X w h (pc + 1) (jsv lv i .null) r) : J X w h pc lv (.null :: r) := j_astore_nN C d hn rfl (j_mono (jsv_in _ _ _) k)
theorem k_iinc (C : jC X w cc own) {i : Nat} {n : Int} {x v : Int32} (d : decode cc pc = .ok (.iinc i n, 3)) (hq : jlk lv i = some (.int x)) (hv : x + Int32.ofInt n = v) (hn : i < (jXc X).maxLocals) (k : J X w h (pc + 3) (jsv lv i (.int v)) r) : J X w h pc lv r := by
  obtain ⟨q, hq⟩ := jlk_at _ _ _ hq
  exact j_iinc C q d hq hv hn rfl (j_mono (jsv_in _ _ _) k)
theorem jroom {d d0 maxL : Nat} (hR : jXR X = jrm d) (hd : d0 + 1 ≤ d) (hm : maxL ≤ 21) : d0 + 1 ≤ (jXR X).frames ∧ 8 + (maxL + 11) + 40 * d0 ≤ (jXR X).locals := by
  rw [hR]
  refine ⟨hd, ?_⟩
  show _ ≤ 40 * d
  omega
theorem jeq {st st' : List Value} (he : st = st') (k : J X w h pc lv st') : J X w h pc lv st := he ▸ k
theorem jeqh {h' : jH} (he : h = h') (k : J X w h' pc lv r) : J X w h pc lv r := he ▸ k
def jcons (v : Option Value) (r : List Value) : List Value := match v with
  | none => r
  | some x => x :: r
theorem jcons_eq (v : Option Value) (r : List Value) : v.toList ++ r = jcons v r := by cases v <;> rfl
theorem k_callV (C : jC X w cc own) {index k ci n d0 : Nat} {y : MethodName} {bytes : ByteArray} {maxL : Nat} {ret : Option FieldType} {As st : List Value} {Po : Option Value → jH → Prop} (K : jCB own index y bytes maxL ret n ∧ Cond.instanceMethod y ∈ wsL_law ∧ Cond.selects (jR ci) y y ∈ wsL_law) (hM : jM (jXl X) w y bytes maxL ret d0 (.ref (jad w k) :: As) h Po) (hcl : vwCl[ci]? = some (jR ci, jT ci, jN ci)) (hk : k < 99) (hc : jk k = .inl ci) (hst : st = As.reverse ++ .ref (jad w k) :: r) (hn : As.length = n) (hr : (r.map fun v => v.category).sum ≤ 8) (hR : d0 + 1 ≤ (jXR X).frames ∧ 8 + (maxL + 11) + 40 * d0 ≤ (jXR X).locals) (d : decode cc pc = .ok (.invokevirtual index, 3))
    (kk : ∀ (v : Option Value) (h' : jH), Po v h' → J X w h' (pc + 3) lv (jcons v r)) : J X w h pc lv st := j_callV C K hM hcl hk hc hst hn hr hR d (fun v h' hp => by rw [jcons_eq]; exact kk v h' hp)
theorem k_callS (C : jC X w cc own) {index n d0 : Nat} {y : MethodName} {bytes : ByteArray} {maxL : Nat} {ret : Option FieldType} {As st : List Value} {Po : Option Value → jH → Prop} (K : jCB own index y bytes maxL ret n ∧ Cond.static y ∈ wsL_law) (hM : jM (jXl X) w y bytes maxL ret d0 As h Po) (hst : st = As.reverse ++ r) (hn : As.length = n) (hr : (r.map fun v => v.category).sum ≤ 8) (hR : d0 + 1 ≤ (jXR X).frames ∧ 8 + (maxL + 11) + 40 * d0 ≤ (jXR X).locals) (d : decode cc pc = .ok (.invokestatic index, 3))
    (kk : ∀ (v : Option Value) (h' : jH), Po v h' → J X w h' (pc + 3) lv (jcons v r)) : J X w h pc lv st := j_callS C K hM hst hn hr hR d (fun v h' hp => by rw [jcons_eq]; exact kk v h' hp)
theorem jM_mono {l : Launch} {y : MethodName} {nL : Nat} {ret : Option FieldType} {d : Nat} {As : List Value} {Po Po' : Option Value → jH → Prop} (hM : jM l w y cc nL ret d As h Po) (hi : ∀ v h', Po v h' → Po' v h') : jM l w y cc nL ret d As h Po' := by
  intro p e ha hc hk s m args below hf happ hP hK
  obtain ⟨k, o, h1, h2, h3, ⟨v, h', a1, a2, a3⟩, a4⟩ := hM p e ha hc hk s m args below hf happ hP hK
  exact ⟨k, o, h1, h2, h3, ⟨v, h', a1, hi v h' a2, a3⟩, a4⟩
end JS
