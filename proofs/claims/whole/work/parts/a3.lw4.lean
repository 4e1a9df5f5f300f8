/-! THE CONSTRUCTORS: small ones, units -/
section BB
variable {X : jX} {w : jW} {f : Nat → Nat → Int32} {g : Nat → Nat → Option Nat} {z : Nat → Nat → Int64} {N nc ns : Nat} {cc : ByteArray} {own : String} {pc : Nat} {lv : List (Nat × Value)} {r : List Value}
theorem bb_puti (C : jC X w cc own) (hw : jlin w) {index ci j k : Nat} {x : Int32} (F : jFl own index ci j) (hlk : Cond.fieldLink own index (jT ci j).1 (jT ci j).2.1 (jT ci j).2.2.1 ∈ wsL_law) (hin2 : (jXh X).name = "<init>") (hdecl : (jT ci j).1 = own) (hr : jty ci j = .int) (hk : k < N) (hc : jk k = .inl ci) (d : decode cc pc = .ok (.putfield index, 3)) (kk : JP X (jIB w (up2 f k j x, g, z) N) (jAb w) nc ns (pc + 3) lv r) : JP X (jIB w (f, g, z) N) (jAb w) nc ns pc lv (.int x :: .ref (jad w k) :: r) := b_puti C hw F hlk hin2 hdecl hr hk hc d kk
theorem bb_putr (C : jC X w cc own) (hw : jlin w) {index ci j k q : Nat} (F : jFl own index ci j) (hlk : Cond.fieldLink own index (jT ci j).1 (jT ci j).2.1 (jT ci j).2.2.1 ∈ wsL_law) (hin2 : (jXh X).name = "<init>") (hdecl : (jT ci j).1 = own) (hr : jref (jty ci j) = true) (hf : ∀ a, narrow (jty ci j) (.ref a) = .ref a ∧ fits (jty ci j) (.ref a) = true) (hk : k < N) (hc : jk k = .inl ci) (d : decode cc pc = .ok (.putfield index, 3)) (kk : JP X (jIB w (f, up2 g k j (some q), z) N) (jAb w) nc ns (pc + 3) lv r) : JP X (jIB w (f, g, z) N) (jAb w) nc ns pc lv (.ref (jad w q) :: .ref (jad w k) :: r) := b_putr C hw F hlk hin2 hdecl hr hf hk hc d kk
theorem bb_getr (C : jC X w cc own) {index ci j k q : Nat} (F : jFl own index ci j) (hr : jref (jty ci j) = true) (hk : k < N) (hc : jk k = .inl ci) (hv : g k j = some q) (d : decode cc pc = .ok (.getfield index, 3)) (kk : JP X (jIB w (f, g, z) N) (jAb w) nc ns (pc + 3) lv (.ref (jad w q) :: r)) : JP X (jIB w (f, g, z) N) (jAb w) nc ns pc lv (.ref (jad w k) :: r) := b_getr C F hr hk hc hv d kk
theorem bb_newa (C : jC X w cc own) (hw : jlin w) {atype : ArrayType} {t len : Nat} {n : Int32} (hc : jk N = .inr (t, len)) (ht : t < 6) (hd : defaultValue (newarray.typeOf atype) = .int 0) (hj : jarr w (f, g, z) t N = .inl (f N)) (hra : ∀ c, va_RA (jXs X) c (jaT t) → (jXs X).vm.findClass ("[" ++ (newarray.typeOf atype).toString) = some c) (hby : componentBytes (newarray.typeOf atype) ≤ 8) (hf1 : f N = fun _ => 0) (hn : n = nI len) (hlen : len < 2000) (h1 : Cond.arrayClass (newarray.typeOf atype) ∈ wsL_law) (hcs : nc + 1 ≤ (jXR X).cells ∧ ns + len ≤ (jXR X).slots) (d : decode cc pc = .ok (.newarray atype, 2)) {N' : Nat} (hN : N + 1 = N') (kk : JP X (jIB w (f, g, z) N') (jAb w) (nc + 1) (ns + len) (pc + 2) lv (.ref (jad w N) :: r)) : JP X (jIB w (f, g, z) N) (jAb w) nc ns pc lv (.int n :: r) := by
  subst hN
  exact b_newa C hw hc ht hd hj hra hby hf1 hn hlen h1 hcs d kk
theorem bb_aast (C : jC X w cc own) (hw : jlin w) {k n len t q ci : Nat} {i : Int32} {rc : vw_C} (ht : t < 6) (hk : k < N) (hc : jk k = .inr (t, len)) (hq : q < N) (hcq : jk q = .inl ci) (hcl : vwCl[ci]? = some rc) (hS0 : jaT t = .object rc.1) (hi : i = nI n) (hn : n < len) (hlen : len < 2 ^ 31) (d : decode cc pc = .ok (.aastore, 1)) (kk : JP X (jIB w (f, up2 g k n (some q), z) N) (jAb w) nc ns (pc + 1) lv r) : JP X (jIB w (f, g, z) N) (jAb w) nc ns pc lv (.ref (jad w q) :: .int i :: .ref (jad w k) :: r) := b_aast C hw ht hk hc hq hcq hcl hS0 hi hn hlen d kk
theorem bb_new (C : jC X w cc own) (hw : jlin w) {index ci : Nat} (hc : jk N = .inl ci) (hcl : jCl ci) (hci : ci < 6) (hf1 : f N = fun _ => 0) (hf2 : g N = fun _ => none) (h1 : Cond.classLink own index (jR ci) ∈ wsL_law) (h2 : Cond.instantiable (jR ci) (jN ci) ∈ wsL_law) (h3 : Cond.initialized (jR ci) ∈ wsL_law) (hcs : nc + 1 ≤ (jXR X).cells ∧ ns + jN ci ≤ (jXR X).slots) (d : decode cc pc = .ok (.new index, 3)) {N' : Nat} (hN : N + 1 = N') (kk : JP X (jIB w (f, g, z) N') (jAb w) (nc + 1) (ns + jN ci) (pc + 3) lv (.ref (jad w N) :: r)) : JP X (jIB w (f, g, z) N) (jAb w) nc ns pc lv r := by
  subst hN
  exact b_new (h := (f, g, z)) C hw hc hcl hci hf1 hf2 h1 h2 h3 hcs d kk
theorem bb_newq (C : jC X w cc own) (hw : jlin w) {index t len : Nat} {S : String} {n : Int32} (hc : jk N = .inr (t, len)) (ht : t < 6) (hS0 : jaT t = .object S) (hf2 : g N = fun _ => none) (hn : n = nI len) (hlen : len < 2000) (h1 : Cond.classLink own index S ∈ wsL_law) (hao : va_AO S (jXs X)) (hcs : nc + 1 ≤ (jXR X).cells ∧ ns + len ≤ (jXR X).slots) (d : decode cc pc = .ok (.anewarray index, 3)) {N' : Nat} (hN : N + 1 = N') (kk : JP X (jIB w (f, g, z) N') (jAb w) (nc + 1) (ns + len) (pc + 3) lv (.ref (jad w N) :: r)) : JP X (jIB w (f, g, z) N) (jAb w) nc ns pc lv (.int n :: r) := by
  subst hN
  exact b_newq (h := (f, g, z)) C hw hc ht hS0 hf2 hn hlen h1 hao hcs d kk
end BB
section CO
variable {l : Launch} {w : jW} {h : jH} {f : Nat → Nat → Int32} {g : Nat → Nat → Option Nat} {z : Nat → Nat → Int64} {N : Nat}
theorem i_Item (hw : jlin w) (k : Nat) : jI l w yX1_init cX1_init 1 1 0 0 [.ref (jad w k)] h N h N := by
  refine jI_of (by decide) rfl hw (Nat.le_of_ble_eq_true rfl) (fun X C hX hR hnL hrt hin hao hE => ?_)
  refine q_aload_n C dX1_init_0 rfl ?_
  refine b_objInit C (rin_3 _ (List.mem_of_getElem? (i := 7) rfl)) (Nat.le_of_ble_eq_true rfl) ⟨by rw [hR]; decide, by rw [hR]; decide⟩ dX1_init_1 ?_
  exact b_vret C hrt hE (Nat.le_refl _) (Nat.le_refl _) dX1_init_4
theorem i_Comp (hw : jlin w) (k : Nat) : jI l w yX0_init cX0_init 1 1 0 0 [.ref (jad w k)] h N h N := by
  refine jI_of (by decide) rfl hw (Nat.le_of_ble_eq_true rfl) (fun X C hX hR hnL hrt hin hao hE => ?_)
  refine q_aload_n C dX0_init_0 rfl ?_
  refine b_objInit C (rin_3 _ (List.mem_of_getElem? (i := 10) rfl)) (Nat.le_of_ble_eq_true rfl) ⟨by rw [hR]; decide, by rw [hR]; decide⟩ dX0_init_1 ?_
  exact b_vret C hrt hE (Nat.le_refl _) (Nat.le_refl _) dX0_init_4
theorem i_Mach (hw : jlin w) (x : Int32) (hf : f 69 = fun _ => 0) : jI l w yX2_init cX2_init 2 1 1 500 [.ref (jad w 68), .int x] (f, g, z) 69 (up2 f 68 0 x, up2 g 68 2 (some 69), z) 70 := by
  refine jI_of (by decide) rfl hw (Nat.le_of_ble_eq_true rfl) (fun X C hX hR hnL hrt hin hao hE => ?_)
  refine q_aload_n C dX2_init_0 rfl ?_
  refine b_objInit C (rin_3 _ (List.mem_of_getElem? (i := 13) rfl)) (Nat.le_of_ble_eq_true rfl) ⟨by rw [hR]; decide, by rw [hR]; decide⟩ dX2_init_1 ?_
  refine q_aload_n C dX2_init_4 rfl ?_
  refine p_sipush (v := 500) C dX2_init_5 (by decide) ?_
  refine bb_newa (N' := 70) (atype := .int) (t := 1) (len := 500) C hw (by first | assumption | rfl) (by decide) rfl rfl (fun _ h9 => h9) (by decide) (by first | assumption | ((repeat rw [up2_o (by first | decide | omega)]); first | exact (hfr _ (by first | decide | omega)).1)) rfl (by decide) (rin_3 _ (List.mem_of_getElem? (i := 1) rfl)) ⟨by rw [hR]; decide, by rw [hR]; decide⟩ dX2_init_8 rfl ?_
  refine bb_putr C hw fX2_9 (fX2_9.2.2.resolve_right (by decide +kernel)) hin rfl rfl (fun _ => ⟨rfl, rfl⟩) (by first | decide | omega) (by first | assumption | rfl) dX2_init_10 ?_
  refine q_aload_n C dX2_init_13 rfl ?_
  refine q_iload_n C dX2_init_14 rfl ?_
  refine bb_puti C hw fX2_15 (fX2_15.2.2.resolve_right (by decide +kernel)) hin rfl rfl (by first | decide | omega) (by first | assumption | rfl) dX2_init_15 ?_
  exact b_vret C hrt hE (by decide) (by decide) dX2_init_18
def gI (g : Nat → Nat → Option Nat) (b i : Nat) : Nat → Nat → Option Nat := fun k j => if k = b + 1 ∧ j < i then some (b + 3 + j) else g k j
theorem gI_0 (b : Nat) : gI g b 0 = g := by funext k j; simp [gI]
theorem gI_s (b i : Nat) : up2 (gI g b i) (b + 1) i (some (b + 3 + i)) = gI g b (i + 1) := by
  funext k j
  simp only [up2, gI]
  by_cases h1 : k = b + 1
  · by_cases h2 : j = i
    · subst h2; simp [h1]
    · have e : (j < i + 1) = (j < i) := by simp; omega
      simp [h1, h2, e]
  · simp [h1]
theorem gI_o {b i k : Nat} (hk : k ≠ b + 1) : gI g b i k = g k := by funext j; simp [gI, hk]
def gU (g : Nat → Nat → Option Nat) (b : Nat) : Nat → Nat → Option Nat := gI (up2 (up2 g b 2 (some (b + 1))) b 4 (some (b + 2))) b 6
theorem i_Unit (hw : jlin w) (u : Nat) (hu : u < 7) (hf : ∀ k, ub u < k → f k = (fun _ => 0) ∧ g k = fun _ => none) : jI l w yX3_init cX3_init 2 2 8 288 [.ref (jad w (ub u))] (f, g, z) (ub u + 1) (f, gU g (ub u), z) (ub u + 9) := by
  obtain ⟨hc0, hc1, hc2, hlt, hc3⟩ := jk_unit u hu
  generalize ub u = b at hf hc0 hc1 hc2 hlt hc3 ⊢
  refine jI_of (by decide) rfl hw (Nat.le_of_ble_eq_true rfl) (fun X C hX hR hnL hrt hin hao hE => ?_)
  have loop : ∀ n i, n + i = 6 → JP X (jIB w (f, gI (up2 (up2 g b 2 (some (b + 1))) b 4 (some (b + 2))) b i, z) (b + 3 + i)) (jAb w) (2 + i) (246 + 7 * i) 24 [(0, .ref (jad w b)), (1, .int (nI i))] [] := by
    intro n
    induction n with
    | zero =>
      intro i hi
      have hi6 : i = 6 := by omega
      subst hi6
      skip
      refine q_iload_n C dX3_init_24 rfl ?_
      refine p_bipush (v := 6) C dX3_init_25 (by decide) ?_
      refine p_icmp_ge C 49 dX3_init_27 (by decide) (fun c27 => ?_) (fun c27 => ?_)
      · exact b_vret C hrt hE (by decide) (by decide) dX3_init_49
      · exact absurd (by decide : (6 : Int32) ≤ nI 6) c27 -- stop
    | succ n ih =>
      intro i hi
      have hv : gI (up2 (up2 g b 2 (some (b + 1))) b 4 (some (b + 2))) b i b 2 = some (b + 1) := by rw [gI_o (by omega), up2_n (by omega), up2_s]
      have hci := hc3 i (by omega)
      skip
      refine q_iload_n C dX3_init_24 rfl ?_
      refine p_bipush (v := 6) C dX3_init_25 (by decide) ?_
      refine p_icmp_ge C 49 dX3_init_27 (by decide) (fun c27 => ?_) (fun c27 => ?_)
      · exact absurd c27 (nI_ge (a := i) (b := 6) (by omega) (by omega)) -- stop
      · refine q_aload_n C dX3_init_30 rfl ?_
        refine bb_getr C fX3_11 rfl (by first | decide | omega) (by first | assumption | rfl) (by assumption) dX3_init_31 ?_
        refine q_iload_n C dX3_init_34 rfl ?_
        refine b_new (ci := 1) C hw hci jCl1 (by decide) (hf _ (by omega)).1 (by show gI _ b i _ = _; rw [gI_o (by omega), up2_o (by omega), up2_o (by omega)]; exact (hf _ (by omega)).2) (rin_2 _ (List.mem_of_getElem? (i := 23) rfl)) (rin_3 _ (List.mem_of_getElem? (i := 3) rfl)) (rin_3 _ (List.mem_of_getElem? (i := 4) rfl)) ⟨by rw [hR]; show 2 + i + 1 ≤ 8; omega, by rw [hR]; show 246 + 7 * i + 7 ≤ 288; omega⟩ dX3_init_35 ?_
        refine p_dup C dX3_init_38 rfl ?_
        refine b_callI (As := []) (k := b + 3 + i) C hao nX3_21 rfl (i_Item hw (b + 3 + i)) rfl rfl (Nat.le_of_ble_eq_true rfl) ⟨by rw [hR]; decide, by rw [hR]; decide⟩ ⟨by rw [hR]; show 2 + i + 1 + 0 ≤ 8; omega, by rw [hR]; show 246 + 7 * i + 7 + 0 ≤ 288; omega⟩ dX3_init_39 ?_
        refine bb_aast (n := i) (len := 6) (t := 4) (ci := 1) C hw (by decide) (by omega) hc1 (by omega) hci rfl rfl rfl (by omega) (by decide) dX3_init_42 ?_
        refine q_iinc C dX3_init_43 rfl rfl (by rw [hnL]; decide) ?_
        rw [gI_s]
        refine p_goto C 24 dX3_init_46 (by decide) ?_
        have h9 := ih (i + 1) (by omega)
        have e9 : (nI i + Int32.ofInt 1 : Int32) = nI (i + 1) := by show nI i + nI 1 = _; rw [nI_add]
        rw [e9]
        exact h9
  skip
  refine q_aload_n C dX3_init_0 rfl ?_
  refine b_objInit C (rin_2 _ (List.mem_of_getElem? (i := 22) rfl)) (Nat.le_of_ble_eq_true rfl) ⟨by rw [hR]; decide, by rw [hR]; decide⟩ dX3_init_1 ?_
  refine q_aload_n C dX3_init_4 rfl ?_
  refine p_bipush (v := 6) C dX3_init_5 (by decide) ?_
  refine bb_newq (N' := b + 1 + 1) (t := 4) (len := 6) (S := "ModuleLinker$Item") C hw hc1 (by decide) rfl (hf _ (by omega)).2 rfl (by decide) (rin_2 _ (List.mem_of_getElem? (i := 23) rfl)) hao.2 ⟨by rw [hR]; decide, by rw [hR]; decide⟩ dX3_init_7 rfl ?_
  refine bb_putr C hw fX3_11 (fX3_11.2.2.resolve_right (by decide +kernel)) hin rfl rfl (fun _ => ⟨rfl, rfl⟩) (by first | decide | omega) (by first | assumption | rfl) dX3_init_10 ?_
  refine q_aload_n C dX3_init_13 rfl ?_
  refine p_sipush (v := 240) C dX3_init_14 (by decide) ?_
  refine bb_newa (N' := b + 1 + 1 + 1) (atype := .int) (t := 1) (len := 240) C hw (by first | assumption | rfl) (by decide) rfl rfl (fun _ h9 => h9) (by decide) ((hf _ (by omega)).1) rfl (by decide) (rin_3 _ (List.mem_of_getElem? (i := 1) rfl)) ⟨by rw [hR]; decide, by rw [hR]; decide⟩ dX3_init_17 rfl ?_
  refine bb_putr C hw fX3_17 (fX3_17.2.2.resolve_right (by decide +kernel)) hin rfl rfl (fun _ => ⟨rfl, rfl⟩) (by first | decide | omega) (by first | assumption | rfl) dX3_init_19 ?_
  refine p_iconst (v := 0) C dX3_init_22 (by decide) ?_
  refine q_istore_n C dX3_init_23 (by rw [hnL]; decide) ?_
  have h9 := loop 6 0 (by omega)
  rw [gI_0] at h9
  exact h9
end CO
