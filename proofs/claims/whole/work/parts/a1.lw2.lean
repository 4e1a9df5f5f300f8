/-! THE GROWING WORLD: the constructors make the cells one behind the other -/
def jwsN (w : jW) (h : jH) (N : Nat) : va_W := (List.range N).map fun k => (jad w k, jcel w h k)
theorem jwsN_at (w : jW) (h : jH) {k N : Nat} (hk : k < N) : (jwsN w h N)[k]? = some (jad w k, jcel w h k) := by simp [jwsN, hk]
theorem jwsN_s (w : jW) (h : jH) (N : Nat) : jwsN w h (N + 1) = jwsN w h N ++ [(jad w N, jcel w h N)] := by simp [jwsN, List.range_succ]
theorem jwsN_set (w : jW) (h h' : jH) (N k : Nat) (E : va_E) (hE : jcel w h' k = E) (ho : ∀ i, i ≠ k → jcel w h' i = jcel w h i) : (jwsN w h N).set k (jad w k, E) = jwsN w h' N := by
  unfold jwsN
  refine jset N k _ _ _ ?_ ?_
  · rw [hE]
  · intro i hi; rw [ho i hi]
def jIB (w : jW) (h : jH) (N : Nat) : Heap → Prop := fun H => va_P w.1 vwCl (jwsN w h N) H ∧ H.size = jad w N
def jAb (w : jW) : Nat → Prop := fun q => jad w 0 ≤ q
def jlin (w : jW) : Prop := ∀ k, jad w k = jad w 0 + k
theorem jlin.ok {w : jW} (hw : jlin w) : jok w := fun i j _ _ e => by
  rw [hw i, hw j] at e
  omega
theorem jDN {w : jW} (hw : jlin w) (h : jH) (N : Nat) : va_D (jAb w) (jwsN w h N) := by
  have key : ∀ (k : Nat) (q : Nat × va_E), (jwsN w h N)[k]? = some q → q.1 = jad w k := by
    intro k q hq
    by_cases hk : k < N
    · rw [jwsN_at w h hk] at hq; cases hq; rfl
    · exfalso
      have := (List.getElem?_eq_some_iff.mp hq).1
      simp [jwsN] at this
      omega
  refine ⟨fun i j p q hi hj e => ?_, fun k q hq => ?_⟩
  · have e1 := key i p hi
    have e2 := key j q hj
    have e3 : jad w i = jad w j := by rw [← e1, ← e2, e]
    rw [hw i, hw j] at e3
    omega
  · show jad w 0 ≤ q.1
    rw [key k q hq, hw k]
    omega
theorem jIB_s {w : jW} {h : jH} {N : Nat} {H H1 : Heap} (hP : jIB w h N H) (hw : jlin w) (z : H1.size = H.size + 1) (o : ∀ q : Nat, q < H.size → H1[q]? = H[q]?) (hn : va_at w.1 vwCl (jad w N, jcel w h N) H1) : jIB w h (N + 1) H1 := by
  refine ⟨?_, by rw [z, hP.2, hw (N + 1), hw N]; omega⟩
  rw [jwsN_s]
  refine va_P.app (hP.1.kept fun k x hx => o x.1 ((hP.1 k x hx).lt)) ?_
  intro k q hq
  have hz := (List.getElem?_eq_some_iff.mp hq).1
  have hk0 : k = 0 := by simpa using hz
  subst hk0
  cases hq
  exact hn
def jAO (U : State) : Prop := va_AO "ModuleLinker$Unit" U ∧ va_AO "ModuleLinker$Item" U
theorem jdf : ∀ ci, ci < 6 → ∀ j, j < jN ci → defaultValue (jty ci j) = if jref (jty ci j) then .null else .int 0 := by decide
section JB
variable {X : jX} {w : jW} {h : jH} {N nc ns : Nat} {cc : ByteArray} {own : String} {pc : Nat} {lv : List (Nat × Value)} {r : List Value}
theorem b_S {H H1 : Heap} {locs : List Loc} (hS : va_S (jAb w) (jXs X).heap H locs) (z : H1.size = H.size + 1) (o : ∀ q : Nat, q < H.size → H1[q]? = H[q]?) : va_S (jAb w) (jXs X).heap H1 locs := ⟨Nat.le_trans hS.1 (by omega), fun q h1 h2 => (o q (Nat.lt_of_lt_of_le h1 hS.1)).trans (hS.2.1 q h1 h2), hS.2.2⟩
theorem b_new (C : jC X w cc own) (hw : jlin w) {index ci : Nat} (hc : jk N = .inl ci) (hcl : jCl ci) (hci : ci < 6) (hf1 : h.1 N = fun _ => 0) (hf2 : h.2.1 N = fun _ => none) (h1 : Cond.classLink own index (jR ci) ∈ wsL_law) (h2 : Cond.instantiable (jR ci) (jN ci) ∈ wsL_law) (h3 : Cond.initialized (jR ci) ∈ wsL_law) (hcs : nc + 1 ≤ (jXR X).cells ∧ ns + jN ci ≤ (jXR X).slots) (d : decode cc pc = .ok (.new index, 3)) (kk : JP X (jIB w h (N + 1)) (jAb w) (nc + 1) (ns + jN ci) (pc + 3) lv (.ref (jad w N) :: r)) : JP X (jIB w h N) (jAb w) nc ns pc lv r := by
  intro H locs ls hP hS hl
  obtain ⟨hcv, hin, hty, hnm⟩ := hcl
  have hKn := C.2.2.2.2.1.1 ci _ hcv
  refine W.newcK C.1 C.2.1 C.2.2.1 (C.2.2.2.1 _ h1) (C.2.2.2.1 _ h2) (C.2.2.2.1 _ h3) rfl d hcs.1 hcs.2 hKn.2.1 rfl fun H1 kC hkC e1 z1 o1 => ?_
  have hz := hP.2
  have hb : va_at w.1 vwCl (jad w N, jcel w h N) H1 := by
    rw [jcel_o hc]
    refine ⟨_, hcv, ?_⟩
    show t_OB (jad w N) _ _ _ _ _
    rw [← hz]
    refine (u_born (jty ci) C.2.2.2.1 hin hKn hkC e1 hty).to (fun j hj => ?_)
    rw [jdf ci hci j hj]
    have h8 := jfs_at (w := w) (h := h) (ci := ci) (k := N) hj
    rw [hf1, hf2] at h8
    show _ = (jfs w h ci N).getD j Value.null
    rw [List.getD_eq_getElem?_getD, h8]
    split <;> rfl
  have k1 := kk H1 locs ls (jIB_s hP hw z1 o1 hb) (b_S hS z1 o1) hl
  rw [← hz] at k1
  exact k1
theorem b_newa (C : jC X w cc own) (hw : jlin w) {atype : ArrayType} {t len : Nat} {n : Int32} (hc : jk N = .inr (t, len)) (ht : t < 6) (hd : defaultValue (newarray.typeOf atype) = .int 0) (hj : jarr w h t N = .inl (h.1 N)) (hra : ∀ c, va_RA (jXs X) c (jaT t) → (jXs X).vm.findClass ("[" ++ (newarray.typeOf atype).toString) = some c) (hby : componentBytes (newarray.typeOf atype) ≤ 8) (hf1 : h.1 N = fun _ => 0) (hn : n = nI len) (hlen : len < 2000) (h1 : Cond.arrayClass (newarray.typeOf atype) ∈ wsL_law) (hcs : nc + 1 ≤ (jXR X).cells ∧ ns + len ≤ (jXR X).slots) (d : decode cc pc = .ok (.newarray atype, 2)) (kk : JP X (jIB w h (N + 1)) (jAb w) (nc + 1) (ns + len) (pc + 2) lv (.ref (jad w N) :: r)) : JP X (jIB w h N) (jAb w) nc ns pc lv (.int n :: r) := by
  intro H locs ls hP hS hl
  subst hn
  have hneg := (vp_in_nI (n := 0) (show 0 < 1 by decide) (show 1 < 2 ^ 31 by decide))
  refine va_newaK (N := len) C.1 C.2.1 (C.2.2.2.1 _ h1) rfl d rfl (fun hlt => (vp_in_nI (show len < len + 1 by omega) (show len + 1 < 2 ^ 31 by omega)) (Or.inl hlt)) (nI_clamp (by omega)) (Nat.le_trans (Nat.mul_le_mul (Nat.le_of_lt hlen) hby) (by decide)) hcs.1 hcs.2 rfl fun H1 cA e1 z1 o1 hAr hNm => ?_
  have hz := hP.2
  have hcA : w.2.1 t = cA := by
    have h9 := hra _ (C.2.2.2.2.1.2 t _ (jtys_at w ht)).2
    exact Option.some.inj (h9.symm.trans hNm)
  have hb : va_at w.1 vwCl (jad w N, jcel w h N) H1 := by
    rw [jcel_a hc, hj, hf1]
    show H1[jad w N]? = some (vp_cell (w.2.1 t) (len, .inl fun _ => 0))
    rw [← hz, vp_cell_i, hcA, e1, hd]
  have k1 := kk H1 locs ls (jIB_s hP hw z1 o1 hb) (b_S hS z1 o1) hl
  rw [← hz] at k1
  exact k1
theorem b_newl (C : jC X w cc own) (hw : jlin w) {len : Nat} {n : Int32} (hc : jk N = .inr (5, len)) (hf3 : h.2.2 N = fun _ => 0) (hn : n = nI len) (hlen : len < 2000) (h1 : Cond.arrayClass (newarray.typeOf .long) ∈ wsL_law) (hcs : nc + 1 ≤ (jXR X).cells ∧ ns + len ≤ (jXR X).slots) (d : decode cc pc = .ok (.newarray .long, 2)) (kk : JP X (jIB w h (N + 1)) (jAb w) (nc + 1) (ns + len) (pc + 2) lv (.ref (jad w N) :: r)) : JP X (jIB w h N) (jAb w) nc ns pc lv (.int n :: r) := by
  intro H locs ls hP hS hl
  subst hn
  refine va_newaK (N := len) C.1 C.2.1 (C.2.2.2.1 _ h1) rfl d rfl (fun hlt => (vp_in_nI (show len < len + 1 by omega) (show len + 1 < 2 ^ 31 by omega)) (Or.inl hlt)) (nI_clamp (by omega)) (Nat.le_trans (Nat.mul_le_mul (Nat.le_of_lt hlen) (show componentBytes (newarray.typeOf .long) ≤ 8 by decide)) (by decide)) hcs.1 hcs.2 rfl fun H1 cA e1 z1 o1 hAr hNm => ?_
  have hz := hP.2
  have hcA : w.2.1 5 = cA := by
    have h9 : (jXs X).vm.findClass ("[" ++ FieldType.long.toString) = some (w.2.1 5) := (C.2.2.2.2.1.2 5 _ (jtys_at w (t := 5) (by decide))).2
    exact Option.some.inj (h9.symm.trans hNm)
  have hb : va_at w.1 vwCl (jad w N, jcel w h N) H1 := by
    rw [jcel_a hc]
    show H1[jad w N]? = some (vp_cell (w.2.1 5) (len, .inr (.inl (h.2.2 N))))
    rw [← hz, vp_cell_l, hcA, hf3, e1]
    rfl
  have k1 := kk H1 locs ls (jIB_s hP hw z1 o1 hb) (b_S hS z1 o1) hl
  rw [← hz] at k1
  exact k1
theorem b_newq (C : jC X w cc own) (hw : jlin w) {index t len : Nat} {S : String} {n : Int32} (hc : jk N = .inr (t, len)) (ht : t < 6) (hS0 : jaT t = .object S) (hf2 : h.2.1 N = fun _ => none) (hn : n = nI len) (hlen : len < 2000) (h1 : Cond.classLink own index S ∈ wsL_law) (hao : va_AO S (jXs X)) (hcs : nc + 1 ≤ (jXR X).cells ∧ ns + len ≤ (jXR X).slots) (d : decode cc pc = .ok (.anewarray index, 3)) (kk : JP X (jIB w h (N + 1)) (jAb w) (nc + 1) (ns + len) (pc + 3) lv (.ref (jad w N) :: r)) : JP X (jIB w h N) (jAb w) nc ns pc lv (.int n :: r) := by
  intro H locs ls hP hS hl
  subst hn
  have hcl : (nI len).toNatClampNeg = len := nI_clamp (by omega)
  refine W.anew C.1 C.2.1 C.2.2.1 (C.2.2.2.1 _ h1) (va_AO.use hao) rfl d rfl (fun hlt => (vp_in_nI (show len < len + 1 by omega) (show len + 1 < 2 ^ 31 by omega)) (Or.inl hlt)) (by rw [hcl]; omega) hcs.1 (by rw [hcl]; exact hcs.2) fun cA kA comp f1 f2 f3 f4 => ?_
  rw [hcl]
  generalize hH1 : H.push ({ cls := cA, slots := Array.replicate len .null, vm := .none } : Cell) = H1
  have z1 : H1.size = H.size + 1 := by rw [← hH1, Array.size_push]
  have e1 : H1[H.size]? = some (arrV cA len (fun _ => .null)) := by rw [← hH1, Array.getElem?_push_size, ← arrV_new]
  have o1 : ∀ q : Nat, q < H.size → H1[q]? = H[q]? := fun q hq => by rw [← hH1, Array.getElem?_push, if_neg (Nat.ne_of_lt hq)]
  have hz := hP.2
  have hcA : w.2.1 t = cA := by
    have h8 := (C.2.2.2.2.1.2 t _ (jtys_at w ht)).2
    rw [hS0] at h8
    obtain ⟨_, _, _, _, _, h9⟩ := h8
    exact Option.some.inj (h9.symm.trans f1)
  have ha : jarr w h t N = .inr (.inr (.inr (.inr fun j => (h.2.1 N j).map (jad w)))) := by simp [jarr, hS0]
  have hb : va_at w.1 vwCl (jad w N, jcel w h N) H1 := by
    rw [jcel_a hc, ha, hf2]
    show H1[jad w N]? = some (vp_cell (w.2.1 t) (len, .inr (.inr (.inr (.inr fun _ => none)))))
    rw [← hz, vp_cell_q, hcA, e1]
    rfl
  have k1 := kk H1 locs ls (jIB_s hP hw z1 o1 hb) (b_S hS z1 o1) hl
  rw [← hz] at k1
  exact k1
theorem b_getr (C : jC X w cc own) {index ci j k q : Nat} (F : jFl own index ci j) (hr : jref (jty ci j) = true) (hk : k < N) (hc : jk k = .inl ci) (hv : h.2.1 k j = some q) (d : decode cc pc = .ok (.getfield index, 3)) (kk : JP X (jIB w h N) (jAb w) nc ns (pc + 3) lv (.ref (jad w q) :: r)) : JP X (jIB w h N) (jAb w) nc ns pc lv (.ref (jad w k) :: r) := by
  intro H locs ls hP hS hl
  obtain ⟨⟨hcl, hin, hty, hnm⟩, hj, hlk⟩ := F
  have he : (jwsN w h N)[k]? = some (jad w k, .inr (ci, jfs w h ci k)) := by rw [jwsN_at w h hk, jcel_o hc]
  have hv' : (jfs w h ci k)[j]? = some (.ref (jad w q)) := by rw [jfs_at hj, hr, hv]; rfl
  rcases hlk with hlk | hlk
  · exact va_get C.1 C.2.1 C.2.2.2.1 hin C.2.2.1 C.2.2.2.2.1 hP.1 k he hcl j hj (C.2.2.2.1 _ hlk) (fun _ h9 => h9) hv' d (kk H locs ls hP hS hl)
  · exact va_getN C.1 C.2.1 C.2.2.2.1 hin C.2.2.1 C.2.2.2.2.1 hP.1 k he hcl j hj (va_Nw.use rfl (C.2.2.2.2.2.1.1 _ hlk)) (fun _ h9 => h9) hv' d (kk H locs ls hP hS hl)
theorem b_put (C : jC X w cc own) (hw : jlin w) {index ci j k : Nat} {v : Value} {h' : jH} (F : jFl own index ci j) (hin2 : (jXh X).name = "<init>") (hdecl : (jT ci j).1 = own) (hk : k < N) (hc : jk k = .inl ci) (hn : narrow (jty ci j) v = v) (hf : fits (jty ci j) v = true) (he1 : (jfs w h ci k).set j v = jfs w h' ci k) (he2 : ∀ i, i ≠ k → jcel w h' i = jcel w h i) (hlk : Cond.fieldLink own index (jT ci j).1 (jT ci j).2.1 (jT ci j).2.2.1 ∈ wsL_law) (d : decode cc pc = .ok (.putfield index, 3)) (kk : JP X (jIB w h' N) (jAb w) nc ns (pc + 3) lv r) : JP X (jIB w h N) (jAb w) nc ns pc lv (v :: .ref (jad w k) :: r) := by
  intro H locs ls hP hS hl
  obtain ⟨⟨hcl, hin, hty, hnm⟩, hj, -⟩ := F
  have he : (jwsN w h N)[k]? = some (jad w k, .inr (ci, jfs w h ci k)) := by rw [jwsN_at w h hk, jcel_o hc]
  have hs : (jwsN w h N).set k (jad w k, .inr (ci, (jfs w h ci k).set j v)) = jwsN w h' N := jwsN_set w h h' N k _ (by rw [jcel_o hc, he1]) he2
  have hlen : j < (jfs w h ci k).length := by rw [jfs_len]; exact hj
  have hD := jDN hw h N
  have hts := C.2.2.2.1
  have hK := C.2.2.2.2.1
  have hap := va_apart (own := own) hts hin (jty ci) hty hnm hK hcl
  obtain ⟨r9, h1, cell, q1, q2, q3, q4⟩ := hP.1 k _ he
  have hr : r9 = (jR ci, jT ci, jN ci) := Option.some.inj (h1.symm.trans hcl)
  subst hr
  obtain ⟨hSl, hfc, kC, hkC, hkind⟩ := hK.1 ci _ hcl
  obtain ⟨cf, kf, fi, f, hi, hsl⟩ := hSl j hj
  have hst := (u_facts hfc hkC (u_lays hts hin hj) hi).1
  have hlay := hts _ (hin _ (u_in_lay hj))
  have fin : ∀ (H1 : Heap), va_at w.1 vwCl (jad w k, .inr (ci, (jfs w h ci k).set j v)) H1 → H1.size = H.size → (∀ q : Nat, q ≠ jad w k → H1[q]? = H[q]?) → ∀ z, W (jXp X) (jXl X) (jXe X) (jXR X) (jXs X) (jXm X) (jXa X) (jXb X) (jXh X) (jXc X) H1 (locs ++ [⟨jad w k, z⟩]) nc ns (jXQ X) (F0 (jXm X) (pc + 3) ls r) := by
    intro H1 h7 e2 e3 z
    refine kk H1 _ ls ⟨?_, by rw [e2]; exact hP.2⟩ (hS.put e2 e3 (hD.2 k _ he)) hl
    rw [← hs]
    exact hP.1.set hD he h7 e3
  by_cases hfin : (jT ci j).2.2.2 = true
  · unfold u_lay at hlay
    rw [if_pos hfin] at hlay
    have hcf : (jXm X).cls = cf := by
      obtain ⟨_, _, c', _, _, _, -, -, hf', -, -, -, hown2, -⟩ := Cond.laysFinal_spec hlay
      have e1 : c' = cf := by have := hi.symm.trans hf'; simp at this; exact this.1.symm
      rw [hdecl] at hown2
      rw [← e1]; exact Option.some.inj (C.2.2.1.symm.trans hown2)
    have h6 := u_fits hfc hkC hkind (Or.inr hlay) hi (hty j hj) hn hf
    refine W.putFinK C.1 C.2.1 C.2.2.1 (hts _ hlk) hi hst hcf hin2 (by rw [q2]; exact h6) q1 q3 (by rw [hsl]; exact k2_hasslot (q4 j hj)) rfl rfl d fun H' e1 e2 e3 => ?_
    rw [hsl] at e1 ⊢
    exact fin H' ⟨_, hcl, t_OB.to (V := updV (vp_V (jfs w h ci k)) j v) ⟨_, e1, q2, q3, t_set q4 hap hj v⟩ (fun j _ => vp_updV_set hlen v j)⟩ e2 e3 _
  · unfold u_lay at hlay
    rw [if_neg hfin] at hlay
    have h6 := u_store hfc hkC hkind hlay hi (hty j hj) hn hf
    refine W.putK C.1 C.2.1 (f := f) ⟨C.2.2.1, hts _ hlk, ⟨_, _, _, hi⟩, hst⟩ (by rw [q2]; exact h6) q1 q3 (by rw [hsl]; exact k2_hasslot (q4 j hj)) rfl rfl d fun H' e1 e2 e3 => ?_
    rw [hsl] at e1 ⊢
    exact fin H' ⟨_, hcl, t_OB.to (V := updV (vp_V (jfs w h ci k)) j v) ⟨_, e1, q2, q3, t_set q4 hap hj v⟩ (fun j _ => vp_updV_set hlen v j)⟩ e2 e3 _
theorem b_puti (C : jC X w cc own) (hw : jlin w) {index ci j k : Nat} {x : Int32} (F : jFl own index ci j) (hlk : Cond.fieldLink own index (jT ci j).1 (jT ci j).2.1 (jT ci j).2.2.1 ∈ wsL_law) (hin2 : (jXh X).name = "<init>") (hdecl : (jT ci j).1 = own) (hr : jty ci j = .int) (hk : k < N) (hc : jk k = .inl ci) (d : decode cc pc = .ok (.putfield index, 3)) (kk : JP X (jIB w (up2 h.1 k j x, h.2) N) (jAb w) nc ns (pc + 3) lv r) : JP X (jIB w h N) (jAb w) nc ns pc lv (.int x :: .ref (jad w k) :: r) :=
  b_put C hw F hin2 hdecl hk hc (by rw [hr]; rfl) (by rw [hr]; rfl) (jfs_i (by rw [hr]; rfl)) (fun i hi => jcel_i hi) hlk d kk
theorem b_putr (C : jC X w cc own) (hw : jlin w) {index ci j k q : Nat} (F : jFl own index ci j) (hlk : Cond.fieldLink own index (jT ci j).1 (jT ci j).2.1 (jT ci j).2.2.1 ∈ wsL_law) (hin2 : (jXh X).name = "<init>") (hdecl : (jT ci j).1 = own) (hr : jref (jty ci j) = true) (hf : ∀ a, narrow (jty ci j) (.ref a) = .ref a ∧ fits (jty ci j) (.ref a) = true) (hk : k < N) (hc : jk k = .inl ci) (d : decode cc pc = .ok (.putfield index, 3)) (kk : JP X (jIB w (h.1, up2 h.2.1 k j (some q), h.2.2) N) (jAb w) nc ns (pc + 3) lv r) : JP X (jIB w h N) (jAb w) nc ns pc lv (.ref (jad w q) :: .ref (jad w k) :: r) :=
  b_put C hw F hin2 hdecl hk hc (hf _).1 (hf _).2 (jfs_r (x := some q) hr) (fun i hi => jcel_r hi) hlk d kk
theorem b_aast (C : jC X w cc own) (hw : jlin w) {k n len t q ci : Nat} {i : Int32} {rc : vw_C} (ht : t < 6) (hk : k < N) (hc : jk k = .inr (t, len)) (hq : q < N) (hcq : jk q = .inl ci) (hcl : vwCl[ci]? = some rc) (hS0 : jaT t = .object rc.1) (hi : i = nI n) (hn : n < len) (hlen : len < 2 ^ 31) (d : decode cc pc = .ok (.aastore, 1)) (kk : JP X (jIB w (h.1, up2 h.2.1 k n (some q), h.2.2) N) (jAb w) nc ns (pc + 1) lv r) : JP X (jIB w h N) (jAb w) nc ns pc lv (.ref (jad w q) :: .int i :: .ref (jad w k) :: r) := by
  intro H locs ls hP hS hl
  subst hi
  have ha : jarr w h t k = .inr (.inr (.inr (.inr fun j => (h.2.1 k j).map (jad w)))) := by simp [jarr, hS0]
  have he : (jwsN w h N)[k]? = some (jad w k, .inl (w.2.1 t, len, .inr (.inr (.inr (.inr fun j => (h.2.1 k j).map (jad w)))))) := by rw [jwsN_at w h hk, jcel_a hc, ha]
  have hv : (jwsN w h N)[q]? = some (jad w q, .inr (ci, jfs w h ci q)) := by rw [jwsN_at w h hq, jcel_o hcq]
  have hD := jDN hw h N
  have hK := C.2.2.2.2.1
  have hin := vp_in_nI hn hlen
  have hclamp : (nI n).toNatClampNeg = n := nI_clamp (by omega)
  have h0 : ¬ nI n < 0 := fun q => hin (Or.inl q)
  obtain ⟨r', hr', cellV, g1, g2, g3, -⟩ := hP.1 q _ hv
  have hcls := (hK.1 ci rc hcl).2
  have htt : (jtys w)[t]? = some (w.2.1 t, .object rc.1) := by rw [jtys_at w ht, hS0]
  obtain ⟨kA, comp, k1, k2, k3, -⟩ := (hK.2 t _ htt).2
  have hcomp : comp = w.1.1 ci := Option.some.inj (k3.symm.trans hcls.1)
  subst hcomp
  obtain ⟨kC, hkC, -⟩ := hcls.2
  refine W.aast C.1 C.2.1 (hP.1 k _ he) (fun q h => by cases h) (fun h => by cases h) k1 k2 rfl hkC ⟨h0, by show _ < (arrV _ _ _).slots.size; rw [arrV_size, hclamp]; exact hn⟩ g1 (fun q h => by rw [g3] at h; cases h) (by rw [g2]; exact hkC) (by rw [g2]; exact va_assign hcls) rfl rfl d fun H1 e z oq => ?_
  refine kk H1 _ ls ⟨?_, by rw [z]; exact hP.2⟩ (hS.put z oq (hD.2 k _ he)) hl
  rw [← jwsN_set w h (h.1, up2 h.2.1 k n (some q), h.2.2) N k (.inl (w.2.1 t, len, .inr (.inr (.inr (.inr (va_up (fun j => (h.2.1 k j).map (jad w)) n (some (jad w q)))))))) ?_ (fun i hi => jcel_r hi)]
  · refine hP.1.set hD he ?_ oq
    show H1[jad w k]? = some (vp_cell _ _)
    rw [e]
    rw [vp_cell_q, vp_cell_q, arrV_store, hclamp]
    congr 2
    funext q
    by_cases hq : q = n
    · subst hq
      simp [updV, va_up, va_rf]
    · simp [updV, va_up, hq]
  · have ha' : jarr w (h.1, up2 h.2.1 k n (some q), h.2.2) t k = .inr (.inr (.inr (.inr fun j => (up2 h.2.1 k n (some q) k j).map (jad w)))) := by simp [jarr, hS0]
    rw [jcel_a hc, ha', up2_r]
    congr 7
    funext j
    by_cases hj : j = n <;> simp [va_up, hj]
end JB
