theorem jGood : wsL_law.all goodWord = true := by decide +kernel
theorem jGoodIn {c : Cond} {ws : List Cond} (hc : c ∈ wsL_law) (hw : ∀ v ∈ wsL_law, v ∈ ws) : GoodIn ws (c :: wsL_law) := by
  intro v hv
  have h1 : v ∈ wsL_law := by
    rcases List.mem_cons.mp hv with e | h
    · rw [e]; exact hc
    · exact h
  exact ⟨hw v h1, good_of_word (List.all_eq_true.mp jGood v h1)⟩
def jrm (d : Nat) : Room := { frames := d, cells := 0, slots := 0, locals := 40 * d }
def jPc (w : jW) (h : jH) (As : List Value) : Array Value → State → Prop := va_Pc As (fun U => va_P w.1 vwCl (jws w h) U.heap ∧ va_K w.1 vwCl (jtys w) U ∧ jNok U)
def jQc (w : jW) (Po : Option Value → jH → Prop) : Array Value → State → Outcome → State → Prop := fun _ st oc t => ∃ (r : Option Value) (h' : jH), oc = .returned r ∧ Po r h' ∧ va_P w.1 vwCl (jws w h') t.heap ∧ va_F (jA w) st t
/-- the contract of a method: from the world h, with these arguments, it returns r in a world h' with 'Po r h'' -/
def jM (l : Launch) (w : jW) (y : MethodName) (cc : ByteArray) (nL : Nat) (ret : Option FieldType) (d : Nat) (As : List Value) (h : jH) (Po : Option Value → jH → Prop) : Prop := Met l y (Cond.code y cc nL ret :: wsL_law) (jrm d) (jPc w h As) (jQc w Po) 0 0 (jA w)
def jEnd (X : jX) (w : jW) (Po : Option Value → jH → Prop) : Prop := jXQ X = MQ (jXb X) (jQc w Po) (jXa X) (jXs X) 0 0 (jA w)
theorem jM_of {l : Launch} {w : jW} {y : MethodName} {cc : ByteArray} {nL : Nat} {ret : Option FieldType} {d : Nat} {As : List Value} {h : jH} {Po : Option Value → jH → Prop} (hy : plainName y.cls = true) (hw : jok w) (hn : (lg_sl As).length ≤ nL)
    (body : ∀ X : jX, jC X w cc y.cls → jXl X = l → jXR X = jrm d → (jXc X).maxLocals = nL → (jXh X).sig.returnType = ret → jEnd X w Po → J X w h 0 (lv_args 0 As) []) : jM l w y cc nL ret d As h Po := by
  refine Met.ofW (cc := cc) (maxL := nL) (ret := ret) hy rfl ?_
  intro p e s m args below meth c s₁ B hml hv
  obtain ⟨rfl, hP, hK, hN⟩ := hv
  have hts := atoms_spec (ws := Cond.code y cc nL ret :: wsL_law) B.pre
  have hl := lv_entry As hn
  rw [lg_entry_eq]
  generalize (lg_sl As ++ List.replicate (nL - (lg_sl As).length) Slot.unset).toArray = ls at hl ⊢
  exact body (p, l, e, jrm d, s, m, As.toArray, below, meth, c, MQ below (jQc w Po) As.toArray s 0 0 (jA w)) ⟨B.exec, B.bytes, findClass_of_methodNamed B.named, fun v hv => hts v (List.mem_cons_of_mem _ hv), hK, hN, hw, B.notSynchronized⟩ rfl rfl hml B.returns rfl s.heap [] ls hP va_S.rf (by show lv_has ls c.maxLocals _; rw [hml]; exact hl)
section JC
variable {X : jX} {w : jW} {h : jH} {cc : ByteArray} {own : String} {pc : Nat} {lv : List (Nat × Value)} {r : List Value} {Po : Option Value → jH → Prop}
theorem j_iret (C : jC X w cc own) {v : Int32} (hr : (jXh X).sig.returnType = some .int) (hE : jEnd X w Po) (d : decode cc pc = .ok (.ireturn, 1)) (hp : Po (some (.int v)) h) : J X w h pc lv [.int v] := by
  intro H locs ls hP hS hl
  rw [hE]
  exact W.iret C.1 C.2.1 hr (fun t ht _ => ⟨_, h, rfl, hp, by rw [ht]; exact hP, hS.F ht⟩) hS.2.2 d C.2.2.2.2.2.2.2
theorem j_zret (C : jC X w cc own) {v : Int32} {ty : FieldType} (hr : (jXh X).sig.returnType = some ty) (hn : narrow ty (.int v) = .int v) (hE : jEnd X w Po) (d : decode cc pc = .ok (.ireturn, 1)) (hp : Po (some (.int v)) h) : J X w h pc lv [.int v] := by
  intro H locs ls hP hS hl
  rw [hE]
  exact W.zret C.1 C.2.1 hr hn (fun t ht _ => ⟨_, h, rfl, hp, by rw [ht]; exact hP, hS.F ht⟩) hS.2.2 d C.2.2.2.2.2.2.2
theorem j_vret (C : jC X w cc own) (hr : (jXh X).sig.returnType = none) (hE : jEnd X w Po) (d : decode cc pc = .ok (.return_, 1)) (hp : Po none h) : J X w h pc lv [] := by
  intro H locs ls hP hS hl
  rw [hE]
  exact W.vret C.1 C.2.1 hr (fun t ht _ => ⟨_, h, rfl, hp, by rw [ht]; exact hP, hS.F ht⟩) hS.2.2 d C.2.2.2.2.2.2.2
theorem j_aret (C : jC X w cc own) {v : Value} {n : String} (hr : (jXh X).sig.returnType = some (.object n)) (hv : v = .null ∨ ∃ a, v = .ref a) (hE : jEnd X w Po) (d : decode cc pc = .ok (.areturn, 1)) (hp : Po (some v) h) : J X w h pc lv [v] := by
  intro H locs ls hP hS hl
  rw [hE]
  exact W.aret C.1 C.2.1 hr (Or.inl ⟨n, rfl⟩) hv (fun t ht _ => ⟨_, h, rfl, hp, by rw [ht]; exact hP, hS.F ht⟩) hS.2.2 d C.2.2.2.2.2.2.2
/-- behind a call -/
theorem j_run {y : MethodName} {a : Array Value} {st0 : List Value} (kk : ∀ (v : Option Value) (h' : jH), Po v h' → J X w h' (pc + 3) lv (v.toList ++ r)) {H : Heap} {locs : List Loc} {ls : Array Slot} (hS : va_S (jA w) (jXs X).heap H locs) (hl : lv_has ls (jXc X).maxLocals lv)
    (hr : va_Run (jXp X) (jXl X) (jXe X) (jXR X) (jXs X) (jXm X) (jXa X) (jXb X) (jXh X) (jXc X) H locs 0 0 0 0 (F0 (jXm X) pc ls st0) r (jQc w Po a) (jA w)) : W (jXp X) (jXl X) (jXe X) (jXR X) (jXs X) (jXm X) (jXa X) (jXb X) (jXh X) (jXc X) H locs 0 0 (jXQ X) (F0 (jXm X) pc ls st0) := by
  intro T hT Z
  obtain ⟨v, st₀, t, T', L, h0, Z', hL, e1, e2, ⟨v', h', hv, hp, hP', hz, hk⟩, st⟩ := hr T hT Z
  cases hv
  rw [h0] at hz hk
  obtain ⟨t2, a1, b1⟩ := kk v h' hp T'.heap (locs ++ L) ls (by rw [e1]; exact hP') ⟨Nat.le_trans hS.1 (by rw [e1]; exact hz), fun q h1 h2 => by rw [e1, hk q (Nat.lt_of_lt_of_le h1 hS.1) h2]; exact hS.2.1 q h1 h2, fun q hq => by
      rcases List.mem_append.mp hq with h | h
      · exact hS.2.2 q h
      · exact hL q h⟩ hl T' rfl Z'
  exact ⟨t2, st t2 a1, b1⟩
theorem jblind {As : List Value} : FrameBlind (jPc w h As) := fun a U g mk q => by
  obtain ⟨q0, qP, qK, qN⟩ := q
  exact ⟨q0, qP, va_K.moved (u := U) (U := U.calling g mk a) (Vm.Alike.refl U.vm) qK, jNok.same (s := U) (U := U.calling g mk a) rfl qN⟩
theorem jpre (C : jC X w cc own) {As : List Value} {H : Heap} (hP : va_P w.1 vwCl (jws w h) H) : ∀ U : State, U.heap = H → (jXs X).WarmedH U.vm → jPc w h As As.toArray U := fun U hU hW => ⟨rfl, by rw [hU]; exact hP, va_K.moved hW.alike C.2.2.2.2.1, jNok.warm hW C.2.2.2.2.2.1⟩
/-- a call of a method of an object of the world -/
theorem j_callV (C : jC X w cc own) {index k ci n d0 : Nat} {y : MethodName} {bytes : ByteArray} {maxL : Nat} {ret : Option FieldType} {As st : List Value} (K : jCB own index y bytes maxL ret n ∧ Cond.instanceMethod y ∈ wsL_law ∧ Cond.selects (jR ci) y y ∈ wsL_law) (hM : jM (jXl X) w y bytes maxL ret d0 (.ref (jad w k) :: As) h Po) (hcl : vwCl[ci]? = some (jR ci, jT ci, jN ci)) (hk : k < 99) (hc : jk k = .inl ci) (hst : st = As.reverse ++ .ref (jad w k) :: r) (hn : As.length = n) (hr : (r.map fun v => v.category).sum ≤ 8) (hR : d0 + 1 ≤ (jXR X).frames ∧ 8 + (maxL + 11) + 40 * d0 ≤ (jXR X).locals) (d : decode cc pc = .ok (.invokevirtual index, 3))
    (kk : ∀ (v : Option Value) (h' : jH), Po v h' → J X w h' (pc + 3) lv (v.toList ++ r)) : J X w h pc lv st := by
  intro H locs ls hP hS hl
  obtain ⟨⟨hy1, hy2, hyn, hcode, hini, hlk⟩, hins, hsel⟩ := K
  have hG : GoodIn wsL_law (Cond.code y bytes maxL ret :: wsL_law) := jGoodIn hcode (fun _ h => h)
  have hF : CallFix (jXp X) (jXm X) (jXc X) cc (jXc X).maxLocals (jXs X) (jXa X) wsL_law own := ⟨C.1, C.2.1, rfl, C.2.2.1, C.2.2.2.1⟩
  have hrecv := va_recv C.2.2.2.2.1 hP hcl (show (jws w h)[k]? = some (jad w k, .inr (ci, jfs w h ci k)) by rw [jws_at w h hk, jcel_o hc])
  have hW : 2 * (F0 (jXm X) pc ls st).monitorRoom + (r.map fun v => v.category).sum ≤ 8 := by show 2 * 0 + _ ≤ 8; omega
  refine j_run (y := y) (a := (Value.ref (jad w k) :: As).toArray) (r := r) kk hS hl ?_
  rcases hlk with hlk | hlk
  · refine va_runV (C := jR ci) (b := jad w k) (As := As) (rest := r) hF hM ⟨callB_of n C.2.2.2.1 hG rfl rfl rfl (C.2.2.2.1 _ hini) (C.2.2.2.1 _ hlk) ⟨hy1, hy2, hyn⟩ hR, C.2.2.2.1 _ hins, C.2.2.2.1 _ hsel⟩ ⟨jblind, hrecv, jpre C hP⟩ rfl hn hl.1 hst hW d ⟨Nat.zero_le _, Nat.zero_le _⟩
  · refine va_runVN (C := jR ci) (b := jad w k) (As := As) (rest := r) hF hM ⟨va_cnB n C.2.2.2.1 hG rfl rfl rfl (C.2.2.2.2.2.1.2 _ hlk) (C.2.2.2.1 _ hini) ⟨hy1, hy2, hyn⟩ hR, C.2.2.2.1 _ hins, C.2.2.2.1 _ hsel⟩ ⟨jblind, hrecv, jpre C hP⟩ rfl hn hl.1 hst hW d ⟨Nat.zero_le _, Nat.zero_le _⟩
/-- a call of a static method -/
theorem j_callS (C : jC X w cc own) {index n d0 : Nat} {y : MethodName} {bytes : ByteArray} {maxL : Nat} {ret : Option FieldType} {As st : List Value} (K : jCB own index y bytes maxL ret n ∧ Cond.static y ∈ wsL_law) (hM : jM (jXl X) w y bytes maxL ret d0 As h Po) (hst : st = As.reverse ++ r) (hn : As.length = n) (hr : (r.map fun v => v.category).sum ≤ 8) (hR : d0 + 1 ≤ (jXR X).frames ∧ 8 + (maxL + 11) + 40 * d0 ≤ (jXR X).locals) (d : decode cc pc = .ok (.invokestatic index, 3))
    (kk : ∀ (v : Option Value) (h' : jH), Po v h' → J X w h' (pc + 3) lv (v.toList ++ r)) : J X w h pc lv st := by
  intro H locs ls hP hS hl
  obtain ⟨⟨hy1, hy2, hyn, hcode, hini, hlk⟩, hstc⟩ := K
  have hG : GoodIn wsL_law (Cond.code y bytes maxL ret :: wsL_law) := jGoodIn hcode (fun _ h => h)
  have hF : CallFix (jXp X) (jXm X) (jXc X) cc (jXc X).maxLocals (jXs X) (jXa X) wsL_law own := ⟨C.1, C.2.1, rfl, C.2.2.1, C.2.2.2.1⟩
  have hW : 2 * (F0 (jXm X) pc ls st).monitorRoom + (r.map fun v => v.category).sum ≤ 8 := by show 2 * 0 + _ ≤ 8; omega
  refine j_run (y := y) (a := As.toArray) (r := r) kk hS hl ?_
  rcases hlk with hlk | hlk
  · refine va_runS (As := As) (rest := r) hF hM ⟨callB_of n C.2.2.2.1 hG rfl rfl rfl (C.2.2.2.1 _ hini) (C.2.2.2.1 _ hlk) ⟨hy1, hy2, hyn⟩ hR, C.2.2.2.1 _ hstc⟩ ⟨jblind, jpre C hP⟩ rfl hn hl.1 hst hW d ⟨Nat.zero_le _, Nat.zero_le _⟩
  · refine va_runSN (As := As) (rest := r) hF hM ⟨va_cnB n C.2.2.2.1 hG rfl rfl rfl (C.2.2.2.2.2.1.2 _ hlk) (C.2.2.2.1 _ hini) ⟨hy1, hy2, hyn⟩ hR, C.2.2.2.1 _ hstc, trivial⟩ ⟨jblind, jpre C hP⟩ rfl hn hl.1 hst hW d ⟨Nat.zero_le _, Nat.zero_le _⟩
end JC
