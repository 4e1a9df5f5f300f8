/-! THE LAW'S HELPERS: contracts -/
def jNcs : List (String × String) := [("java/lang/UnsupportedOperationException", "java/lang/IllegalStateException"), ("java/util/NoSuchElementException", "java/lang/IllegalStateException"), ("java/lang/IllegalArgumentException", "java/lang/IllegalStateException"), ("java/lang/IllegalArgumentException", "java/util/NoSuchElementException")]
def jNK (U : State) : Prop := ∀ q ∈ jNcs, va_Nc q.1 q.2 U
def jPh (w : jW) (h : jH) (As : List Value) : Array Value → State → Prop := va_Pc As (fun U => va_P w.1 vwCl (jws w h) U.heap ∧ va_K w.1 vwCl (jtys w) U ∧ jNok U ∧ jXk w U ∧ jNK U)
def jHp (l : Launch) (w : jW) (y : MethodName) (cc : ByteArray) (nL : Nat) (hh : List (Nat × Nat × Nat × Nat)) (d : Nat) (As : List Value) (h : jH) (Po : Option Value → jH → Prop) : Prop := Met l y (Cond.codeWith y cc nL (some .int) hh :: wsL_law) (jrmX d) (jPh w h As) (jQc w Po) 1 6 (jA w)
def jEndH (X : jX) (w : jW) (Po : Option Value → jH → Prop) : Prop := jXQ X = MQ (jXb X) (jQc w Po) (jXa X) (jXs X) 1 6 (jA w)
theorem jHp_of {l : Launch} {w : jW} {y : MethodName} {cc : ByteArray} {nL : Nat} {hh : List (Nat × Nat × Nat × Nat)} {d : Nat} {As : List Value} {h : jH} {Po : Option Value → jH → Prop} (hy : plainName y.cls = true) (hw : jok w) (hn : (lg_sl As).length ≤ nL)
    (body : ∀ X : jX, jC X w cc y.cls → jXl X = l → jXR X = jrmX d → (jXc X).maxLocals = nL → (jXh X).sig.returnType = some .int → jEndH X w Po → (jXc X).exceptionTable.toList = tableOf hh → jXk w (jXs X) → jNK (jXs X) → JP X (va_P w.1 vwCl (jws w h)) (jA w) 0 0 0 (lv_args 0 As) []) : jHp l w y cc nL hh d As h Po := by
  refine va_MetW (cc := cc) (maxL := nL) (ret := some .int) (hh := hh) hy rfl ?_
  intro p e s m args below meth c s₁ B hml hv
  obtain ⟨rfl, hP, hK, hN, hXk, hNK⟩ := hv
  have hts := atoms_spec (ws := Cond.codeWith y cc nL (some .int) hh :: wsL_law) B.pre
  have htb : c.exceptionTable.toList = tableOf hh := vx_table (x := y) (bytes := cc) (maxL' := nL) (ret' := some .int) B (hts _ List.mem_cons_self)
  have hl := lv_entry As hn
  rw [lg_entry_eq]
  generalize (lg_sl As ++ List.replicate (nL - (lg_sl As).length) Slot.unset).toArray = ls at hl ⊢
  exact body (p, l, e, jrmX d, s, m, As.toArray, below, meth, c, MQ below (jQc w Po) As.toArray s 1 6 (jA w)) ⟨B.exec, B.bytes, findClass_of_methodNamed B.named, fun v hv => hts v (List.mem_cons_of_mem _ hv), hK, hN, hw, B.notSynchronized⟩ rfl rfl hml B.returns rfl htb hXk hNK s.heap [] ls hP va_S.rf (by show lv_has ls c.maxLocals _; rw [hml]; exact hl)
section HP
variable {X : jX} {w : jW} {h : jH} {A : Nat → Prop} {nc ns : Nat} {cc : ByteArray} {own : String} {pc : Nat} {lv : List (Nat × Value)} {r : List Value} {Po : Option Value → jH → Prop} {Px : String → jH → Prop}
theorem h_iret (C : jC X w cc own) {v : Int32} (hr : (jXh X).sig.returnType = some .int) (hE : jEndH X w Po) (h1 : nc ≤ 1) (h2 : ns ≤ 6) (d : decode cc pc = .ok (.ireturn, 1)) (hp : Po (some (.int v)) h) : JP X (va_P w.1 vwCl (jws w h)) (jA w) nc ns pc lv [.int v] := by
  intro H locs ls hP hS hl
  rw [hE]
  exact W.widen h1 h2 (W.iret C.1 C.2.1 hr (fun t ht _ => ⟨_, h, rfl, hp, by rw [ht]; exact hP, hS.F ht⟩) hS.2.2 d C.2.2.2.2.2.2.2)
def jXA (A : Nat → Prop) (U : State) : Prop := ((∀ E ∈ jEX, va_Nw (.castable E E) U) ∧ ∀ x ∈ jDX, va_Nw (.declares x) U) ∧ vx_Zq Bundle.tN "UNASSIGNED_STACK" Bundle.steD A U U.heap ∧ vx_Zq Bundle.tN "SUPPRESSED_SENTINEL" Bundle.listD A U U.heap
theorem jXA.to {A B : Nat → Prop} {s U : State} {locs : List Loc} (hAB : ∀ q, B q → A q) (hW : s.WarmedH U.vm) (hS : va_S A s.heap U.heap locs) (H : jXA A s) : jXA B U := ⟨⟨fun E hE => va_Nw.warmC hW (H.1.1 E hE), fun x hx => va_Nw.warmD hW (H.1.2 x hx)⟩, (vx_Zq.moved hW.alike (H.2.1.kept hS.2.1)).narrow hAB, (vx_Zq.moved hW.alike (H.2.2.kept hS.2.1)).narrow hAB⟩
theorem jXA.calling {A : Nat → Prop} {U : State} {g : JFrame} {mk : MethodId} {a : Array Value} (H : jXA A U) : jXA A (U.calling g mk a) := ⟨⟨fun E hE => va_Nw.same (u := U) (U := U.calling g mk a) rfl rfl (H.1.1 E hE), fun x hx => va_Nw.same (u := U) (U := U.calling g mk a) rfl rfl (H.1.2 x hx)⟩, vx_Zq.moved (u := U) (U := U.calling g mk a) (Vm.Alike.refl U.vm) H.2.1, vx_Zq.moved (u := U) (U := U.calling g mk a) (Vm.Alike.refl U.vm) H.2.2⟩
theorem jblindX {As : List Value} : FrameBlind (jPx w h As) := fun a U g mk q => by
  obtain ⟨q0, qP, qK, qN, qX⟩ := q
  exact ⟨q0, qP, va_K.moved (u := U) (U := U.calling g mk a) (Vm.Alike.refl U.vm) qK, jNok.same (s := U) (U := U.calling g mk a) rfl qN, jXA.calling (A := jA w) qX⟩
theorem jblindH {As : List Value} : FrameBlind (jPh w h As) := fun a U g mk q => by
  obtain ⟨q0, qP, qK, qN, qX, qC⟩ := q
  exact ⟨q0, qP, va_K.moved (u := U) (U := U.calling g mk a) (Vm.Alike.refl U.vm) qK, jNok.same (s := U) (U := U.calling g mk a) rfl qN, jXA.calling (A := jA w) qX, fun q hq => (qC q hq).moved (Vm.Alike.refl U.vm)⟩
/-- a call that may throw, the throws caught here by the rows of the table -/
theorem p_callT (C : jC X w cc own) (hXk : jXA A (jXs X)) (hAB : ∀ q, jA w q → A q) {index k ci n d0 : Nat} {y : MethodName} {bytes : ByteArray} {maxL : Nat} {ret : Option FieldType} {As st : List Value} (K : jCB own index y bytes maxL ret n ∧ Cond.instanceMethod y ∈ wsL_law ∧ Cond.selects (jR ci) y y ∈ wsL_law) (hnl : Cond.methodLink own index y ∈ wsL_law) (hM : jTh (jXl X) w y bytes maxL ret d0 (.ref (jad w k) :: As) h Po Px) (hcl : vwCl[ci]? = some (jR ci, jT ci, jN ci)) (hk : k < 99) (hc : jk k = .inl ci) (hst : st = As.reverse ++ .ref (jad w k) :: r) (hn : As.length = n) (hr : (r.map fun v => v.category).sum ≤ 8) (hR : d0 + 1 ≤ (jXR X).frames ∧ 8 + (maxL + 11) + 40 * d0 ≤ (jXR X).locals) (hcs : nc + 1 ≤ (jXR X).cells ∧ ns + 6 ≤ (jXR X).slots) (d : decode cc pc = .ok (.invokevirtual index, 3))
    (kk : ∀ (v : Option Value) (h' : jH), Po v h' → JP X (va_P w.1 vwCl (jws w h')) A (nc + 1) (ns + 6) (pc + 3) lv (jcons v r))
    (kx : ∀ (E : String) (h' : jH), Px E h' → ∃ (pre : List ExceptionTableEntry) (x : ExceptionTableEntry) (suf : List ExceptionTableEntry), (jXc X).exceptionTable.toList = pre ++ x :: suf ∧ (∀ y ∈ pre, covers y pc = true ∧ y.catchType ≠ 0 ∧ ∃ nm : String, Cond.classLink own y.catchType nm ∈ wsL_law ∧ va_Nc E nm (jXs X)) ∧ covers x pc = true ∧ x.catchType ≠ 0 ∧ Cond.classLink own x.catchType E ∈ wsL_law ∧ E ∈ jEX ∧ ∀ q : Addr, JP X (va_P w.1 vwCl (jws w h')) A (nc + 1) (ns + 6) x.handlerPc lv [.ref q]) : JP X (va_P w.1 vwCl (jws w h)) A nc ns pc lv st := by
  intro H locs ls hP hS hl
  obtain ⟨⟨hy1, hy2, hyn, hcode, hini, -⟩, hins, hsel⟩ := K
  have hG : GoodIn wsL_law (Cond.code y bytes maxL ret :: wsL_law) := jGoodIn hcode (fun _ h => h)
  have hF : CallFix (jXp X) (jXm X) (jXc X) cc (jXc X).maxLocals (jXs X) (jXa X) wsL_law own := ⟨C.1, C.2.1, rfl, C.2.2.1, C.2.2.2.1⟩
  have hrecv := va_recv C.2.2.2.2.1 hP hcl (show (jws w h)[k]? = some (jad w k, .inr (ci, jfs w h ci k)) by rw [jws_at w h hk, jcel_o hc])
  have hW : 2 * (F0 (jXm X) pc ls st).monitorRoom + (r.map fun v => v.category).sum ≤ 8 := by show 2 * 0 + _ ≤ 8; omega
  have hr1 := vx_runV (C := jR ci) (b := jad w k) (As := As) (rest := r) (g := F0 (jXm X) pc ls st) (locs := locs) (cells := nc) (slots := ns) (below := jXb X) (meth := jXh X) (e := jXe X) hF hM ⟨callB_of n C.2.2.2.1 hG rfl rfl rfl (C.2.2.2.1 _ hini) (C.2.2.2.1 _ hnl) ⟨hy1, hy2, hyn⟩ hR, C.2.2.2.1 _ hins, C.2.2.2.1 _ hsel⟩ ⟨jblindX, hrecv, fun U hU hW => ⟨rfl, by rw [hU]; exact hP, va_K.moved hW.alike C.2.2.2.2.1, jNok.warm hW C.2.2.2.2.2.1, hXk.to hAB hW (by rw [hU]; exact hS)⟩⟩ rfl hn hl.1 hst hW d hcs
  intro T hT Z
  have hS' : ∀ (st₀ t T' : State) (L : List Loc), st₀.heap = H → T'.heap = t.heap → (∀ q ∈ L, jA w q.base) → va_F (jA w) st₀ t → va_S A (jXs X).heap T'.heap (locs ++ L) := by
    intro st₀ t T' L h0 e1 hL hF9
    obtain ⟨hz, hk9⟩ := hF9
    rw [h0] at hz hk9
    exact ⟨Nat.le_trans hS.1 (by rw [e1]; exact hz), fun q h1 h2 => by rw [e1, hk9 q (Nat.lt_of_lt_of_le h1 hS.1) (fun z => h2 (hAB q z))]; exact hS.2.1 q h1 h2, fun q hq => by
      rcases List.mem_append.mp hq with h | h
      · exact hS.2.2 q h
      · exact hAB _ (hL q h)⟩
  rcases hr1 T hT Z with ⟨v, st₀, t, T', L, h0, Z', hL, e1, e2, ⟨v', h', hv, hp, hP', hF9⟩, sto⟩ | ⟨q, st₀, t, T', L, E, ce, h0, Z', hL, e1, e2, ⟨h', hp, hP', hF9⟩, hce, hcv, hfc, sto⟩
  · cases hv
    have k1 := kk v h' hp T'.heap (locs ++ L) ls (by rw [e1]; exact hP') (hS' st₀ t T' L h0 e1 hL hF9) hl
    rw [← jcons_eq] at k1
    obtain ⟨t2, a1, b1⟩ := k1 T' rfl Z'
    exact ⟨t2, sto t2 a1, b1⟩
  · obtain ⟨pre, x, suf, hsp, hps, hx, hx0, hlk, hEX, k1⟩ := kx E h' hp
    have k2 := k1 q T'.heap (locs ++ L) ls (by rw [e1]; exact hP') (hS' st₀ t T' L h0 e1 hL hF9) hl
    have k3 := z_catch (pc := pc) (rest := r) (E := E) (ce := ce) C.2.2.1 pre x suf hsp (fun y hy => by
      obtain ⟨a1, a2, nm, a3, a4⟩ := hps y hy
      exact ⟨a1, a2, nm, C.2.2.2.1 _ a3, a4⟩) hx hx0 (C.2.2.2.1 _ hlk) (va_Nw.use rfl (hXk.1.1 E hEX)) (by rw [e1]; exact hce) hcv hfc k2
    obtain ⟨t2, a1, b1⟩ := k3 T' rfl Z'
    exact ⟨t2, sto.trans a1, b1⟩
end HP
