/-! THE CONSTRUCTORS' CONTRACTS -/
def jrmI (d mc ms : Nat) : Room := { frames := d, cells := mc, slots := ms, locals := 40 * d }
def jPi (w : jW) (h : jH) (N : Nat) (As : List Value) : Array Value → State → Prop := va_Pc As (fun U => jIB w h N U.heap ∧ va_K w.1 vwCl (jtys w) U ∧ jNok U ∧ jAO U)
def jQi (w : jW) (h' : jH) (N' : Nat) : Array Value → State → Outcome → State → Prop := fun _ st oc t => oc = .returned none ∧ jIB w h' N' t.heap ∧ va_F (jAb w) st t
def jI (l : Launch) (w : jW) (y : MethodName) (cc : ByteArray) (nL d mc ms : Nat) (As : List Value) (h : jH) (N : Nat) (h' : jH) (N' : Nat) : Prop := Met l y (Cond.code y cc nL none :: wsL_law) (jrmI d mc ms) (jPi w h N As) (jQi w h' N') mc ms (jAb w)
def jEndI (X : jX) (w : jW) (h' : jH) (N' mc ms : Nat) : Prop := jXQ X = MQ (jXb X) (jQi w h' N') (jXa X) (jXs X) mc ms (jAb w)
theorem jI_of {l : Launch} {w : jW} {y : MethodName} {cc : ByteArray} {nL d mc ms : Nat} {As : List Value} {h h' : jH} {N N' : Nat} (hy : plainName y.cls = true) (hnm : y.name = "<init>") (hw : jlin w) (hn : (lg_sl As).length ≤ nL)
    (body : ∀ X : jX, jC X w cc y.cls → jXl X = l → jXR X = jrmI d mc ms → (jXc X).maxLocals = nL → (jXh X).sig.returnType = none → (jXh X).name = "<init>" → jAO (jXs X) → jEndI X w h' N' mc ms → JP X (jIB w h N) (jAb w) 0 0 0 (lv_args 0 As) []) : jI l w y cc nL d mc ms As h N h' N' := by
  refine Met.ofW (cc := cc) (maxL := nL) (ret := none) hy rfl ?_
  intro p e s m args below meth c s₁ B hml hv
  obtain ⟨rfl, hP, hK, hN, hao⟩ := hv
  have hts := atoms_spec (ws := Cond.code y cc nL none :: wsL_law) B.pre
  have hin : meth.name = "<init>" := (name_of_methodNamed B.named B.method).1.trans hnm
  have hl := lv_entry As hn
  rw [lg_entry_eq]
  generalize (lg_sl As ++ List.replicate (nL - (lg_sl As).length) Slot.unset).toArray = ls at hl ⊢
  exact body (p, l, e, jrmI d mc ms, s, m, As.toArray, below, meth, c, MQ below (jQi w h' N') As.toArray s mc ms (jAb w)) ⟨B.exec, B.bytes, findClass_of_methodNamed B.named, fun v hv => hts v (List.mem_cons_of_mem _ hv), hK, hN, hw.ok, B.notSynchronized⟩ rfl rfl hml B.returns hin hao rfl s.heap [] ls hP va_S.rf (by show lv_has ls c.maxLocals _; rw [hml]; exact hl)
section JI
variable {X : jX} {w : jW} {h : jH} {N nc ns : Nat} {cc : ByteArray} {own : String} {pc : Nat} {lv : List (Nat × Value)} {r : List Value}
theorem b_vret (C : jC X w cc own) {mc ms : Nat} (hr : (jXh X).sig.returnType = none) (hE : jEndI X w h N mc ms) (h1 : nc ≤ mc) (h2 : ns ≤ ms) (d : decode cc pc = .ok (.return_, 1)) : JP X (jIB w h N) (jAb w) nc ns pc lv [] := by
  intro H locs ls hP hS hl
  rw [hE]
  exact W.widen h1 h2 (W.vret C.1 C.2.1 hr (fun t ht _ => ⟨rfl, by rw [ht]; exact hP, hS.F ht⟩) hS.2.2 d C.2.2.2.2.2.2.2)
theorem b_objInit {I : Heap → Prop} {A : Nat → Prop} {a : Nat} (C : jC X w cc own) {index : Nat} (h1 : Cond.methodLink own index objectInit ∈ wsL_law) (hr : (r.map fun v => v.category).sum ≤ 8) (hR : 1 ≤ (jXR X).frames ∧ 40 ≤ (jXR X).locals) (d : decode cc pc = .ok (.invokespecial index, 3)) (kk : JP X I A nc ns (pc + 3) lv r) : JP X I A nc ns pc lv (.ref a :: r) := by
  intro H locs ls hP hS hl
  refine W.objInit C.1 C.2.1 C.2.2.1 (C.2.2.2.1 _ h1) (C.2.2.2.1 _ (rin_1 _ (List.mem_of_getElem? (i := 15) rfl))) (C.2.2.2.1 _ (rin_1 _ (List.mem_of_getElem? (i := 16) rfl))) rfl hl.1 rfl d ?_ ?_ ?_
  · exact hR.1
  · refine Nat.le_trans ?_ hR.2
    show 2 * 0 + (r.map fun v => v.category).sum + _ ≤ 40
    omega
  · exact W.eq (g2 := F0 (jXm X) (pc + 3) ls r) rfl (kk H locs ls hP hS hl)
theorem jblindI {As : List Value} : FrameBlind (jPi w h N As) := fun a U g mk q => by
  obtain ⟨q0, qP, qK, qN, qA⟩ := q
  exact ⟨q0, qP, va_K.moved (u := U) (U := U.calling g mk a) (Vm.Alike.refl U.vm) qK, jNok.same (s := U) (U := U.calling g mk a) rfl qN, qA.1.moved (Vm.Alike.refl U.vm), qA.2.moved (Vm.Alike.refl U.vm)⟩
theorem jpreI (C : jC X w cc own) (hao : jAO (jXs X)) {As : List Value} {H : Heap} (hP : jIB w h N H) : ∀ U : State, U.heap = H → (jXs X).WarmedH U.vm → jPi w h N As As.toArray U := fun U hU hW => ⟨rfl, by rw [hU]; exact hP, va_K.moved hW.alike C.2.2.2.2.1, jNok.warm hW C.2.2.2.2.2.1, hao.1.moved hW.alike, hao.2.moved hW.alike⟩
theorem b_callI (C : jC X w cc own) (hao : jAO (jXs X)) {index k n d0 mc ms N' : Nat} {h' : jH} {y : MethodName} {bytes : ByteArray} {maxL : Nat} {As st : List Value} (K : jCB own index y bytes maxL none n ∧ Cond.instanceMethod y ∈ wsL_law) (hnm : y.name = "<init>") (hM : jI (jXl X) w y bytes maxL d0 mc ms (.ref (jad w k) :: As) h N h' N') (hst : st = As.reverse ++ .ref (jad w k) :: r) (hn : As.length = n) (hr : (r.map fun v => v.category).sum ≤ 8) (hR : d0 + 1 ≤ (jXR X).frames ∧ 8 + (maxL + 11) + 40 * d0 ≤ (jXR X).locals) (hcs : nc + mc ≤ (jXR X).cells ∧ ns + ms ≤ (jXR X).slots) (d : decode cc pc = .ok (.invokespecial index, 3))
    (kk : JP X (jIB w h' N') (jAb w) (nc + mc) (ns + ms) (pc + 3) lv r) : JP X (jIB w h N) (jAb w) nc ns pc lv st := by
  intro H locs ls hP hS hl
  obtain ⟨⟨hy1, hy2, hyn, hcode, hini, hlk⟩, hins⟩ := K
  have hG : GoodIn wsL_law (Cond.code y bytes maxL none :: wsL_law) := jGoodIn hcode (fun _ h => h)
  have hF : CallFix (jXp X) (jXm X) (jXc X) cc (jXc X).maxLocals (jXs X) (jXa X) wsL_law own := ⟨C.1, C.2.1, rfl, C.2.2.1, C.2.2.2.1⟩
  have hW : 2 * (F0 (jXm X) pc ls st).monitorRoom + (r.map fun v => v.category).sum ≤ 8 := by show 2 * 0 + _ ≤ 8; omega
  refine p_run (free := jAb w) (mc := mc) (ms := ms) (r := r) (I' := fun v H1 => v = none ∧ jIB w h' N' H1) (Qa := jQi w h' N' (Value.ref (jad w k) :: As).toArray) (fun _ h => h) (fun v => ?_) (fun v st t _ hq => ?_) hS hl ?_
  · refine p_and (fun hv => ?_)
    subst hv
    exact kk
  · obtain ⟨e1, e2, e3⟩ := hq
    cases e1
    exact ⟨e3, rfl, e2⟩
  · rcases hlk with hlk | hlk
    · exact va_runI (b := jad w k) (As := As) (rest := r) hF hM ⟨callB_of n C.2.2.2.1 hG rfl rfl rfl (C.2.2.2.1 _ hini) (C.2.2.2.1 _ hlk) ⟨hy1, hy2, hyn⟩ hR, hnm, C.2.2.2.1 _ hins⟩ ⟨jblindI, jpreI C hao hP⟩ rfl hn hl.1 hst hW d hcs
    · exact va_runIN (b := jad w k) (As := As) (rest := r) hF hM ⟨va_cnB n C.2.2.2.1 hG rfl rfl rfl (C.2.2.2.2.2.1.2 _ hlk) (C.2.2.2.1 _ hini) ⟨hy1, hy2, hyn⟩ hR, hnm, C.2.2.2.1 _ hins⟩ ⟨jblindI, jpreI C hao hP⟩ rfl hn hl.1 hst hW d hcs
end JI
theorem nX4_23 : jCB RX4 23 yX3_init cX3_init 2 none 0 ∧ Cond.instanceMethod yX3_init ∈ wsL_law := ⟨⟨by decide, by decide, by decide +kernel, (rin_2 _ (List.mem_of_getElem? (i := 21) rfl)), (rin_2 _ (List.mem_of_getElem? (i := 0) rfl)), Or.inr (by decide +kernel)⟩, (rin_2 _ (List.mem_of_getElem? (i := 20) rfl))⟩
theorem nX4_30 : jCB RX4 30 yX0_init cX0_init 1 none 0 ∧ Cond.instanceMethod yX0_init ∈ wsL_law := ⟨⟨by decide, by decide, by decide +kernel, (rin_3 _ (List.mem_of_getElem? (i := 9) rfl)), (rin_2 _ (List.mem_of_getElem? (i := 4) rfl)), Or.inr (by decide +kernel)⟩, (rin_3 _ (List.mem_of_getElem? (i := 8) rfl))⟩
theorem nX4_56 : jCB RX4 56 yX2_init cX2_init 2 none 1 ∧ Cond.instanceMethod yX2_init ∈ wsL_law := ⟨⟨by decide, by decide, by decide +kernel, (rin_3 _ (List.mem_of_getElem? (i := 12) rfl)), (rin_2 _ (List.mem_of_getElem? (i := 11) rfl)), Or.inr (by decide +kernel)⟩, (rin_3 _ (List.mem_of_getElem? (i := 11) rfl))⟩
theorem nX3_21 : jCB RX3 21 yX1_init cX1_init 1 none 0 ∧ Cond.instanceMethod yX1_init ∈ wsL_law := ⟨⟨by decide, by decide, by decide +kernel, (rin_3 _ (List.mem_of_getElem? (i := 6) rfl)), (rin_3 _ (List.mem_of_getElem? (i := 4) rfl)), Or.inr (by decide +kernel)⟩, (rin_3 _ (List.mem_of_getElem? (i := 5) rfl))⟩
theorem nL_42 : jCB RL 42 yX4_init cX4_init 3 none 1 ∧ Cond.instanceMethod yX4_init ∈ wsL_law := ⟨⟨by decide, by decide, by decide +kernel, (rin_1 _ (List.mem_of_getElem? (i := 13) rfl)), (rin_1 _ (List.mem_of_getElem? (i := 2) rfl)), Or.inl (rin_1 _ (List.mem_of_getElem? (i := 11) rfl))⟩, (rin_1 _ (List.mem_of_getElem? (i := 12) rfl))⟩
theorem nL_46 : jCB RL 46 yX5_init cX5_init 2 none 1 ∧ Cond.instanceMethod yX5_init ∈ wsL_law := ⟨⟨by decide, by decide, by decide +kernel, (rin_3 _ (List.mem_of_getElem? (i := 18) rfl)), (rin_1 _ (List.mem_of_getElem? (i := 5) rfl)), Or.inl (rin_3 _ (List.mem_of_getElem? (i := 16) rfl))⟩, (rin_3 _ (List.mem_of_getElem? (i := 17) rfl))⟩
