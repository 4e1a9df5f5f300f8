/-! METHODS THAT MAY THROW -/
def jEX : List String := ["java/lang/IllegalArgumentException", "java/util/NoSuchElementException", "java/lang/IllegalStateException", "java/lang/UnsupportedOperationException"]
/-- what a throw wants of the start: the classes are castable, the two statics of Throwable are there and none of the world's cells -/
def jDX : List MethodName := [Bundle.init0 "java/lang/RuntimeException", Bundle.init0 "java/lang/Exception", Bundle.init0 Bundle.tN]
def jXk (w : jW) (U : State) : Prop := ((∀ E ∈ jEX, va_Nw (.castable E E) U) ∧ ∀ x ∈ jDX, va_Nw (.declares x) U) ∧ vx_Zq Bundle.tN "UNASSIGNED_STACK" Bundle.steD (jA w) U U.heap ∧ vx_Zq Bundle.tN "SUPPRESSED_SENTINEL" Bundle.listD (jA w) U U.heap
def jrmX (d : Nat) : Room := { frames := d, cells := 1, slots := 6, locals := 40 * d }
def jPx (w : jW) (h : jH) (As : List Value) : Array Value → State → Prop := va_Pc As (fun U => va_P w.1 vwCl (jws w h) U.heap ∧ va_K w.1 vwCl (jtys w) U ∧ jNok U ∧ jXk w U)
def jXC (w : jW) (Px : String → jH → Prop) : String → State → State → Prop := fun E st t => ∃ h', Px E h' ∧ va_P w.1 vwCl (jws w h') t.heap ∧ va_F (jA w) st t
def jTh (l : Launch) (w : jW) (y : MethodName) (cc : ByteArray) (nL : Nat) (ret : Option FieldType) (d : Nat) (As : List Value) (h : jH) (Po : Option Value → jH → Prop) (Px : String → jH → Prop) : Prop := vx_Met l y (Cond.code y cc nL ret :: wsL_law) (jrmX d) (jPx w h As) (jQc w Po) (jXC w Px) 1 6 (jA w)
def jEndX (X : jX) (w : jW) (Po : Option Value → jH → Prop) (Px : String → jH → Prop) : Prop := jXQ X = vx_MQ (jXb X) (jQc w Po) (jXC w Px) (jXa X) (jXs X) 1 6 (jA w)
theorem jT_of {l : Launch} {w : jW} {y : MethodName} {cc : ByteArray} {nL : Nat} {ret : Option FieldType} {d : Nat} {As : List Value} {h : jH} {Po : Option Value → jH → Prop} {Px : String → jH → Prop} (hy : plainName y.cls = true) (hw : jok w) (hn : (lg_sl As).length ≤ nL)
    (body : ∀ X : jX, jC X w cc y.cls → jXl X = l → jXR X = jrmX d → (jXc X).maxLocals = nL → (jXh X).sig.returnType = ret → jEndX X w Po Px → (∀ x ∈ (jXc X).exceptionTable.toList, False) → jXk w (jXs X) → J X w h 0 (lv_args 0 As) []) : jTh l w y cc nL ret d As h Po Px := by
  refine vx_ofW (cc := cc) (maxL := nL) (ret := ret) hy rfl ?_
  intro p e s m args below meth c s₁ B hml hx hv
  obtain ⟨rfl, hP, hK, hN, hXk⟩ := hv
  have hts := atoms_spec (ws := Cond.code y cc nL ret :: wsL_law) B.pre
  have hl := lv_entry As hn
  rw [lg_entry_eq]
  generalize (lg_sl As ++ List.replicate (nL - (lg_sl As).length) Slot.unset).toArray = ls at hl ⊢
  exact body (p, l, e, jrmX d, s, m, As.toArray, below, meth, c, vx_MQ below (jQc w Po) (jXC w Px) As.toArray s 1 6 (jA w)) ⟨B.exec, B.bytes, findClass_of_methodNamed B.named, fun v hv => hts v (List.mem_cons_of_mem _ hv), hK, hN, hw, B.notSynchronized⟩ rfl rfl hml B.returns rfl hx hXk s.heap [] ls hP va_S.rf (by show lv_has ls c.maxLocals _; rw [hml]; exact hl)
section THR
variable {X : jX} {w : jW} {h : jH} {cc : ByteArray} {own : String} {pc : Nat} {lv : List (Nat × Value)} {r : List Value} {Po : Option Value → jH → Prop} {Px : String → jH → Prop}
theorem jroomX {d d0 maxL : Nat} (hR : jXR X = jrmX d) (hd : d0 + 1 ≤ d) (hm : maxL ≤ 21) : d0 + 1 ≤ (jXR X).frames ∧ 8 + (maxL + 11) + 40 * d0 ≤ (jXR X).locals := by
  rw [hR]
  refine ⟨hd, ?_⟩
  show _ ≤ 40 * d
  omega
theorem jroomMX {d : Nat} {r : List Value} (hR : jXR X = jrmX d) (hd : 1 ≤ d) (hs : (r.map fun v => v.category).sum ≤ 8) : 1 ≤ (jXR X).frames ∧ (r.map fun v => v.category).sum + 13 ≤ (jXR X).locals := by
  rw [hR]
  refine ⟨hd, ?_⟩
  show _ ≤ 40 * d
  omega
theorem jx_iret (C : jC X w cc own) {v : Int32} (hr : (jXh X).sig.returnType = some .int) (hE : jEndX X w Po Px) (d : decode cc pc = .ok (.ireturn, 1)) (hp : Po (some (.int v)) h) : J X w h pc lv [.int v] := by
  intro H locs ls hP hS hl
  rw [hE]
  refine vx_ret (W.widen (Nat.zero_le 1) (Nat.zero_le 6) ?_)
  exact W.iret C.1 C.2.1 hr (fun t ht _ => ⟨_, h, rfl, hp, by rw [ht]; exact hP, hS.F ht⟩) hS.2.2 d C.2.2.2.2.2.2.2
theorem jx_vret (C : jC X w cc own) (hr : (jXh X).sig.returnType = none) (hE : jEndX X w Po Px) (d : decode cc pc = .ok (.return_, 1)) (hp : Po none h) : J X w h pc lv [] := by
  intro H locs ls hP hS hl
  rw [hE]
  refine vx_ret (W.widen (Nat.zero_le 1) (Nat.zero_le 6) ?_)
  exact W.vret C.1 C.2.1 hr (fun t ht _ => ⟨_, h, rfl, hp, by rw [ht]; exact hP, hS.F ht⟩) hS.2.2 d C.2.2.2.2.2.2.2
/-- the words of a throw -/
def jThr (own : String) (ik ic : Nat) (cls : String) : Prop := Bundle.fit cls = true ∧ cls ∈ jEX ∧ Cond.classLink own ik cls ∈ wsL_law ∧ Cond.initialized cls ∈ wsL_law ∧ (∀ v ∈ (vx_at0 own ic cls ["java/lang/RuntimeException", "java/lang/Exception"]).filter goodWord, v ∈ wsL_law) ∧ (∀ v ∈ (vx_at0 own ic cls ["java/lang/RuntimeException", "java/lang/Exception"]).filter (fun w => !goodWord w), v ∈ [Cond.castable cls cls, Cond.declares (Bundle.init0 "java/lang/RuntimeException"), Cond.declares (Bundle.init0 "java/lang/Exception"), Cond.declares (Bundle.init0 Bundle.tN)]) ∧ ∀ v ∈ Cond.classLink own ik cls :: Cond.initialized cls :: vx_at0 own ic cls ["java/lang/RuntimeException", "java/lang/Exception"], vx_ot v = true
theorem jx_throw (C : jC X w cc own) {ik ic d : Nat} {cls : String} (T : jThr own ik ic cls) (hl9 : (jXl X).stackTraces = false) (hR : jXR X = jrmX d) (hd : 6 ≤ d) (hE : jEndX X w Po Px) (hout : ∀ x ∈ (jXc X).exceptionTable.toList, False) (hXk : jXk w (jXs X)) (d0 : decode cc pc = .ok (.new ik, 3)) (d3 : decode cc (pc + 3) = .ok (.dup, 1)) (d4 : decode cc (pc + 4) = .ok (.invokespecial ic, 3)) (d7 : decode cc (pc + 7) = .ok (.athrow, 1)) (hp : Px cls h) : J X w h pc lv [] := by
  intro H locs ls hP hS hl
  rw [hE]
  obtain ⟨t1, t2, t3, t4, t5, t6, t7⟩ := T
  refine vx_throw0 (rest := []) (names := ["java/lang/RuntimeException", "java/lang/Exception"]) C.1 C.2.1 hl9 C.2.2.1 t1 (by decide) (C.2.2.2.1 _ t3) (C.2.2.2.1 _ t4) ?_ t7 hXk.2.1 hXk.2.2 hS hl.1 d0 d3 d4 d7 (fun x hx => (hout x hx).elim) ?_ ?_ ?_ ?_ C.2.2.2.2.2.2.2 ?_ hS.2.2 (Nat.le_refl _) (Nat.le_refl _)
  · exact vx_hat (fun v hv => C.2.2.2.1 v (t5 v hv)) t6 (vx_c (va_Nw.use rfl (hXk.1.1 cls t2)) (vx_c (va_Nw.use rfl (hXk.1.2 _ (by simp [jDX]))) (vx_c (va_Nw.use rfl (hXk.1.2 _ (by simp [jDX]))) (vx_c (va_Nw.use rfl (hXk.1.2 _ (by simp [jDX]))) vx_n))))
  · rw [hR]; show 2 + 3 < d; omega
  · rw [hR]; show 0 + (13 * (2 + 1) + 42) ≤ 40 * d; omega
  · rw [hR]; exact Nat.le_refl _
  · rw [hR]; exact Nat.le_refl _
  · intro t hA hz hk
    refine ⟨h, hp, hP.kept (fun k q hq => hk q.1 (vx_lt hP hq)), Nat.le_trans hS.1 hz, fun q h1 h2 => ?_⟩
    rw [hk q (Nat.lt_of_lt_of_le h1 hS.1)]
    exact hS.2.1 q h1 h2
end THR
theorem jThr_ill : jThr RX4 73 75 "java/lang/IllegalArgumentException" := ⟨by decide +kernel, by decide, by unfold wsL_law; simp only [List.mem_append]; exact Or.inl (Or.inl (Or.inl (Or.inl (by decide +kernel)))), by unfold wsL_law; simp only [List.mem_append]; exact Or.inl (Or.inl (Or.inl (Or.inl (by decide +kernel)))), fun v hv => by unfold wsL_law; simp only [List.mem_append]; exact Or.inl (Or.inl (Or.inl (Or.inr hv))), by decide +kernel, by decide +kernel⟩
theorem jThr_nos : jThr RX4 87 89 "java/util/NoSuchElementException" := ⟨by decide +kernel, by decide, by unfold wsL_law; simp only [List.mem_append]; exact Or.inl (Or.inl (Or.inl (Or.inl (by decide +kernel)))), by unfold wsL_law; simp only [List.mem_append]; exact Or.inl (Or.inl (Or.inl (Or.inl (by decide +kernel)))), fun v hv => by unfold wsL_law; simp only [List.mem_append]; exact Or.inl (Or.inl (Or.inr hv)), by decide +kernel, by decide +kernel⟩
theorem jThr_ils : jThr RX4 94 96 "java/lang/IllegalStateException" := ⟨by decide +kernel, by decide, by unfold wsL_law; simp only [List.mem_append]; exact Or.inl (Or.inl (Or.inl (Or.inl (by decide +kernel)))), by unfold wsL_law; simp only [List.mem_append]; exact Or.inl (Or.inl (Or.inl (Or.inl (by decide +kernel)))), fun v hv => by unfold wsL_law; simp only [List.mem_append]; exact Or.inl (Or.inr hv), by decide +kernel, by decide +kernel⟩
theorem jThr_uns : jThr RX4 100 102 "java/lang/UnsupportedOperationException" := ⟨by decide +kernel, by decide, by unfold wsL_law; simp only [List.mem_append]; exact Or.inl (Or.inl (Or.inl (Or.inl (by decide +kernel)))), by unfold wsL_law; simp only [List.mem_append]; exact Or.inl (Or.inl (Or.inl (Or.inl (by decide +kernel)))), fun v hv => by unfold wsL_law; simp only [List.mem_append]; exact Or.inr hv, by decide +kernel, by decide +kernel⟩
