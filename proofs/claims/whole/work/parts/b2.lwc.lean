/-! THE LAW: its rows -/
theorem jA_b {w : jW} (hw : jlin w) : ∀ q, jA w q → jAb w q := by
  rintro q ⟨k, hk, rfl⟩
  show jad w 0 ≤ jad w k
  rw [hw k]
  omega
theorem va_F.wide {A B : Nat → Prop} {st t : State} (hAB : ∀ q, A q → B q) (h : va_F A st t) : va_F B st t := ⟨h.1, fun q h1 h2 => h.2 q h1 (fun z => h2 (hAB q z))⟩
section LW
variable {X : jX} {w : jW} {h : jH} {I : Heap → Prop} {A : Nat → Prop} {nc ns : Nat} {cc : ByteArray} {own : String} {pc : Nat} {lv : List (Nat × Value)} {r : List Value} {Po : Option Value → jH → Prop}
theorem p_callV (C : jC X w cc own) (hAB : ∀ q, jA w q → A q) {index k ci n d0 : Nat} {y : MethodName} {bytes : ByteArray} {maxL : Nat} {ret : Option FieldType} {As st : List Value} (K : jCB own index y bytes maxL ret n ∧ Cond.instanceMethod y ∈ wsL_law ∧ Cond.selects (jR ci) y y ∈ wsL_law) (hM : jM (jXl X) w y bytes maxL ret d0 (.ref (jad w k) :: As) h Po) (hcl : vwCl[ci]? = some (jR ci, jT ci, jN ci)) (hk : k < 99) (hc : jk k = .inl ci) (hst : st = As.reverse ++ .ref (jad w k) :: r) (hn : As.length = n) (hr : (r.map fun v => v.category).sum ≤ 8) (hR : d0 + 1 ≤ (jXR X).frames ∧ 8 + (maxL + 11) + 40 * d0 ≤ (jXR X).locals) (hcs : nc ≤ (jXR X).cells ∧ ns ≤ (jXR X).slots) (d : decode cc pc = .ok (.invokevirtual index, 3))
    (kk : ∀ (v : Option Value) (h' : jH), Po v h' → JP X (va_P w.1 vwCl (jws w h')) A nc ns (pc + 3) lv (jcons v r)) : JP X (va_P w.1 vwCl (jws w h)) A nc ns pc lv st := by
  intro H locs ls hP hS hl
  obtain ⟨⟨hy1, hy2, hyn, hcode, hini, hlk⟩, hins, hsel⟩ := K
  have hG : GoodIn wsL_law (Cond.code y bytes maxL ret :: wsL_law) := jGoodIn hcode (fun _ h => h)
  have hF : CallFix (jXp X) (jXm X) (jXc X) cc (jXc X).maxLocals (jXs X) (jXa X) wsL_law own := ⟨C.1, C.2.1, rfl, C.2.2.1, C.2.2.2.1⟩
  have hrecv := va_recv C.2.2.2.2.1 hP hcl (show (jws w h)[k]? = some (jad w k, .inr (ci, jfs w h ci k)) by rw [jws_at w h hk, jcel_o hc])
  have hW : 2 * (F0 (jXm X) pc ls st).monitorRoom + (r.map fun v => v.category).sum ≤ 8 := by show 2 * 0 + _ ≤ 8; omega
  refine p_run (free := jA w) (mc := 0) (ms := 0) (r := r) (I' := fun v H1 => ∃ h', Po v h' ∧ va_P w.1 vwCl (jws w h') H1) (Qa := jQc w Po (Value.ref (jad w k) :: As).toArray) hAB (fun v => ?_) (fun v st t _ hq => ?_) hS hl ?_
  · refine p_ex (fun h' => p_and (fun hp => ?_))
    rw [jcons_eq]
    exact kk v h' hp
  · obtain ⟨v', h', e1, e2, e3, e4⟩ := hq
    cases e1
    exact ⟨e4.wide hAB, h', e2, e3⟩
  · rcases hlk with hlk | hlk
    · exact va_runV (C := jR ci) (b := jad w k) (As := As) (rest := r) hF hM ⟨callB_of n C.2.2.2.1 hG rfl rfl rfl (C.2.2.2.1 _ hini) (C.2.2.2.1 _ hlk) ⟨hy1, hy2, hyn⟩ hR, C.2.2.2.1 _ hins, C.2.2.2.1 _ hsel⟩ ⟨jblind, hrecv, jpre C hP⟩ rfl hn hl.1 hst hW d hcs
    · exact va_runVN (C := jR ci) (b := jad w k) (As := As) (rest := r) hF hM ⟨va_cnB n C.2.2.2.1 hG rfl rfl rfl (C.2.2.2.2.2.1.2 _ hlk) (C.2.2.2.1 _ hini) ⟨hy1, hy2, hyn⟩ hR, C.2.2.2.1 _ hins, C.2.2.2.1 _ hsel⟩ ⟨jblind, hrecv, jpre C hP⟩ rfl hn hl.1 hst hW d hcs
def jCH (own : String) (index : Nat) (y : MethodName) (bytes : ByteArray) (maxL : Nat) (hh : List (Nat × Nat × Nat × Nat)) (n : Nat) : Prop := y.cls ≠ "java/lang/invoke/MethodHandle" ∧ y.cls ≠ "java/lang/invoke/VarHandle" ∧ (parseMethodDescriptor y.desc).map (fun d => d.parameters.length) = some n ∧ Cond.codeWith y bytes maxL (some .int) hh ∈ wsL_law ∧ Cond.initialized y.cls ∈ wsL_law ∧ Cond.methodLink own index y ∈ wsL_law ∧ Cond.static y ∈ wsL_law
theorem p_callH (C : jC X w cc own) (hAB : ∀ q, jA w q → A q) (hXk : jXA A (jXs X)) (hNK : jNK (jXs X)) {index n d0 : Nat} {y : MethodName} {bytes : ByteArray} {maxL : Nat} {hh : List (Nat × Nat × Nat × Nat)} {As st : List Value} (K : jCH own index y bytes maxL hh n) (hM : jHp (jXl X) w y bytes maxL hh d0 As h Po) (hst : st = As.reverse ++ r) (hn : As.length = n) (hr : (r.map fun v => v.category).sum ≤ 8) (hR : d0 + 1 ≤ (jXR X).frames ∧ 8 + (maxL + 11) + 40 * d0 ≤ (jXR X).locals) (hcs : nc + 1 ≤ (jXR X).cells ∧ ns + 6 ≤ (jXR X).slots) (d : decode cc pc = .ok (.invokestatic index, 3))
    (kk : ∀ (v : Option Value) (h' : jH), Po v h' → JP X (va_P w.1 vwCl (jws w h')) A (nc + 1) (ns + 6) (pc + 3) lv (jcons v r)) : JP X (va_P w.1 vwCl (jws w h)) A nc ns pc lv st := by
  intro H locs ls hP hS hl
  obtain ⟨hy1, hy2, hyn, hcode, hini, hlk, hst9⟩ := K
  have hG : GoodIn wsL_law (Cond.codeWith y bytes maxL (some .int) hh :: wsL_law) := jGoodIn hcode (fun _ h => h)
  have hF : CallFix (jXp X) (jXm X) (jXc X) cc (jXc X).maxLocals (jXs X) (jXa X) wsL_law own := ⟨C.1, C.2.1, rfl, C.2.2.1, C.2.2.2.1⟩
  have hW : 2 * (F0 (jXm X) pc ls st).monitorRoom + (r.map fun v => v.category).sum ≤ 8 := by show 2 * 0 + _ ≤ 8; omega
  refine p_run (free := jA w) (mc := 1) (ms := 6) (r := r) (I' := fun v H1 => ∃ h', Po v h' ∧ va_P w.1 vwCl (jws w h') H1) (Qa := jQc w Po As.toArray) hAB (fun v => ?_) (fun v st t _ hq => ?_) hS hl ?_
  · refine p_ex (fun h' => p_and (fun hp => ?_))
    rw [jcons_eq]
    exact kk v h' hp
  · obtain ⟨v', h', e1, e2, e3, e4⟩ := hq
    cases e1
    exact ⟨e4.wide hAB, h', e2, e3⟩
  · exact vx_runSW (hh := hh) (bytes := bytes) (maxL := maxL) (ret := some .int) (ws := Cond.codeWith y bytes maxL (some .int) hh :: wsL_law) (rm := jrmX d0) (n := n) (As := As) (rest := r) hF hM ⟨⟨rfl, rfl, hR.1, hR.2, pay_in C.2.2.2.1 hG, List.mem_cons_self⟩, C.2.2.2.1 _ hcode, C.2.2.2.1 _ hini, ⟨hy1, hy2⟩, fun sig h9 => by rw [h9] at hyn; exact (Option.some.inj hyn).symm, C.2.2.2.1 _ hlk, C.2.2.2.1 _ hst9⟩ ⟨jblindH, fun U hU hW => ⟨rfl, by rw [hU]; exact hP, va_K.moved hW.alike C.2.2.2.2.1, jNok.warm hW C.2.2.2.2.2.1, hXk.to hAB hW (by rw [hU]; exact hS), fun q hq => (hNK q hq).moved hW.alike⟩⟩ rfl hn hl.1 hst hW d hcs
theorem p_sld (C : jC X w cc own) {b L n : Nat} {xs : Nat → Int32} {x : Int32} (hX : va_X b L xs (jXs X) (jXs X).heap) (hbl : b < (jXs X).heap.size) (hbA : ¬ A b) (hx : x = nI n) (hn : n < L) (hL : L < 2 ^ 31) (d : decode cc pc = .ok (.iaload, 1)) (kk : JP X I A nc ns (pc + 1) lv (.int (xs n) :: r)) : JP X I A nc ns pc lv (.int x :: .ref b :: r) := by
  intro H locs ls hP hS hl
  subst hx
  refine va_sld C.1 C.2.1 hX hbl hbA hS (vp_in_nI hn hL) d ?_
  rw [nI_clamp (by omega)]
  exact kk H locs ls hP hS hl
theorem p_slen (C : jC X w cc own) {b L : Nat} {xs : Nat → Int32} (hX : va_X b L xs (jXs X) (jXs X).heap) (hbl : b < (jXs X).heap.size) (hbA : ¬ A b) (d : decode cc pc = .ok (.arraylength, 1)) (kk : JP X I A nc ns (pc + 1) lv (.int (nI L) :: r)) : JP X I A nc ns pc lv (.ref b :: r) := fun H locs ls hP hS hl => va_slen C.1 C.2.1 hX hbl hbA hS d (kk H locs ls hP hS hl)
end LW
/-- cell(xs, 0) -/
def jCel (l : Launch) (w : jW) (b L : Nat) (xs : Nat → Int32) : Prop := Met l yL_cell (Cond.code yL_cell cL_cell 2 (some .int) :: wsL_law) (jrm 0) (va_Pc [.ref b, .int 0] (fun U => va_X b L xs U U.heap ∧ b < U.heap.size ∧ va_K w.1 vwCl (jtys w) U ∧ jNok U)) (fun _ st oc t => oc = .returned (some (.int (if 0 < L then xs 0 else 0))) ∧ t.heap = st.heap) 0 0 (fun _ => False)
theorem v_Cell {l : Launch} {w : jW} (hw : jok w) {b L : Nat} {xs : Nat → Int32} (hL : L ≤ 4097) : jCel l w b L xs := by
  refine Met.ofW (cc := cL_cell) (maxL := 2) (ret := some .int) (by decide) rfl ?_
  intro p e s m args below meth c s₁ B hml hv
  obtain ⟨rfl, hX, hbl, hK, hN⟩ := hv
  have hts := atoms_spec (ws := Cond.code yL_cell cL_cell 2 (some .int) :: wsL_law) B.pre
  have hl := lv_entry [.ref b, .int 0] (n := 2) (Nat.le_of_ble_eq_true rfl)
  rw [lg_entry_eq]
  generalize (lg_sl [.ref b, .int 0] ++ List.replicate (2 - (lg_sl [.ref b, .int 0]).length) Slot.unset).toArray = ls at hl ⊢
  have body : ∀ X : jX, jC X w cL_cell RL → (jXh X).sig.returnType = some .int → va_X b L xs (jXs X) (jXs X).heap → b < (jXs X).heap.size → jXQ X = MQ (jXb X) (fun _ st oc t => oc = .returned (some (.int (if 0 < L then xs 0 else 0))) ∧ t.heap = st.heap) (jXa X) (jXs X) 0 0 (fun _ => False) → JP X (fun H => H = (jXs X).heap) (fun _ => False) 0 0 0 [(0, .ref b), (1, .int 0)] [] := by
    intro X C hrt hX hbl hE
    have fin : ∀ (v : Int32) (lv : List (Nat × Value)), v = (if 0 < L then xs 0 else 0) → JP X (fun H => H = (jXs X).heap) (fun _ => False) 0 0 13 lv [.int v] := by
      intro v lv hv H locs ls hP hS hl
      rw [hE]
      exact W.iret C.1 C.2.1 hrt (fun t ht _ => ⟨by rw [hv], by rw [ht]; exact hP⟩) hS.2.2 dL_cell_13 C.2.2.2.2.2.2.2
    skip
    refine q_iload_n C dL_cell_0 rfl ?_
    refine q_aload_n C dL_cell_1 rfl ?_
    refine p_slen C hX hbl (fun h => h) dL_cell_2 ?_
    refine p_icmp_ge C 12 dL_cell_3 (by decide) (fun c3 => ?_) (fun c3 => ?_)
    · have hL0 : ¬ 0 < L := fun h9 => absurd c3 (nI_ge (a := 0) (b := L) h9 (by omega))
      refine p_iconst (v := 0) C dL_cell_12 (by decide) ?_
      exact fin _ _ (by first | rw [if_pos hL0] | rw [if_neg hL0])
    · have hL0 : 0 < L := by rcases Nat.eq_zero_or_pos L with e | e; (subst e; exact absurd (by decide : nI 0 ≤ (0 : Int32)) c3); exact e
      refine q_aload_n C dL_cell_6 rfl ?_
      refine q_iload_n C dL_cell_7 rfl ?_
      refine p_sld (n := 0) C hX hbl (fun h => h) rfl hL0 (by omega) dL_cell_8 ?_
      refine p_goto C 13 dL_cell_9 (by decide) ?_
      exact fin _ _ (by first | rw [if_pos hL0] | rw [if_neg hL0])
  exact body (p, l, e, jrm 0, s, m, [Value.ref b, Value.int 0].toArray, below, meth, c, MQ below (fun _ st oc t => oc = .returned (some (.int (if 0 < L then xs 0 else 0))) ∧ t.heap = st.heap) [Value.ref b, Value.int 0].toArray s 0 0 (fun _ => False)) ⟨B.exec, B.bytes, findClass_of_methodNamed B.named, fun v hv => hts v (List.mem_cons_of_mem _ hv), hK, hN, hw, B.notSynchronized⟩ B.returns hX hbl rfl s.heap [] ls rfl va_S.rf (by show lv_has ls c.maxLocals _; rw [hml]; exact hl)
