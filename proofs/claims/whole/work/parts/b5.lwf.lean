/-! THE CLAIM OUT OF ONE WALK OF THE LAW'S BODY. Your part is whole_start (and what it stands on); all else here is the same for every law, but numbers. -/
def R_law : String := "ModuleLinkerLaw"
def lw_P (b : Addr) (xs : List Int32) (args : Array Value) (s : State) : Prop := args = #[.ref b] ∧ s.IntsAt b xs ∧ xs.length ≤ 4097 ∧ (Jvm.Cond.and given_1 narrow_1).before args s = true
def lw_Q (_ : Array Value) (s : State) (o : Outcome) (t : State) : Prop := o = .returned (some (.int 1)) ∧ Framed s o t [] 601024 7293000
def lw_Z (below : List Frame) (a : Array Value) (s : State) : State → Prop := fun t => ∃ o, t.status = .running ∧ Ended t below o ∧ lw_Q a s o t
/-- the law's own end, with 1 on the stack, nothing written that was there before, its room as the claim has it -/
theorem lw_ret {p : Program} {l : Launch} {e : Env} {s : State} {m : MethodId} {below : List Frame} {meth : Method} {c : Code} {b : Nat} (hx : p.tables.exec = Jvm.exec) (hb : c.code = code) (hr : meth.sig.returnType = ret) (hlocks : meth.locks = false) {pc : Nat} {H : Heap} {ls : Array Slot} (hdg : decode code pc = .ok (.ireturn, 1)) : W p l e room_1 s m #[Value.ref b] below meth c H [] 601024 7293000 (lw_Z below #[Value.ref b] s) (F0 m pc ls [.int 1]) := by
  intro T hT X
  obtain ⟨fs, hret, hrun, hended, hW, hframe⟩ := X.leave (v := some (.int 1)) (hlocks := hlocks) (fun h => by rw [hr] at h; cases h)
  have hmeth' : T.vm.method? m = some meth := X.method'
  refine ⟨T.setFrames fs, ?_, .returned (some (.int 1)), hrun, hended, rfl, ⟨_, rfl⟩, hW, hframe⟩
  jvm_step X.here [X.here.top, hx, hb, hdg, hmeth', hr, ret, narrow_b1]
  (try refine ⟨rfl, ?_⟩); (try refine ⟨rfl, ?_⟩)
  first | (intro acts; rw [hret _ acts rfl rfl rfl]) | rw [hret _ _ rfl rfl rfl]
  exact Steps.refl _
/-- what holds at the law's entry: the machine, the code, the tables' words (any of lw_tbl by 'hts w (by decide +kernel)'), the script of L ints xs at the cell b, what the Statement gives of the start (any of its parts by flat_of_before) -/
def lw_At (p : Program) (s : State) (m : MethodId) (meth : Method) (c : Code) (b L : Nat) (xs : Nat → Int32) : Prop :=
  p.tables.exec = Jvm.exec ∧ c.code = code ∧ meth.sig.returnType = ret ∧ c.maxLocals = 7 ∧ s.vm.findClass R_law = some m.cls ∧ (∀ w ∈ lw_tbl, w.before #[Value.ref b] s = true) ∧ va_X b L xs s s.heap ∧ b < s.heap.size ∧ meth.locks = false ∧ (Jvm.Cond.and given_1 narrow_1).before #[Value.ref b] s = true
/-! THE LAW'S LOOP -/
section LO
variable {X : jX} {w : jW} {b L sz : Nat} {xs : Nat → Int32}
theorem c40_iff {i L : Nat} (hi : i ≤ 4097) (hL : L ≤ 4097) : nI L - 8 < nI i ↔ L < i + 8 := by
  rw [Int32.lt_iff_toInt_lt, Int32.toInt_sub, nI_toInt (by omega), nI_toInt (by omega), show (8 : Int32).toInt = 8 from rfl]
  have e : ((L : Int) - 8).bmod (2 ^ 32) = (L : Int) - 8 := by
    rw [Int.bmod_def]
    split <;> omega
  rw [e]
  omega
theorem law_loop (Z : LC X w b L xs) (hfin : ∀ nc ns i h, nc ≤ 601024 → ns ≤ 7293000 → JP X (va_P w.1 vwCl (jws w h)) (jAb w) nc ns 571 (lvL w b i) []) : ∀ n i nc ns G h, L < i + 8 * n + 8 → i ≤ 4097 → nc + n ≤ 601024 → ns + 6 * n ≤ 7293000 → LI sz G h → JP X (va_P w.1 vwCl (jws w h)) (jAb w) nc ns 33 (lvL w b i) [] := by
  have Z9 := Z
  obtain ⟨C, hw, hR, hl9, hXk, hNK, hX, hbl, hbA, hnL, hL⟩ := Z9
  intro n
  induction n with
  | zero =>
    intro i nc ns G h h1 h2 h3 h4 H
    skip
    refine q_iload C dL_law_33 rfl ?_
    refine q_aload_n C dL_law_35 rfl ?_
    refine p_slen C hX hbl hbA dL_law_36 ?_
    refine p_bipush (v := 8) C dL_law_37 (by decide) ?_
    refine p_isub C dL_law_39 ?_
    refine p_icmp_gt C 571 dL_law_40 (by decide) (fun c40 => ?_) (fun c40 => ?_)
    · exact hfin nc ns i h (by omega) (by omega)
    · exact absurd ((c40_iff h2 hL).mpr (by omega)) c40 -- stop
  | succ n ih =>
    intro i nc ns G h h1 h2 h3 h4 H
    by_cases hi : i + 8 ≤ L
    · have N : LN X w b i sz (nc + 1) (ns + 6) := by
        intro G' h' H'
        refine q_iinc (v := nI (i + 8)) C dL_law_565 rfl (nI_add i 8) (by rw [hnL]; decide) ?_
        refine p_goto C 33 dL_law_568 (by decide) ?_
        exact ih (i + 8) (nc + 1) (ns + 6) G' h' (by omega) (by omega) (by omega) (by omega) H'
      have hcs : nc + 1 ≤ 601024 ∧ ns + 6 ≤ 7293000 := ⟨by omega, by omega⟩
      have sw : ∀ v : Int32, JP X (va_P w.1 vwCl (jws w h)) (jAb w) nc ns 50 (lvL w b i) [.int v] := by
        intro v
        by_cases hr : 0 ≤ v.toInt ∧ v.toInt ≤ 9
        · obtain ⟨k, hk, e⟩ : ∃ k, k < 10 ∧ v = nI k := ⟨v.toInt.toNat, by omega, Int32.toInt_inj.mp (by rw [nI_toInt (by omega)]; omega)⟩
          subst e
          rcases (show k = 0 ∨ k = 1 ∨ k = 2 ∨ k = 3 ∨ k = 4 ∨ k = 5 ∨ k = 6 ∨ k = 7 ∨ k = 8 ∨ k = 9 by omega) with rfl | rfl | rfl | rfl | rfl | rfl | rfl | rfl | rfl | rfl
          · exact p_tableIn C 104 dL_law_50 (by decide) (by decide) rfl (by decide) (op_0 Z hi hcs H N)
          · exact p_tableIn C 141 dL_law_50 (by decide) (by decide) rfl (by decide) (op_1 Z hi hcs H N)
          · exact p_tableIn C 185 dL_law_50 (by decide) (by decide) rfl (by decide) (op_2 Z hi hcs H N)
          · exact p_tableIn C 198 dL_law_50 (by decide) (by decide) rfl (by decide) (op_3 Z hi hcs H N)
          · exact p_tableIn C 234 dL_law_50 (by decide) (by decide) rfl (by decide) (op_4 Z hi hcs H N)
          · exact p_tableIn C 278 dL_law_50 (by decide) (by decide) rfl (by decide) (op_5 Z hi hcs H N)
          · exact p_tableIn C 303 dL_law_50 (by decide) (by decide) rfl (by decide) (op_6 Z hi hcs H N)
          · exact p_tableIn C 383 dL_law_50 (by decide) (by decide) rfl (by decide) (op_7 Z hi hcs H N)
          · exact p_tableIn C 515 dL_law_50 (by decide) (by decide) rfl (by decide) (op_8 Z hi hcs H N)
          · exact p_tableIn C 540 dL_law_50 (by decide) (by decide) rfl (by decide) (op_9 Z hi hcs H N)
        · exact p_tableOut C 565 dL_law_50 (by omega) (by decide) (p_widen (by omega) (by omega) (N G h H))
      skip
      refine q_iload C dL_law_33 rfl ?_
      refine q_aload_n C dL_law_35 rfl ?_
      refine p_slen C hX hbl hbA dL_law_36 ?_
      refine p_bipush (v := 8) C dL_law_37 (by decide) ?_
      refine p_isub C dL_law_39 ?_
      refine p_icmp_gt C 571 dL_law_40 (by decide) (fun c40 => ?_) (fun c40 => ?_)
      · exact absurd ((c40_iff h2 hL).mp c40) (by omega) -- stop
      · refine q_aload_n C dL_law_43 rfl ?_
        refine q_iload C dL_law_44 rfl ?_
        refine p_sld (n := i) C hX hbl hbA rfl (by omega) (by omega) dL_law_46 ?_
        refine p_bipush (v := 15) C dL_law_47 (by decide) ?_
        refine p_iand C dL_law_49 ?_
        exact sw _
    · skip
      refine q_iload C dL_law_33 rfl ?_
      refine q_aload_n C dL_law_35 rfl ?_
      refine p_slen C hX hbl hbA dL_law_36 ?_
      refine p_bipush (v := 8) C dL_law_37 (by decide) ?_
      refine p_isub C dL_law_39 ?_
      refine p_icmp_gt C 571 dL_law_40 (by decide) (fun c40 => ?_) (fun c40 => ?_)
      · exact hfin nc ns i h (by omega) (by omega)
      · exact absurd ((c40_iff h2 hL).mpr (by omega)) c40 -- stop
end LO
