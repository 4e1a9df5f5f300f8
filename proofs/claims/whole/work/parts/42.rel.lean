/-! what a reading method of the compiler has done, from place a in mode md, when the text there reads as pr; bs: the number of its first event -/
def cRel (me bs : Nat) (md : cMd) (pr : PR) (a' : Nat) (md' : cMd) (r : Option Value) : Prop := match md, pr with
  | none, _ => md' = none ∧ ∃ x : Int32, r = some (.int x)
  | some _, none => md' = none ∧ ∃ x : Int32, r = some (.int x)
  | some none, some p => a' = p.1 ∧ md' = some none ∧ ∃ x : Int32, r = some (.int x)
  | some (some q), some p => a' = p.1 ∧ match p.2 bs q.2.1 with
    | none => md' = some none ∧ ∃ x : Int32, r = some (.int x)
    | some z => r = some (.int (nI z.1)) ∧ ∃ F' : Nat → Int32, md' = some (some (q.1 + cpos z.2.1, q.2.1, max q.2.2.1 z.2.2, F')) ∧ (∀ p, p < q.1 → F' p = q.2.2.2 p) ∧ ∀ P : Nat → Nat, P bs = q.1 → cmp P bs z.2.1 → Rep F' me P bs z.2.1
/-- the bounds ahead of a reading, and behind it -/
def cBd (a : Nat) (md : cMd) : Prop := ∀ q, md = some (some q) → q.1 ≤ 2 * a ∧ q.2.1 ≤ 2 * a ∧ q.2.2.1 ≤ 2 * a
def cBe (a : Nat) (md : cMd) : Prop := ∀ q, md = some (some q) → q.1 + 1 ≤ 2 * a ∧ q.2.1 + 2 ≤ 2 * a ∧ q.2.2.1 ≤ 2 * a
section REL
variable {l : Launch} {w : jW} {h0 h : jH} {u : Nat} {t : Nat → Nat} {n : Nat} {hs : List (Nat × Nat × Nat)} {me sg bs : Nat} {a a' : Nat} {md md' : cMd} {r : Option Value}
theorem cRel_int {pr : PR} (h : cRel me bs md pr a' md' r) : ∃ x : Int32, r = some (.int x) := by
  unfold cRel at h
  split at h
  · exact h.2
  · exact h.2
  · exact h.2.2
  · split at h
    · exact h.2.2
    · exact ⟨_, h.2.1⟩
theorem cRel_bd {sub : Nat → PR} (hp : pgr n sub) (hz : szs sub) (hb : cBd a md) (h : cRel me bs md (sub a) a' md' r) : cBe a' md' := by
  intro q' hq'
  subst hq'
  unfold cRel at h
  split at h
  · cases h.1
  · cases h.1
  · cases h.2.1
  · next q p e =>
    obtain ⟨a1, f⟩ := p
    obtain ⟨rfl, h⟩ := h
    split at h
    · cases h.1
    · next z ez =>
      obtain ⟨y, ev, m⟩ := z
      obtain ⟨-, F', e1, -⟩ := h
      have h1 := hp _ _ _ e
      obtain ⟨-, h2, -, h3⟩ := hz _ _ _ e _ _ _ _ _ ez
      have h4 := hb q rfl
      simp only [Option.some.injEq] at e1
      subst e1
      dsimp only at h1 h2 h3 ⊢
      omega
theorem oNd_ok {x y : Int32} {q : Nat × Nat × Nat × (Nat → Int32)} (h : oNd x y md = some (some q)) : x = y ∧ md = some (some q) := by
  unfold oNd at h
  split at h
  · cases h
  · split at h
    · next e => exact ⟨e, h⟩
    · cases h
theorem oHo_ok {k : Nat} {q : Nat × Nat × Nat × (Nat → Int32)} (h : oHo k md = some (some q)) : ∃ p, md = some (some p) ∧ q = (emC p.1, p.2.1 + k, max p.2.2.1 (p.2.1 + k), emF p.1 p.2.2.2 (if k = 2 then 4 else 3) 0) := by
  unfold oHo at h
  split at h
  · next p => exact ⟨p, rfl, by simpa using h.symm⟩
  · next m hn => exact absurd h (hn q)
theorem oEm_ok {x y : Int32} {q : Nat × Nat × Nat × (Nat → Int32)} (h : oEm x y md = some (some q)) : ∃ p, md = some (some p) ∧ q = (emC p.1, p.2.1, p.2.2.1, emF p.1 p.2.2.2 x y) := by
  unfold oEm at h
  split at h
  · next p => exact ⟨p, rfl, by simpa using h.symm⟩
  · next m hn => exact absurd h (hn q)
theorem oRl_ok {k : Nat} {q : Nat × Nat × Nat × (Nat → Int32)} (h : oRl k md = some (some q)) : ∃ p, md = some (some p) ∧ q = (p.1, p.2.1 - k, p.2.2.1, p.2.2.2) := by
  unfold oRl at h
  split at h
  · next p => exact ⟨p, rfl, by simpa using h.symm⟩
  · next m hn => exact absurd h (hn q)
theorem oLa_ok {j : Nat} {q : Nat × Nat × Nat × (Nat → Int32)} (h : oLa j md = some (some q)) : ∃ p, md = some (some p) ∧ q = (p.1, p.2.1, p.2.2.1, if j < 240 then va_up p.2.2.2 j (p.2.2.2 j ||| nI p.1 <<< ((4 : Int32) &&& 31)) else p.2.2.2) := by
  unfold oLa at h
  split at h
  · next p => exact ⟨p, rfl, by simpa using h.symm⟩
  · next m hn => exact absurd h (hn q)
theorem oAt_ok {b : Bool} {q : Nat × Nat × Nat × (Nat → Int32)} (h : (oAt b n a a' md).2 = some (some q)) : b = true ∧ md = some (some q) := by
  unfold oAt at h
  split at h
  · next e => exact ⟨e, h⟩
  · cases h
theorem nx_or (a b : Nat) : nI a ||| nI b = nI (a ||| b) := by
  apply Int32.toBitVec_inj.1
  show BitVec.ofNat 32 a ||| BitVec.ofNat 32 b = BitVec.ofNat 32 (a ||| b)
  apply BitVec.eq_of_getLsbD_eq
  intro i hi
  simp [hi]
theorem emv {k o : Nat} (hk : k < 16) (ho : o < 2 ^ 20) : nI k ||| nI o <<< ((4 : Int32) &&& 31) = nI (k + 16 * o) := by
  rw [pk_shlN _ 4 (by decide) (by omega), nx_or]
  have := Nat.two_pow_add_eq_or_of_lt (i := 4) (b := k) (by omega) o
  rw [show o * 2 ^ 4 = 2 ^ 4 * o by omega, Nat.or_comm, ← this]
  congr 1
  omega
theorem emF_low {c p : Nat} {F : Nat → Int32} {x y : Int32} (h : p < c) : emF c F x y p = F p := by
  unfold emF
  split
  · simp [va_up, Nat.ne_of_lt h]
  · rfl
theorem emF_at {c k o : Nat} {F : Nat → Int32} (hc : c < 240) (hk : k < 16) (ho : o < 2 ^ 20) : emF c F (nI k) (nI o) c = nI (k + 16 * o) := by
  unfold emF
  rw [if_pos hc]
  simp only [va_up, if_true]
  exact emv hk ho
theorem rep_emit {c k o : Nat} {F : Nat → Int32} {P : Nat → Nat} {e : Ev} (hc : c < 240) (hk : k < 16) (ho : o < 2 ^ 20) (hP : P bs = c) (he : enc me P e = k + 16 * o) : Rep (emF c F (nI k) (nI o)) me P bs [e] := ⟨fun _ => by rw [hP, emF_at hc hk ho, he], trivial⟩
theorem emC_lt {c : Nat} (h : c < 240) : emC c = c + 1 := by unfold emC; rw [if_pos h]
theorem nmb_v : ∀ (f a v B : Nat), v < B → (nmb t n f a v).2 < B * 10 ^ f
  | 0, a, v, B, h => by simp [nmb]; exact h
  | f + 1, a, v, B, h => by
    unfold nmb
    split
    · next c =>
      have := nmb_v f (a + 1) (10 * v + (pek t n a - 48)) (B * 10) (by omega)
      rw [Nat.pow_succ, Nat.mul_comm (10 ^ f) 10, ← Nat.mul_assoc]
      exact this
    · have : 1 ≤ 10 ^ (f + 1) := Nat.one_le_pow _ _ (by decide)
      calc v < B := h
        _ = B * 1 := by omega
        _ ≤ B * 10 ^ (f + 1) := Nat.mul_le_mul_left _ this
theorem nmbRel {b v : Nat} (hn : n ≤ 120) (hb : cBd a md) (hd9 : 48 ≤ pek t n a ∧ pek t n a ≤ 57) (hv : v < 10000) (e : nmb t n 4 a 0 = (b, v)) : cRel me bs md (pNum t n a) b (oEm (nI 0) (nI v) md) (some (.int 1)) := by
  have hlt := pek_gt (c := 0) (t := t) (n := n) (a := a) (by omega)
  have e1 : (nmb t n 4 a 0).1 = b := by rw [e]
  have e2 : (nmb t n 4 a 0).2 = v := by rw [e]
  unfold pNum
  rcases md with _ | _ | q
  · exact ⟨rfl, _, rfl⟩
  · exact ⟨e1.symm, rfl, _, rfl⟩
  · have h4 := hb q rfl
    refine ⟨e1.symm, rfl, emF q.1 q.2.2.2 (nI 0) (nI v), ?_, fun p hp => emF_low hp, fun P hP hcm => ?_⟩
    · simp only [oEm, cpos, kcl]
      rw [emC_lt (by omega)]
      simp
    · refine rep_emit (by omega) (by omega) (by omega) hP ?_
      show 16 * (nmb t n 4 a 0).2 = _
      rw [e2]; omega
theorem c_readNumber (hw : jok w) (hS : cS h0 u t n hs me sg) (hc : cAt h0 h u n a md) (hb : cBd a md) (hd9 : 48 ≤ pek t n a ∧ pek t n a ≤ 57) : jM l w yX0_readNumber cX0_readNumber 3 (some .int) 2 [.ref (jad w 13)] h (fun r h' => ∃ a' md', cAt h0 h' u n a' md' ∧ cRel me bs md (pNum t n a) a' md' r) := by
  refine jM_of (by decide) hw (Nat.le_of_ble_eq_true rfl) ?_
  intro X C hl hR hnL hrt hE
  subst hl
  have C : jC X w cX0_readNumber RX0 := C
  obtain ⟨k3, k4, k5, k6, k7⟩ := jk_unit u hS.u7
  have hn := cS_n hS
  have hv9 := nmb_v (t := t) (n := n) 4 a 0 1 (by decide)
  show J X w h 0 [(0, .ref (jad w 13))] []
  have fin : ∀ (h : jH) (i b v : Nat), cAt h0 h u n b md → nmb t n 4 a 0 = (b, v) → J X w h 43 [(0, .ref (jad w 13)), (1, .int (nI v)), (2, .int (nI i))] [] := by
    intro h i b v hc e
    have hv : v < 10000 := by rw [e] at hv9; simpa using hv9
    obtain ⟨_, _, _, _, _, _, _, h2⟩ := cAt_any hc
    refine k_aload_n C dX0_readNumber_43 rfl ?_
    refine j_getr C fX0_22 rfl (by first | decide | omega) (by first | assumption | rfl) (by rw [h2.1.1]; exact hS.2.1) dX0_readNumber_44 ?_
    refine j_iconst (v := 0) C dX0_readNumber_47 (by decide) ?_
    refine k_iload_n C dX0_readNumber_48 rfl ?_
    refine k_callV (k := ub u) (ci := 3) (As := [.int (nI 0), .int (nI v)]) C mX0_131 (t_emit hw hS hc (nI 0) (nI v)) jCl3.1 (by first | decide | omega) (by first | assumption | rfl) rfl rfl (Nat.le_of_ble_eq_true rfl) (jroom hR (by first | decide | omega) (by decide)) dX0_readNumber_49 ?_
    rintro v9 h9 ⟨⟨c9, -, rfl, -⟩, hc⟩
    refine j_pop C dX0_readNumber_52 rfl ?_
    refine j_iconst (v := 1) C dX0_readNumber_53 (by decide) ?_
    exact j_iret C hrt hE dX0_readNumber_54 (⟨b, _, hc, nmbRel hn hb hd9 hv e⟩)
  have loop : ∀ (m i b v : Nat) (h : jH), i + m = 4 → cAt h0 h u n b md → nmb t n 4 a 0 = nmb t n m b v → v < 10 ^ i → J X w h 4 [(0, .ref (jad w 13)), (1, .int (nI v)), (2, .int (nI i))] [] := by
    intro m
    induction m with
    | zero =>
      intro i b v h hi hc e hv
      refine k_iload_n C dX0_readNumber_4 rfl ?_
      refine j_iconst (v := 4) C dX0_readNumber_5 (by decide) ?_
      refine j_icmp_ge C 43 dX0_readNumber_6 (by decide) (fun c6 => ?_) (fun c6 => ?_)
      · exact fin h i b v hc (by rw [e]; rfl)
      · exact absurd (nI_le (a := 4) (b := i) (by omega) (by omega)) c6 -- stop
    | succ m ih =>
      intro i b v h hi hc e hv
      obtain ⟨_, _, _, _, _, _, _, h2⟩ := cAt_any hc
      have hpk := pek_lt (FrTx h2.1 hS.u7 hS.2.2.1) b
      refine k_iload_n C dX0_readNumber_4 rfl ?_
      refine j_iconst (v := 4) C dX0_readNumber_5 (by decide) ?_
      refine j_icmp_ge C 43 dX0_readNumber_6 (by decide) (fun c6 => ?_) (fun c6 => ?_)
      · exact absurd c6 (nI_ge (a := i) (b := 4) (by omega) (by omega)) -- stop
      · refine k_aload_n C dX0_readNumber_9 rfl ?_
        refine k_callV (k := 13) (ci := 0) (As := []) C mX0_64 (t_peek hw hS hc) jCl0.1 (by first | decide | omega) (by first | assumption | rfl) rfl rfl (Nat.le_of_ble_eq_true rfl) (jroom hR (by first | decide | omega) (by decide)) dX0_readNumber_10 ?_
        rintro v9 h9 ⟨rfl, rfl⟩
        refine j_bipush (v := 48) C dX0_readNumber_13 (by decide) ?_
        refine j_bipush (v := 57) C dX0_readNumber_15 (by decide) ?_
        refine k_callS (As := [.int (nI (pek t n b)), .int (nI 48), .int (nI 57)]) C mX0_151 (m_isIn hw (x := pek t n b) (y := 48) (z := 57) (by omega) (by omega) (by omega)) rfl rfl (Nat.le_of_ble_eq_true rfl) (jroom hR (by first | decide | omega) (by decide)) dX0_readNumber_17 ?_
        rintro v9 h9 ⟨rfl, rfl⟩
        refine j_if_eq C 43 dX0_readNumber_20 (by decide) (fun c20 => ?_) (fun c20 => ?_)
        · rw [i1z] at c20
          exact fin _ i b v hc (by rw [e]; unfold nmb; rw [if_neg c20])
        · rw [i1z, Classical.not_not] at c20
          refine j_bipush (v := 10) C dX0_readNumber_23 (by decide) ?_
          refine k_iload_n C dX0_readNumber_25 rfl ?_
          refine j_imul C dX0_readNumber_26 ?_
          refine k_aload_n C dX0_readNumber_27 rfl ?_
          refine j_bipush (v := 48) C dX0_readNumber_28 (by decide) ?_
          refine j_bipush (v := 57) C dX0_readNumber_30 (by decide) ?_
          refine k_callV (k := 13) (ci := 0) (As := [.int (nI 48), .int (nI 57)]) C mX0_57 (t_readAmong hw hS hc (lo := 48) (hi := 57) (by omega) (by omega) (by omega)) jCl0.1 (by first | decide | omega) (by first | assumption | rfl) rfl rfl (Nat.le_of_ble_eq_true rfl) (jroom hR (by first | decide | omega) (by decide)) dX0_readNumber_32 ?_
          rintro v9 h9 ⟨rfl, hc⟩
          simp only [oAt, c20, and_self, decide_true, if_true] at hc
          refine j_iadd C dX0_readNumber_35 ?_
          refine k_istore_n C dX0_readNumber_36 (by rw [hnL]; decide) ?_
          refine k_iinc C dX0_readNumber_37 rfl rfl (by rw [hnL]; decide) ?_
          refine j_goto C 4 dX0_readNumber_40 (by decide) ?_
          rw [if_pos c20, show (10 : Int32) = nI 10 from rfl, pk_mul, nI_add, show nI i + Int32.ofInt 1 = nI (i + 1) from nI_1 i]
          have e2 : nmb t n 4 a 0 = nmb t n m (b + 1) (10 * v + (pek t n b - 48)) := by rw [e]; conv => lhs; unfold nmb; rw [if_pos c20]
          refine ih (i + 1) (b + 1) (10 * v + (pek t n b - 48)) _ (by omega) hc e2 ?_
          rw [Nat.pow_succ]; omega
  refine j_iconst (v := 0) C dX0_readNumber_0 (by decide) ?_
  refine k_istore_n C dX0_readNumber_1 (by rw [hnL]; decide) ?_
  refine j_iconst (v := 0) C dX0_readNumber_2 (by decide) ?_
  refine k_istore_n C dX0_readNumber_3 (by rw [hnL]; decide) ?_
  exact loop 4 0 a 0 h (by omega) hc rfl (by omega)
end REL
