/-! THE COMPILER'S STATE while it reads the bodies of unit u: against a heap h0 only its place (a), its two faults (tw, yw), what is held (hd), the room (rm), the code's length (c) and the code (F) have changed. -/
def Fr (u : Nat) (h h' : jH) : Prop := h'.2 = h.2 ∧ ∀ k j, ¬ (k = 13 ∧ (j = 2 ∨ j = 4 ∨ j = 5 ∨ j = 7 ∨ j = 8)) → ¬ (k = ub u ∧ j = 3) → k ≠ ub u + 2 → h'.1 k j = h.1 k j
def cst (h0 h : jH) (u a : Nat) (tw yw hd rm : Int32) (c : Nat) (F : Nat → Int32) : Prop := Fr u h0 h ∧ h.1 13 2 = nI a ∧ h.1 13 4 = tw ∧ h.1 13 5 = yw ∧ h.1 13 7 = hd ∧ h.1 13 8 = rm ∧ h.1 (ub u) 3 = nI c ∧ h.1 (ub u + 2) = F
theorem jroomM {X : jX} {d : Nat} {r : List Value} (hR : jXR X = jrm d) (hd : 1 ≤ d) (hs : (r.map fun v => v.category).sum ≤ 8) : 1 ≤ (jXR X).frames ∧ (r.map fun v => v.category).sum + 13 ≤ (jXR X).locals := by
  rw [hR]
  refine ⟨hd, ?_⟩
  show _ ≤ 40 * d
  omega
theorem ub_in {u : Nat} (hu : u < 7) : 4 ≤ ub u ∧ (ub u + 8 < 13 ∨ 13 < ub u) ∧ ub u + 8 < 68 := by unfold ub; split <;> omega
/-- what stays while the bodies are read: the unit's cells, the text, the heads, the signature of the definition -/
def oI (o : Nat) : Int32 := nI o - 1
def cS (h : jH) (u : Nat) (t : Nat → Nat) (n : Nat) (hs : List (Nat × Nat × Nat)) (me sg : Nat) : Prop := ur h u ∧ h.2.1 13 3 = some (ub u) ∧ tx h t n ∧ h.1 (ub u) 0 = nI me ∧ me < 6 ∧ h.1 (ub u) 1 = nI hs.length ∧ hs.length ≤ 6 ∧ (∀ i (hi : i < hs.length), h.1 (ub u + 3 + i) 0 = oI (hs[i]).1 ∧ h.1 (ub u + 3 + i) 1 = nI (hs[i]).2.1 ∧ h.1 (ub u + 3 + i) 2 = nI (hs[i]).2.2 ∧ (hs[i]).1 ≤ 6 ∧ (hs[i]).2.1 < 26 ∧ (hs[i]).2.2 < 256) ∧ h.1 13 6 = nI sg ∧ sg < 256
section CST
variable {l : Launch} {w : jW} {h0 h : jH} {u : Nat} {t : Nat → Nat} {n : Nat} {hs : List (Nat × Nat × Nat)} {me sg : Nat} {a c : Nat} {tw yw hd rm : Int32} {F : Nat → Int32}
theorem FrUr (hF : Fr u h0 h) (hu : ur h0 u) : ur h u := by
  obtain ⟨e, -⟩ := hF
  unfold ur at hu ⊢
  rw [e]; exact hu
theorem FrTx (hF : Fr u h0 h) (hu : u < 7) (ht : tx h0 t n) : tx h t n := by
  have := ub_in hu
  obtain ⟨e, k⟩ := hF
  obtain ⟨h1, h2, h3, h4⟩ := ht
  refine ⟨by rw [e]; exact h1, ?_, h3, fun i hi => ?_⟩
  · rw [k 13 1 (by omega) (by omega) (by omega)]; exact h2
  · rw [k 1 i (by omega) (by omega) (by omega)]; exact h4 i hi
theorem cS.u7 (hS : cS h0 u t n hs me sg) : u < 7 := hS.1.1
theorem cS_n (hS : cS h0 u t n hs me sg) : n ≤ 120 := hS.2.2.1.2.2.1
theorem s_peek (hw : jok w) (hS : cS h0 u t n hs me sg) (hc : cst h0 h u a tw yw hd rm c F) (han : a ≤ n) : jM l w yX0_peek cX0_peek 1 (some .char) 0 [.ref (jad w 13)] h (fun r h' => r = some (.int (nI (pek t n a))) ∧ h' = h) := m_peek hw (FrTx hc.1 hS.u7 hS.2.2.1) hc.2.1 han
/-- a change of one of the compiler's numbers, or of the code -/
theorem cst_at (hu : u < 7) (hc : cst h0 h u a tw yw hd rm c F) (a' : Nat) : cst h0 (up2 h.1 13 2 (nI a'), h.2) u a' tw yw hd rm c F := by
  have := ub_in hu
  obtain ⟨⟨e, k⟩, h1, h2, h3, h4, h5, h6, h7⟩ := hc
  refine ⟨⟨e, fun k' j' q1 q2 q3 => ?_⟩, by simp [up2], by simp [up2, h2], by simp [up2, h3], by simp [up2, h4], by simp [up2, h5], ?_, ?_⟩
  · show up2 h.1 13 2 _ k' j' = _
    rw [up2_n (by omega)]; exact k k' j' q1 q2 q3
  · show up2 h.1 13 2 _ _ _ = _
    rw [up2_n (by omega)]; exact h6
  · show up2 h.1 13 2 _ _ = _
    rw [up2_o (by omega)]; exact h7
theorem cst_tw (hu : u < 7) (hc : cst h0 h u a tw yw hd rm c F) (x : Int32) : cst h0 (up2 h.1 13 4 x, h.2) u a x yw hd rm c F := by
  have := ub_in hu
  obtain ⟨⟨e, k⟩, h1, h2, h3, h4, h5, h6, h7⟩ := hc
  refine ⟨⟨e, fun k' j' q1 q2 q3 => ?_⟩, by simp [up2, h1], by simp [up2], by simp [up2, h3], by simp [up2, h4], by simp [up2, h5], ?_, ?_⟩
  · show up2 h.1 13 4 _ k' j' = _
    rw [up2_n (by omega)]; exact k k' j' q1 q2 q3
  · show up2 h.1 13 4 _ _ _ = _
    rw [up2_n (by omega)]; exact h6
  · show up2 h.1 13 4 _ _ = _
    rw [up2_o (by omega)]; exact h7
theorem cst_yw (hu : u < 7) (hc : cst h0 h u a tw yw hd rm c F) (x : Int32) : cst h0 (up2 h.1 13 5 x, h.2) u a tw x hd rm c F := by
  have := ub_in hu
  obtain ⟨⟨e, k⟩, h1, h2, h3, h4, h5, h6, h7⟩ := hc
  refine ⟨⟨e, fun k' j' q1 q2 q3 => ?_⟩, by simp [up2, h1], by simp [up2, h2], by simp [up2], by simp [up2, h4], by simp [up2, h5], ?_, ?_⟩
  · show up2 h.1 13 5 _ k' j' = _
    rw [up2_n (by omega)]; exact k k' j' q1 q2 q3
  · show up2 h.1 13 5 _ _ _ = _
    rw [up2_n (by omega)]; exact h6
  · show up2 h.1 13 5 _ _ = _
    rw [up2_o (by omega)]; exact h7
theorem cst_hd (hu : u < 7) (hc : cst h0 h u a tw yw hd rm c F) (x : Int32) : cst h0 (up2 h.1 13 7 x, h.2) u a tw yw x rm c F := by
  have := ub_in hu
  obtain ⟨⟨e, k⟩, h1, h2, h3, h4, h5, h6, h7⟩ := hc
  refine ⟨⟨e, fun k' j' q1 q2 q3 => ?_⟩, by simp [up2, h1], by simp [up2, h2], by simp [up2, h3], by simp [up2], by simp [up2, h5], ?_, ?_⟩
  · show up2 h.1 13 7 _ k' j' = _
    rw [up2_n (by omega)]; exact k k' j' q1 q2 q3
  · show up2 h.1 13 7 _ _ _ = _
    rw [up2_n (by omega)]; exact h6
  · show up2 h.1 13 7 _ _ = _
    rw [up2_o (by omega)]; exact h7
theorem cst_rm (hu : u < 7) (hc : cst h0 h u a tw yw hd rm c F) (x : Int32) : cst h0 (up2 h.1 13 8 x, h.2) u a tw yw hd x c F := by
  have := ub_in hu
  obtain ⟨⟨e, k⟩, h1, h2, h3, h4, h5, h6, h7⟩ := hc
  refine ⟨⟨e, fun k' j' q1 q2 q3 => ?_⟩, by simp [up2, h1], by simp [up2, h2], by simp [up2, h3], by simp [up2, h4], by simp [up2], ?_, ?_⟩
  · show up2 h.1 13 8 _ k' j' = _
    rw [up2_n (by omega)]; exact k k' j' q1 q2 q3
  · show up2 h.1 13 8 _ _ _ = _
    rw [up2_n (by omega)]; exact h6
  · show up2 h.1 13 8 _ _ = _
    rw [up2_o (by omega)]; exact h7
theorem cst_co (hu : u < 7) (hc : cst h0 h u a tw yw hd rm c F) (i : Nat) (x : Int32) : cst h0 (up2 h.1 (ub u + 2) i x, h.2) u a tw yw hd rm c (va_up F i x) := by
  have := ub_in hu
  obtain ⟨⟨e, k⟩, h1, h2, h3, h4, h5, h6, h7⟩ := hc
  refine ⟨⟨e, fun k' j' q1 q2 q3 => ?_⟩, ?_, ?_, ?_, ?_, ?_, ?_, ?_⟩
  · show up2 h.1 _ i _ k' j' = _
    rw [up2_n (by omega)]; exact k k' j' q1 q2 q3
  · show up2 h.1 _ i _ 13 2 = _
    rw [up2_n (by omega)]; exact h1
  · show up2 h.1 _ i _ 13 4 = _
    rw [up2_n (by omega)]; exact h2
  · show up2 h.1 _ i _ 13 5 = _
    rw [up2_n (by omega)]; exact h3
  · show up2 h.1 _ i _ 13 7 = _
    rw [up2_n (by omega)]; exact h4
  · show up2 h.1 _ i _ 13 8 = _
    rw [up2_n (by omega)]; exact h5
  · show up2 h.1 _ i _ (ub u) 3 = _
    rw [up2_n (by omega)]; exact h6
  · show up2 h.1 _ i _ (ub u + 2) = _
    rw [up2_r, h7]
theorem cst_cl (hu : u < 7) (hc : cst h0 h u a tw yw hd rm c F) (c' : Nat) : cst h0 (up2 h.1 (ub u) 3 (nI c'), h.2) u a tw yw hd rm c' F := by
  have := ub_in hu
  obtain ⟨⟨e, k⟩, h1, h2, h3, h4, h5, h6, h7⟩ := hc
  refine ⟨⟨e, fun k' j' q1 q2 q3 => ?_⟩, ?_, ?_, ?_, ?_, ?_, ?_, ?_⟩
  · show up2 h.1 _ 3 _ k' j' = _
    rw [up2_n (by omega)]; exact k k' j' q1 q2 q3
  · show up2 h.1 _ 3 _ 13 2 = _
    rw [up2_n (by omega)]; exact h1
  · show up2 h.1 _ 3 _ 13 4 = _
    rw [up2_n (by omega)]; exact h2
  · show up2 h.1 _ 3 _ 13 5 = _
    rw [up2_n (by omega)]; exact h3
  · show up2 h.1 _ 3 _ 13 7 = _
    rw [up2_n (by omega)]; exact h4
  · show up2 h.1 _ 3 _ 13 8 = _
    rw [up2_n (by omega)]; exact h5
  · show up2 h.1 _ 3 _ (ub u) 3 = _
    rw [up2_s]
  · show up2 h.1 _ 3 _ (ub u + 2) = _
    rw [up2_o (by omega)]; exact h7
/-- the code behind an emit -/
def emC (c : Nat) : Nat := if c < 240 then c + 1 else c
def emF (c : Nat) (F : Nat → Int32) (x y : Int32) : Nat → Int32 := if c < 240 then va_up F c (x ||| y <<< ((4 : Int32) &&& 31)) else F
theorem s_emit (hw : jok w) (hS : cS h0 u t n hs me sg) (hc : cst h0 h u a tw yw hd rm c F) (hc2 : c ≤ 240) (x y : Int32) : jM l w yX3_emit cX3_emit 4 (some .int) 0 [.ref (jad w (ub u)), .int x, .int y] h (fun r h' => r = some (.int (nI c)) ∧ cst h0 h' u a tw yw hd rm (emC c) (emF c F x y)) := by
  refine jM_mono (m_emit hw (FrUr hc.1 hS.1) hc.2.2.2.2.2.2.1 hc2 x y) ?_
  rintro v h' ⟨rfl, rfl⟩
  refine ⟨rfl, ?_⟩
  unfold emC emF
  split
  · exact cst_cl hS.u7 (cst_co hS.u7 hc c _) (c + 1)
  · exact hc
theorem s_refuse (hw : jok w) (hS : cS h0 u t n hs me sg) (hc : cst h0 h u a tw yw hd rm c F) : jM l w yX0_refuse cX0_refuse 1 (some .int) 0 [.ref (jad w 13)] h (fun r h' => r = some (.int 1) ∧ cst h0 h' u n 1 yw hd rm c F) := by
  refine jM_mono (m_refuse hw) ?_
  rintro v h' ⟨rfl, rfl⟩
  refine ⟨rfl, ?_⟩
  rw [(FrTx hc.1 hS.u7 hS.2.2.1).2.1]
  exact cst_at hS.u7 (cst_tw hS.u7 hc 1) n
theorem s_need (hw : jok w) (hS : cS h0 u t n hs me sg) (hc : cst h0 h u a tw yw hd rm c F) (x y : Int32) : jM l w yX0_need cX0_need 3 none 0 [.ref (jad w 13), .int x, .int y] h (fun r h' => r = none ∧ cst h0 h' u a tw (if x = y then yw else 1) hd rm c F) := by
  refine jM_mono (m_need hw x y) ?_
  rintro v h' ⟨rfl, rfl⟩
  refine ⟨rfl, ?_⟩
  split
  · exact hc
  · exact cst_yw hS.u7 hc 1
theorem s_release (hw : jok w) (hS : cS h0 u t n hs me sg) (hc : cst h0 h u a tw yw hd rm c F) (x : Int32) : jM l w yX0_release cX0_release 2 none 0 [.ref (jad w 13), .int x] h (fun r h' => r = none ∧ cst h0 h' u a tw yw (hd - x) rm c F) := by
  refine jM_mono (m_release hw x) ?_
  rintro v h' ⟨rfl, rfl⟩
  refine ⟨rfl, ?_⟩
  rw [hc.2.2.2.2.1]
  exact cst_hd hS.u7 hc (hd - x)
theorem i1n {P : Prop} [Decidable P] : ¬ ((if P then (1 : Int32) else 0) = 0) ↔ P := by
  by_cases h : P <;> simp [h]
theorem i1z {P : Prop} [Decidable P] : ((if P then (1 : Int32) else 0) = 0) ↔ ¬ P := by
  by_cases h : P <;> simp [h]
theorem nz1 {P : Prop} [Decidable P] : narrow .boolean (.int (if P then (1 : Int32) else 0)) = .int (if P then (1 : Int32) else 0) := by
  by_cases h : P <;> simp only [h, if_true, if_false] <;> rfl
theorem s_takeIf (hw : jok w) (hS : cS h0 u t n hs me sg) (hc : cst h0 h u a tw yw hd rm c F) (han : a ≤ n) {ch : Nat} (hch : ch < 128) (h0c : ch ≠ 0) : jM l w yX0_takeIf cX0_takeIf 2 (some .boolean) 1 [.ref (jad w 13), .int (nI ch)] h (fun r h' => r = some (.int (if pek t n a = ch then 1 else 0)) ∧ cst h0 h' u (if pek t n a = ch then a + 1 else a) tw yw hd rm c F) := by
  refine jM_mono (m_takeIf hw (FrTx hc.1 hS.u7 hS.2.2.1) hc.2.1 han hch h0c) ?_
  rintro v h' ⟨rfl, rfl⟩
  refine ⟨rfl, ?_⟩
  by_cases q : pek t n a = ch
  · simp only [if_pos q]; exact cst_at hS.u7 hc (a + 1)
  · simp only [if_neg q]; exact hc
theorem s_take (hw : jok w) (hS : cS h0 u t n hs me sg) (hc : cst h0 h u a tw yw hd rm c F) (han : a ≤ n) {ch : Nat} (hch : ch < 128) (h0c : ch ≠ 0) : jM l w yX0_take cX0_take 2 none 2 [.ref (jad w 13), .int (nI ch)] h (fun r h' => r = none ∧ cst h0 h' u (if pek t n a = ch then a + 1 else n) (if pek t n a = ch then tw else 1) yw hd rm c F) := by
  refine jM_of (by decide) hw (Nat.le_of_ble_eq_true rfl) ?_
  intro X C hl hR hnL hrt hE
  subst hl
  have C : jC X w cX0_take RX0 := C
  show J X w h 0 [(0, .ref (jad w 13)), (1, .int (nI ch))] []
  refine k_aload_n C dX0_take_0 rfl ?_
  refine k_iload_n C dX0_take_1 rfl ?_
  refine k_callV (k := 13) (ci := 0) (As := [.int (nI ch)]) C mX0_82 (s_takeIf hw hS hc han hch h0c) jCl0.1 (by first | decide | omega) (by first | assumption | rfl) rfl rfl (Nat.le_of_ble_eq_true rfl) (jroom hR (by first | decide | omega) (by decide)) dX0_take_2 ?_
  rintro v9 h9 ⟨rfl, hc⟩
  refine j_if_ne C 13 dX0_take_5 (by decide) (fun c5 => ?_) (fun c5 => ?_)
  · rw [i1n] at c5; rw [if_pos c5] at hc
    exact j_vret C hrt hE dX0_take_13 (by first | exact ⟨rfl, by rw [if_pos c5, if_pos c5]; exact hc⟩ | exact ⟨rfl, by rw [if_neg c5, if_neg c5]; exact hc⟩)
  · rw [i1z] at c5; rw [if_neg c5] at hc
    refine k_aload_n C dX0_take_8 rfl ?_
    refine k_callV (k := 13) (ci := 0) (As := []) C mX0_75 (s_refuse hw hS hc) jCl0.1 (by first | decide | omega) (by first | assumption | rfl) rfl rfl (Nat.le_of_ble_eq_true rfl) (jroom hR (by first | decide | omega) (by decide)) dX0_take_9 ?_
    rintro v9 h9 ⟨rfl, hc⟩
    refine j_pop C dX0_take_12 rfl ?_
    exact j_vret C hrt hE dX0_take_13 (by first | exact ⟨rfl, by rw [if_pos c5, if_pos c5]; exact hc⟩ | exact ⟨rfl, by rw [if_neg c5, if_neg c5]; exact hc⟩)
theorem s_readAmong (hw : jok w) (hS : cS h0 u t n hs me sg) (hc : cst h0 h u a tw yw hd rm c F) (han : a ≤ n) {lo hi : Nat} (hlo : lo < 128) (hhi : hi < 128) : jM l w yX0_readAmong cX0_readAmong 4 (some .int) 1 [.ref (jad w 13), .int (nI lo), .int (nI hi)] h (fun r h' => r = some (.int (nI (if lo ≤ pek t n a ∧ pek t n a ≤ hi then pek t n a - lo else 0))) ∧ cst h0 h' u (if lo ≤ pek t n a ∧ pek t n a ≤ hi then a + 1 else n) (if lo ≤ pek t n a ∧ pek t n a ≤ hi then tw else 1) yw hd rm c F) := by
  refine jM_of (by decide) hw (Nat.le_of_ble_eq_true rfl) ?_
  intro X C hl hR hnL hrt hE
  subst hl
  have C : jC X w cX0_readAmong RX0 := C
  have hpk := pek_lt (FrTx hc.1 hS.u7 hS.2.2.1) a
  show J X w h 0 [(0, .ref (jad w 13)), (1, .int (nI lo)), (2, .int (nI hi))] []
  refine k_aload_n C dX0_readAmong_0 rfl ?_
  refine k_callV (k := 13) (ci := 0) (As := []) C mX0_64 (s_peek hw hS hc han) jCl0.1 (by first | decide | omega) (by first | assumption | rfl) rfl rfl (Nat.le_of_ble_eq_true rfl) (jroom hR (by first | decide | omega) (by decide)) dX0_readAmong_1 ?_
  rintro v9 h9 ⟨rfl, rfl⟩
  refine k_istore_n C dX0_readAmong_4 (by rw [hnL]; decide) ?_
  refine k_iload_n C dX0_readAmong_5 rfl ?_
  refine k_iload_n C dX0_readAmong_6 rfl ?_
  refine k_iload_n C dX0_readAmong_7 rfl ?_
  refine k_callS (As := [.int (nI (pek t n a)), .int (nI lo), .int (nI hi)]) C mX0_151 (m_isIn hw (x := pek t n a) (y := lo) (z := hi) (by omega) (by omega) (by omega)) rfl rfl (Nat.le_of_ble_eq_true rfl) (jroom hR (by first | decide | omega) (by decide)) dX0_readAmong_8 ?_
  rintro v9 h9 ⟨rfl, rfl⟩
  refine j_if_ne C 21 dX0_readAmong_11 (by decide) (fun c11 => ?_) (fun c11 => ?_)
  · rw [i1n] at c11
    refine k_aload_n C dX0_readAmong_21 rfl ?_
    refine j_dup C dX0_readAmong_22 rfl ?_
    refine j_geti C fX0_19 rfl (by first | decide | omega) (by first | assumption | rfl) dX0_readAmong_23 ?_
    refine j_iconst (v := 1) C dX0_readAmong_26 (by decide) ?_
    refine j_iadd C dX0_readAmong_27 ?_
    rw [hc.2.1, nI_1]
    refine j_puti C fX0_19 rfl rfl (by decide) rfl dX0_readAmong_28 ?_
    refine k_iload_n C dX0_readAmong_31 rfl ?_
    refine k_iload_n C dX0_readAmong_32 rfl ?_
    refine j_isub C dX0_readAmong_33 ?_
    exact j_iret C hrt hE dX0_readAmong_34 (by first | exact ⟨by rw [if_neg c11]; rfl, by rw [if_neg c11, if_neg c11]; exact hc⟩ | exact ⟨by rw [if_pos c11, pk_sub c11.1], by rw [if_pos c11, if_pos c11]; exact cst_at hS.u7 hc (a + 1)⟩)
  · rw [i1z] at c11
    refine k_aload_n C dX0_readAmong_14 rfl ?_
    refine k_callV (k := 13) (ci := 0) (As := []) C mX0_75 (s_refuse hw hS hc) jCl0.1 (by first | decide | omega) (by first | assumption | rfl) rfl rfl (Nat.le_of_ble_eq_true rfl) (jroom hR (by first | decide | omega) (by decide)) dX0_readAmong_15 ?_
    rintro v9 h9 ⟨rfl, hc⟩
    refine j_pop C dX0_readAmong_18 rfl ?_
    refine j_iconst (v := 0) C dX0_readAmong_19 (by decide) ?_
    exact j_iret C hrt hE dX0_readAmong_20 (by first | exact ⟨by rw [if_neg c11]; rfl, by rw [if_neg c11, if_neg c11]; exact hc⟩ | exact ⟨by rw [if_pos c11, pk_sub c11.1], by rw [if_pos c11, if_pos c11]; exact cst_at hS.u7 hc (a + 1)⟩)
theorem s_hold (hw : jok w) (hS : cS h0 u t n hs me sg) (hc : cst h0 h u a tw yw hd rm c F) (hc2 : c ≤ 240) (x : Int32) : jM l w yX0_hold cX0_hold 2 none 1 [.ref (jad w 13), .int x] h (fun r h' => r = none ∧ cst h0 h' u a tw yw (hd + x) (if rm < hd + x then hd + x else rm) (emC c) (emF c F (if x = 2 then 4 else 3) 0)) := by
  refine jM_of (by decide) hw (Nat.le_of_ble_eq_true rfl) ?_
  intro X C hl hR hnL hrt hE
  subst hl
  have C : jC X w cX0_hold RX0 := C
  obtain ⟨k3, k4, k5, k6, k7⟩ := jk_unit u hS.u7
  show J X w h 0 [(0, .ref (jad w 13)), (1, .int x)] []
  refine k_aload_n C dX0_hold_0 rfl ?_
  refine j_dup C dX0_hold_1 rfl ?_
  refine j_geti C fX0_114 rfl (by first | decide | omega) (by first | assumption | rfl) dX0_hold_2 ?_
  refine k_iload_n C dX0_hold_5 rfl ?_
  refine j_iadd C dX0_hold_6 ?_
  rw [hc.2.2.2.2.1]
  refine j_puti C fX0_114 rfl rfl (by decide) rfl dX0_hold_7 ?_
  replace hc := cst_hd hS.u7 hc (hd + x)
  revert hc
  generalize ((up2 h.1 13 7 (hd + x), h.2) : jH) = h2
  intro hc
  refine k_aload_n C dX0_hold_10 rfl ?_
  refine k_aload_n C dX0_hold_11 rfl ?_
  refine j_geti C fX0_117 rfl (by first | decide | omega) (by first | assumption | rfl) dX0_hold_12 ?_
  refine k_aload_n C dX0_hold_15 rfl ?_
  refine j_geti C fX0_114 rfl (by first | decide | omega) (by first | assumption | rfl) dX0_hold_16 ?_
  refine j_mmax C jmmax_X0_179 (jroomM hR (by first | decide | omega) (Nat.le_of_ble_eq_true rfl)) dX0_hold_19 ?_
  rw [hc.2.2.2.2.1, hc.2.2.2.2.2.1]
  refine j_puti C fX0_117 rfl rfl (by decide) rfl dX0_hold_22 ?_
  replace hc := cst_rm hS.u7 hc (if rm < hd + x then hd + x else rm)
  revert hc
  generalize ((up2 h2.1 13 8 (if rm < hd + x then hd + x else rm), h2.2) : jH) = h3
  intro hc
  refine k_aload_n C dX0_hold_25 rfl ?_
  refine j_getr C fX0_22 rfl (by first | decide | omega) (by first | assumption | rfl) (by rw [hc.1.1]; exact hS.2.1) dX0_hold_26 ?_
  refine k_iload_n C dX0_hold_29 rfl ?_
  refine j_iconst (v := 2) C dX0_hold_30 (by decide) ?_
  refine j_icmp_ne C 38 dX0_hold_31 (by decide) (fun c31 => ?_) (fun c31 => ?_)
  · refine j_iconst (v := 3) C dX0_hold_38 (by decide) ?_
    refine j_iconst (v := 0) C dX0_hold_39 (by decide) ?_
    first | (refine k_callV (k := ub u) (ci := 3) (As := [.int 4, .int 0]) C mX0_131 (s_emit hw hS hc hc2 4 0) jCl3.1 (by omega) k3 rfl rfl (Nat.le_of_ble_eq_true rfl) (jroom hR (by decide) (by decide)) dX0_hold_40 ?_; rintro v9 h9 ⟨rfl, hc⟩; refine j_pop C dX0_hold_43 rfl ?_; exact j_vret C hrt hE dX0_hold_44 ⟨rfl, by rw [if_pos c31]; exact hc⟩) | (refine k_callV (k := ub u) (ci := 3) (As := [.int 3, .int 0]) C mX0_131 (s_emit hw hS hc hc2 3 0) jCl3.1 (by omega) k3 rfl rfl (Nat.le_of_ble_eq_true rfl) (jroom hR (by decide) (by decide)) dX0_hold_40 ?_; rintro v9 h9 ⟨rfl, hc⟩; refine j_pop C dX0_hold_43 rfl ?_; exact j_vret C hrt hE dX0_hold_44 ⟨rfl, by rw [if_neg c31]; exact hc⟩)
  · refine j_iconst (v := 4) C dX0_hold_34 (by decide) ?_
    refine j_goto C 39 dX0_hold_35 (by decide) ?_
    refine j_iconst (v := 0) C dX0_hold_39 (by decide) ?_
    first | (refine k_callV (k := ub u) (ci := 3) (As := [.int 4, .int 0]) C mX0_131 (s_emit hw hS hc hc2 4 0) jCl3.1 (by omega) k3 rfl rfl (Nat.le_of_ble_eq_true rfl) (jroom hR (by decide) (by decide)) dX0_hold_40 ?_; rintro v9 h9 ⟨rfl, hc⟩; refine j_pop C dX0_hold_43 rfl ?_; exact j_vret C hrt hE dX0_hold_44 ⟨rfl, by rw [if_pos c31]; exact hc⟩) | (refine k_callV (k := ub u) (ci := 3) (As := [.int 3, .int 0]) C mX0_131 (s_emit hw hS hc hc2 3 0) jCl3.1 (by omega) k3 rfl rfl (Nat.le_of_ble_eq_true rfl) (jroom hR (by decide) (by decide)) dX0_hold_40 ?_; rintro v9 h9 ⟨rfl, hc⟩; refine j_pop C dX0_hold_43 rfl ?_; exact j_vret C hrt hE dX0_hold_44 ⟨rfl, by rw [if_neg c31]; exact hc⟩)
end CST
