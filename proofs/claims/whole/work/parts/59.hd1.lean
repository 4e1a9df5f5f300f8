/-! THE HEADS: the heap is a base heap g with the compiler's place and its fault of the text set: p = none: the text is none as said, some a: at a -/
def hv (g : jH) (a : Nat) (tw : Int32) : jH := (up2 (up2 g.1 13 4 tw) 13 2 (nI a), g.2)
def hq (g : jH) (n : Nat) (p : Option Nat) : jH := match p with
  | none => hv g n 1
  | some a => hv g a 0
def pOk (n : Nat) (p : Option Nat) : Prop := ∀ a, p = some a → a ≤ n
section PHD
variable (t : Nat → Nat) (n : Nat)
def pkO (p : Option Nat) : Nat := pek t n (p.getD n)
def tkI (ch : Nat) (p : Option Nat) : Option Nat := if pkO t n p = ch then p.map (· + 1) else p
def tk (ch : Nat) (p : Option Nat) : Option Nat := if pkO t n p = ch then p.map (· + 1) else none
def am (lo hi : Nat) (p : Option Nat) : Option Nat := if lo ≤ pkO t n p ∧ pkO t n p ≤ hi then p.map (· + 1) else none
def amV (lo hi : Nat) (p : Option Nat) : Nat := if lo ≤ pkO t n p ∧ pkO t n p ≤ hi then pkO t n p - lo else 0
def tyV (p : Option Nat) : Nat := if pkO t n p = 80 then 2 else 1
def tyP (p : Option Nat) : Option Nat := if pkO t n p = 80 then p.map (· + 1) else tk t n 73 p
def sgL : Nat → Nat → Nat → Option Nat → Nat × Option Nat
  | 0, _, s, p => (s, p)
  | f + 1, k, s, p => if pkO t n p = 41 then (s, p) else sgL f (k + 1) (s + tyV t n p * 4 ^ k) (tyP t n p)
def sgF (p : Option Nat) : Nat × Option Nat := ((sgL t n 3 1 0 (tk t n 40 p)).1 + tyV t n (tk t n 41 (sgL t n 3 1 0 (tk t n 40 p)).2), tyP t n (tk t n 41 (sgL t n 3 1 0 (tk t n 40 p)).2))
/-- to the next semicolon, or the end -/
def skp : Nat → Nat → Nat
  | 0, a => a
  | f + 1, a => if a < n ∧ t a ≠ 59 then skp f (a + 1) else a
/-- a head: owner (0: none, else the module + 1), name, signature, whether exported, where its expression begins -/
abbrev HD : Type := Nat × Nat × Nat × Nat × Nat
def h3 (d : HD) : Nat × Nat × Nat := (d.1, d.2.1, d.2.2.1)
/-- a head's reading, step by step -/
def hdP2 (p : Option Nat) : Option Nat := if pkO t n p = 63 then tk t n 46 (am t n 65 70 (tkI t n 63 p)) else tkI t n 43 (tkI t n 63 p)
def hdO (p : Option Nat) : Nat := if pkO t n p = 63 then amV t n 65 70 (tkI t n 63 p) + 1 else 0
def hdX (p : Option Nat) : Nat := if pkO t n p = 63 then 0 else if pkO t n (tkI t n 63 p) = 43 then 1 else 0
def hdN (p : Option Nat) : Nat := amV t n 97 122 (hdP2 t n p)
def hdP4 (hs : List HD) (p : Option Nat) : Option Nat := if lkp (hs.map h3) (hdO t n p) (hdN t n p) = none then am t n 97 122 (hdP2 t n p) else none
def hdS (hs : List HD) (p : Option Nat) : Nat := (sgF t n (hdP4 t n hs p)).1
def hdP6 (hs : List HD) (p : Option Nat) : Option Nat := if hdO t n p = 0 then tk t n 61 (sgF t n (hdP4 t n hs p)).2 else (sgF t n (hdP4 t n hs p)).2
def hdP7 (hs : List HD) (p : Option Nat) : Option Nat := if hdO t n p = 0 then (hdP6 t n hs p).map (fun a => skp t n (n - a) a) else hdP6 t n hs p
def hdD (hs : List HD) (p : Option Nat) : HD := (hdO t n p, hdN t n p, hdS t n hs p, hdX t n p, if hdO t n p = 0 then (hdP6 t n hs p).getD n else 0)
def hdL : Nat → List HD → Option Nat → List HD × Option Nat
  | 0, hs, p => (hs, p)
  | f + 1, hs, p => if hs = [] ∨ pkO t n p = 59 then hdL f (hs ++ [hdD t n hs (tk t n 59 p)]) (hdP7 t n hs (tk t n 59 p)) else (hs, p)
end PHD
section HD1
variable {l : Launch} {w : jW} {g : jH} {u : Nat} {t : Nat → Nat} {n : Nat} {p : Option Nat}
theorem hv_at {a b : Nat} {tw : Int32} : ((up2 (hv g a tw).1 13 2 (nI b), (hv g a tw).2) : jH) = hv g b tw := by
  refine Prod.ext ?_ rfl
  funext k j
  simp only [hv, up2]
  split <;> rfl
theorem hv_tw {a b : Nat} {tw tv : Int32} : ((up2 (up2 (hv g a tw).1 13 4 tv) 13 2 (nI b), (hv g a tw).2) : jH) = hv g b tv := by
  refine Prod.ext ?_ rfl
  funext k j
  simp only [hv, up2]
  by_cases h1 : k = 13 ∧ j = 2
  · simp [h1]
  · simp only [h1, if_false]
    split <;> rfl
theorem hv_put {a k j : Nat} {tw v : Int32} (hk : k ≠ 13) : ((up2 (hv g a tw).1 k j v, (hv g a tw).2) : jH) = hv (up2 g.1 k j v, g.2) a tw := by
  refine Prod.ext ?_ rfl
  funext x y
  simp only [hv, up2]
  by_cases h1 : x = k ∧ y = j
  · simp [h1.1, h1.2, hk]
  · simp only [h1, if_false]
theorem hq_put {k j : Nat} {v : Int32} (hk : k ≠ 13) : ((up2 (hq g n p).1 k j v, (hq g n p).2) : jH) = hq (up2 g.1 k j v, g.2) n p := by
  cases p <;> exact hv_put hk
theorem hv_o {a k j : Nat} {tw : Int32} (h : ¬ (k = 13 ∧ (j = 2 ∨ j = 4))) : (hv g a tw).1 k j = g.1 k j := by
  simp only [hv]
  rw [up2_n (by omega), up2_n (by omega)]
theorem hq_o {k j : Nat} (h : ¬ (k = 13 ∧ (j = 2 ∨ j = 4))) : (hq g n p).1 k j = g.1 k j := by cases p <;> exact hv_o h
theorem hq_2 : (hq g n p).2 = g.2 := by cases p <;> rfl
theorem hq_at : (hq g n p).1 13 2 = nI (p.getD n) := by cases p <;> simp [hq, hv, up2]
theorem hq_tx (ht : tx g t n) : tx (hq g n p) t n := by
  obtain ⟨h1, h2, h3, h4⟩ := ht
  refine ⟨by rw [hq_2]; exact h1, by rw [hq_o (by omega)]; exact h2, h3, fun i hi => ?_⟩
  rw [hq_o (by omega)]; exact h4 i hi
theorem pOk_le (hp : pOk n p) : p.getD n ≤ n := by
  cases p with
  | none => exact Nat.le_refl _
  | some a => exact hp a rfl
theorem pkO_lt (ht : tx g t n) : pkO t n p < 128 := pek_lt ht _
theorem pkO_some {c : Nat} (h : pkO t n p = c) (hc : c ≠ 0) : ∃ a, p = some a ∧ pek t n a = c ∧ a < n := by
  cases p with
  | none => exact absurd ((pek_ge (Nat.le_refl n)).symm.trans h) (Ne.symm hc)
  | some a => exact ⟨a, rfl, h, pek_in h hc⟩
theorem tkI_ok {ch : Nat} (hc : ch ≠ 0) (hp : pOk n p) : pOk n (tkI t n ch p) := by
  unfold tkI
  split
  · next e => obtain ⟨a, rfl, -, h⟩ := pkO_some e hc; intro b hb; simp at hb; omega
  · exact hp
theorem tk_ok {ch : Nat} (hc : ch ≠ 0) : pOk n (tk t n ch p) := by
  unfold tk
  split
  · next e => obtain ⟨a, rfl, -, h⟩ := pkO_some e hc; intro b hb; simp at hb; omega
  · intro b hb; cases hb
theorem am_ok {lo hi : Nat} (hc : 0 < lo) : pOk n (am t n lo hi p) := by
  unfold am
  split
  · next e => obtain ⟨a, rfl, -, h⟩ := pkO_some (p := p) (t := t) (n := n) rfl (by omega); intro b hb; simp at hb; omega
  · intro b hb; cases hb
theorem tyP_ok (hp : pOk n p) : pOk n (tyP t n p) := by
  unfold tyP
  split
  · next e => obtain ⟨a, rfl, -, h⟩ := pkO_some e (by decide); intro b hb; simp at hb; omega
  · exact tk_ok (by decide)
theorem sgL_ok : ∀ (f k s : Nat) (p : Option Nat), pOk n p → pOk n (sgL t n f k s p).2
  | 0, k, s, p, h => h
  | f + 1, k, s, p, h => by
    unfold sgL
    split
    · exact h
    · exact sgL_ok f _ _ _ (tyP_ok h)
theorem tyV_le : tyV t n p ≤ 2 ∧ 1 ≤ tyV t n p := by unfold tyV; split <;> omega
theorem sgL_lt : ∀ (f k s : Nat) (p : Option Nat), s < 4 ^ k → (sgL t n f k s p).1 < 4 ^ (k + f)
  | 0, k, s, p, h => h
  | f + 1, k, s, p, h => by
    unfold sgL
    split
    · exact Nat.lt_of_lt_of_le h (Nat.pow_le_pow_right (by decide) (by omega))
    · have := tyV_le (t := t) (n := n) (p := p)
      have h2 := sgL_lt f (k + 1) (s + tyV t n p * 4 ^ k) (tyP t n p) (by
        rw [Nat.pow_succ]
        have : tyV t n p * 4 ^ k ≤ 2 * 4 ^ k := Nat.mul_le_mul_right _ (by omega)
        omega)
      rw [show k + (f + 1) = k + 1 + f by omega]
      exact h2
theorem sgL_4 : ∀ (f k s : Nat) (p : Option Nat), 1 ≤ k → s % 4 = 0 → (sgL t n f k s p).1 % 4 = 0
  | 0, k, s, p, _, h => h
  | f + 1, k, s, p, hk, h => by
    unfold sgL
    split
    · exact h
    · refine sgL_4 f (k + 1) _ _ (by omega) ?_
      obtain ⟨k, rfl⟩ : ∃ q, k = q + 1 := ⟨k - 1, by omega⟩
      rw [Nat.pow_succ, ← Nat.mul_assoc]
      omega
theorem u_peek (hw : jok w) (ht : tx g t n) (hp : pOk n p) : jM l w yX0_peek cX0_peek 1 (some .char) 0 [.ref (jad w 13)] (hq g n p) (fun r h' => r = some (.int (nI (pkO t n p))) ∧ h' = hq g n p) := m_peek hw (hq_tx ht) hq_at (pOk_le hp)
theorem u_refuse (hw : jok w) (ht : tx g t n) : jM l w yX0_refuse cX0_refuse 1 (some .int) 0 [.ref (jad w 13)] (hq g n p) (fun r h' => r = some (.int 1) ∧ h' = hq g n none) := by
  refine jM_mono (m_refuse hw) ?_
  rintro v h' ⟨rfl, rfl⟩
  refine ⟨rfl, ?_⟩
  rw [hq_o (by omega), ht.2.1]
  cases p <;> exact hv_tw
theorem hq_inc {a : Nat} : ((up2 (hq g n (some a)).1 13 2 (nI (a + 1)), (hq g n (some a)).2) : jH) = hq g n (some (a + 1)) := hv_at
theorem u_takeIf (hw : jok w) (ht : tx g t n) (hp : pOk n p) {ch : Nat} (hch : ch < 128) (hc0 : ch ≠ 0) : jM l w yX0_takeIf cX0_takeIf 2 (some .boolean) 1 [.ref (jad w 13), .int (nI ch)] (hq g n p) (fun r h' => r = some (.int (if pkO t n p = ch then 1 else 0)) ∧ h' = hq g n (tkI t n ch p)) := by
  refine jM_mono (m_takeIf hw (hq_tx ht) hq_at (pOk_le hp) hch hc0) ?_
  rintro v h' ⟨rfl, rfl⟩
  refine ⟨rfl, ?_⟩
  by_cases c5 : pkO t n p = ch
  · rw [if_pos (show pek t n (p.getD n) = ch from c5)]
    unfold tkI
    rw [if_pos c5]
    obtain ⟨a, rfl, -, h⟩ := pkO_some c5 hc0
    exact hq_inc
  · rw [if_neg (show ¬ pek t n (p.getD n) = ch from c5)]
    unfold tkI
    rw [if_neg c5]
theorem u_take (hw : jok w) (ht : tx g t n) (hp : pOk n p) {ch : Nat} (hch : ch < 128) (hc0 : ch ≠ 0) : jM l w yX0_take cX0_take 2 none 2 [.ref (jad w 13), .int (nI ch)] (hq g n p) (fun r h' => r = none ∧ h' = hq g n (tk t n ch p)) := by
  refine jM_of (by decide) hw (Nat.le_of_ble_eq_true rfl) ?_
  intro X C hl hR hnL hrt hE
  subst hl
  have C : jC X w cX0_take RX0 := C
  show J X w (hq g n p) 0 [(0, .ref (jad w 13)), (1, .int (nI ch))] []
  refine k_aload_n C dX0_take_0 rfl ?_
  refine k_iload_n C dX0_take_1 rfl ?_
  refine k_callV (k := 13) (ci := 0) (As := [.int (nI ch)]) C mX0_82 (u_takeIf hw ht hp hch hc0) jCl0.1 (by first | decide | omega) (by first | assumption | rfl) rfl rfl (Nat.le_of_ble_eq_true rfl) (jroom hR (by first | decide | omega) (by decide)) dX0_take_2 ?_
  rintro v9 h9 ⟨rfl, rfl⟩
  refine j_if_ne C 13 dX0_take_5 (by decide) (fun c5 => ?_) (fun c5 => ?_)
  · rw [i1n] at c5
    exact j_vret C hrt hE dX0_take_13 (by first | exact ⟨rfl, by unfold tk tkI; rw [if_pos c5, if_pos c5]⟩ | exact ⟨rfl, by unfold tk; rw [if_neg c5]⟩)
  · rw [i1z] at c5
    refine k_aload_n C dX0_take_8 rfl ?_
    refine k_callV (k := 13) (ci := 0) (As := []) C mX0_75 (u_refuse hw ht) jCl0.1 (by first | decide | omega) (by first | assumption | rfl) rfl rfl (Nat.le_of_ble_eq_true rfl) (jroom hR (by first | decide | omega) (by decide)) dX0_take_9 ?_
    rintro v9 h9 ⟨rfl, rfl⟩
    refine j_pop C dX0_take_12 rfl ?_
    exact j_vret C hrt hE dX0_take_13 (by first | exact ⟨rfl, by unfold tk tkI; rw [if_pos c5, if_pos c5]⟩ | exact ⟨rfl, by unfold tk; rw [if_neg c5]⟩)
theorem u_readAmong (hw : jok w) (ht : tx g t n) (hp : pOk n p) {lo hi : Nat} (hlo : lo < 128) (hhi : hi < 128) (hl0 : 0 < lo) : jM l w yX0_readAmong cX0_readAmong 4 (some .int) 1 [.ref (jad w 13), .int (nI lo), .int (nI hi)] (hq g n p) (fun r h' => r = some (.int (nI (amV t n lo hi p))) ∧ h' = hq g n (am t n lo hi p)) := by
  refine jM_of (by decide) hw (Nat.le_of_ble_eq_true rfl) ?_
  intro X C hl hR hnL hrt hE
  subst hl
  have C : jC X w cX0_readAmong RX0 := C
  have hpk := pkO_lt (p := p) ht
  show J X w (hq g n p) 0 [(0, .ref (jad w 13)), (1, .int (nI lo)), (2, .int (nI hi))] []
  refine k_aload_n C dX0_readAmong_0 rfl ?_
  refine k_callV (k := 13) (ci := 0) (As := []) C mX0_64 (u_peek hw ht hp) jCl0.1 (by first | decide | omega) (by first | assumption | rfl) rfl rfl (Nat.le_of_ble_eq_true rfl) (jroom hR (by first | decide | omega) (by decide)) dX0_readAmong_1 ?_
  rintro v9 h9 ⟨rfl, rfl⟩
  refine k_istore_n C dX0_readAmong_4 (by rw [hnL]; decide) ?_
  refine k_iload_n C dX0_readAmong_5 rfl ?_
  refine k_iload_n C dX0_readAmong_6 rfl ?_
  refine k_iload_n C dX0_readAmong_7 rfl ?_
  refine k_callS (As := [.int (nI (pkO t n p)), .int (nI lo), .int (nI hi)]) C mX0_151 (m_isIn hw (x := pkO t n p) (y := lo) (z := hi) (by omega) (by omega) (by omega)) rfl rfl (Nat.le_of_ble_eq_true rfl) (jroom hR (by first | decide | omega) (by decide)) dX0_readAmong_8 ?_
  rintro v9 h9 ⟨rfl, rfl⟩
  refine j_if_ne C 21 dX0_readAmong_11 (by decide) (fun c11 => ?_) (fun c11 => ?_)
  · rw [i1n] at c11
    refine k_aload_n C dX0_readAmong_21 rfl ?_
    refine j_dup C dX0_readAmong_22 rfl ?_
    refine j_geti C fX0_19 rfl (by first | decide | omega) (by first | assumption | rfl) dX0_readAmong_23 ?_
    refine j_iconst (v := 1) C dX0_readAmong_26 (by decide) ?_
    refine j_iadd C dX0_readAmong_27 ?_
    rw [hq_at, nI_1]
    refine j_puti C fX0_19 rfl rfl (by decide) rfl dX0_readAmong_28 ?_
    refine k_iload_n C dX0_readAmong_31 rfl ?_
    refine k_iload_n C dX0_readAmong_32 rfl ?_
    refine j_isub C dX0_readAmong_33 ?_
    exact j_iret C hrt hE dX0_readAmong_34 (by first | exact ⟨by unfold amV; rw [if_neg c11]; rfl, by unfold am; rw [if_neg c11]⟩ | exact ⟨by unfold amV; rw [if_pos c11, pk_sub c11.1], by unfold am; rw [if_pos c11]; obtain ⟨a, rfl, -, h⟩ := pkO_some (p := p) (t := t) (n := n) rfl (by omega); exact hq_inc⟩)
  · rw [i1z] at c11
    refine k_aload_n C dX0_readAmong_14 rfl ?_
    refine k_callV (k := 13) (ci := 0) (As := []) C mX0_75 (u_refuse hw ht) jCl0.1 (by first | decide | omega) (by first | assumption | rfl) rfl rfl (Nat.le_of_ble_eq_true rfl) (jroom hR (by first | decide | omega) (by decide)) dX0_readAmong_15 ?_
    rintro v9 h9 ⟨rfl, rfl⟩
    refine j_pop C dX0_readAmong_18 rfl ?_
    refine j_iconst (v := 0) C dX0_readAmong_19 (by decide) ?_
    exact j_iret C hrt hE dX0_readAmong_20 (by first | exact ⟨by unfold amV; rw [if_neg c11]; rfl, by unfold am; rw [if_neg c11]⟩ | exact ⟨by unfold amV; rw [if_pos c11, pk_sub c11.1], by unfold am; rw [if_pos c11]; obtain ⟨a, rfl, -, h⟩ := pkO_some (p := p) (t := t) (n := n) rfl (by omega); exact hq_inc⟩)
theorem u_readType (hw : jok w) (ht : tx g t n) (hp : pOk n p) : jM l w yX0_readType cX0_readType 1 (some .int) 3 [.ref (jad w 13)] (hq g n p) (fun r h' => r = some (.int (nI (tyV t n p))) ∧ h' = hq g n (tyP t n p)) := by
  refine jM_of (by decide) hw (Nat.le_of_ble_eq_true rfl) ?_
  intro X C hl hR hnL hrt hE
  subst hl
  have C : jC X w cX0_readType RX0 := C
  show J X w (hq g n p) 0 [(0, .ref (jad w 13))] []
  refine k_aload_n C dX0_readType_0 rfl ?_
  refine j_bipush (v := 80) C dX0_readType_1 (by decide) ?_
  refine k_callV (k := 13) (ci := 0) (As := [.int (nI 80)]) C mX0_82 (u_takeIf hw ht hp (ch := 80) (by decide) (by decide)) jCl0.1 (by first | decide | omega) (by first | assumption | rfl) rfl rfl (Nat.le_of_ble_eq_true rfl) (jroom hR (by first | decide | omega) (by decide)) dX0_readType_3 ?_
  rintro v9 h9 ⟨rfl, rfl⟩
  refine j_if_eq C 11 dX0_readType_6 (by decide) (fun c6 => ?_) (fun c6 => ?_)
  · rw [i1z] at c6
    refine k_aload_n C dX0_readType_11 rfl ?_
    refine j_bipush (v := 73) C dX0_readType_12 (by decide) ?_
    refine k_callV (k := 13) (ci := 0) (As := [.int (nI 73)]) C mX0_68 (u_take hw ht (tkI_ok (by decide) hp) (ch := 73) (by decide) (by decide)) jCl0.1 (by first | decide | omega) (by first | assumption | rfl) rfl rfl (Nat.le_of_ble_eq_true rfl) (jroom hR (by first | decide | omega) (by decide)) dX0_readType_14 ?_
    rintro v9 h9 ⟨rfl, rfl⟩
    refine j_iconst (v := 1) C dX0_readType_17 (by decide) ?_
    exact j_iret C hrt hE dX0_readType_18 (by first | exact ⟨by unfold tyV; rw [if_pos c6]; rfl, by unfold tyP tkI; rw [if_pos c6, if_pos c6]⟩ | exact ⟨by unfold tyV; rw [if_neg c6]; rfl, by unfold tyP tkI; rw [if_neg c6, if_neg c6]⟩)
  · rw [i1z, Classical.not_not] at c6
    refine j_iconst (v := 2) C dX0_readType_9 (by decide) ?_
    exact j_iret C hrt hE dX0_readType_10 (by first | exact ⟨by unfold tyV; rw [if_pos c6]; rfl, by unfold tyP tkI; rw [if_pos c6, if_pos c6]⟩ | exact ⟨by unfold tyV; rw [if_neg c6]; rfl, by unfold tyP tkI; rw [if_neg c6, if_neg c6]⟩)
theorem sg_or {s k y : Nat} (hk : k ≤ 3) (hs : s < 4 ^ k) (hy : y ≤ 3) : nI s ||| nI y <<< (((2 : Int32) * nI k) &&& 31) = nI (s + y * 4 ^ k) := by
  have key : ∀ j, j ≤ 3 → ((((2 : Int32) * nI j) &&& 31).toBitVec.smod 32).toNat = 2 * j := by decide
  have h4 : (4 : Nat) ^ k ≤ 64 := Nat.pow_le_pow_right (n := 4) (by decide) hk
  have hm : y * 4 ^ k ≤ 3 * 64 := Nat.mul_le_mul hy h4
  rw [pk_shlN _ (2 * k) (key k hk) (by rw [Nat.pow_mul]; show y * 4 ^ k < _; omega), nx_or, Nat.pow_mul]
  show nI (s ||| y * 4 ^ k) = _
  have := Nat.two_pow_add_eq_or_of_lt (i := 2 * k) (b := s) (by rw [Nat.pow_mul]; exact hs) y
  rw [Nat.pow_mul] at this
  rw [Nat.or_comm, Nat.mul_comm, ← this, Nat.add_comm]
theorem u_readSignature (hw : jok w) (ht : tx g t n) (hp : pOk n p) : jM l w yX0_readSignature cX0_readSignature 3 (some .int) 4 [.ref (jad w 13)] (hq g n p) (fun r h' => r = some (.int (nI (sgF t n p).1)) ∧ h' = hq g n (sgF t n p).2) := by
  refine jM_of (by decide) hw (Nat.le_of_ble_eq_true rfl) ?_
  intro X C hl hR hnL hrt hE
  subst hl
  have C : jC X w cX0_readSignature RX0 := C
  have hp1 : pOk n (tk t n 40 p) := tk_ok (by decide)
  show J X w (hq g n p) 0 [(0, .ref (jad w 13))] []
  have fin : ∀ (s k : Nat) (q : Option Nat), sgL t n 3 1 0 (tk t n 40 p) = (s, q) → J X w (hq g n q) 41 [(0, .ref (jad w 13)), (1, .int (nI s)), (2, .int (nI k))] [] := by
    intro s k q e
    have hq : pOk n q := by have := sgL_ok (t := t) 3 1 0 _ hp1; rw [e] at this; exact this
    have e4 : s % 4 = 0 := by have := sgL_4 (t := t) (n := n) 3 1 0 (tk t n 40 p) (by omega) rfl; rw [e] at this; exact this
    refine k_aload_n C dX0_readSignature_41 rfl ?_
    refine j_bipush (v := 41) C dX0_readSignature_42 (by decide) ?_
    refine k_callV (k := 13) (ci := 0) (As := [.int (nI 41)]) C mX0_68 (u_take hw ht hq (ch := 41) (by decide) (by decide)) jCl0.1 (by first | decide | omega) (by first | assumption | rfl) rfl rfl (Nat.le_of_ble_eq_true rfl) (jroom hR (by first | decide | omega) (by decide)) dX0_readSignature_44 ?_
    rintro v9 h9 ⟨rfl, rfl⟩
    refine k_iload_n C dX0_readSignature_47 rfl ?_
    refine k_aload_n C dX0_readSignature_48 rfl ?_
    refine k_callV (k := 13) (ci := 0) (As := []) C mX0_110 (u_readType hw ht (tk_ok (t := t) (n := n) (p := q) (ch := 41) (by decide))) jCl0.1 (by first | decide | omega) (by first | assumption | rfl) rfl rfl (Nat.le_of_ble_eq_true rfl) (jroom hR (by first | decide | omega) (by decide)) dX0_readSignature_49 ?_
    rintro v9 h9 ⟨rfl, rfl⟩
    refine j_ior C dX0_readSignature_52 ?_
    exact j_iret C hrt hE dX0_readSignature_53 (⟨by unfold sgF; rw [e]; have hv := tyV_le (t := t) (n := n) (p := tk t n 41 q); have := Nat.two_pow_add_eq_or_of_lt (i := 2) (b := tyV t n (tk t n 41 q)) (by omega) (s / 4); rw [nx_or, show s = 2 ^ 2 * (s / 4) by omega, ← this], by unfold sgF; rw [e]⟩)
  have loop : ∀ (f k s : Nat) (q : Option Nat), k + f = 4 → 1 ≤ k → s < 4 ^ k → pOk n q → sgL t n 3 1 0 (tk t n 40 p) = sgL t n f k s q → J X w (hq g n q) 10 [(0, .ref (jad w 13)), (1, .int (nI s)), (2, .int (nI k))] [] := by
    intro f
    induction f with
    | zero =>
      intro k s q hk h1 hs hq e
      refine k_iload_n C dX0_readSignature_10 rfl ?_
      refine j_iconst (v := 3) C dX0_readSignature_11 (by decide) ?_
      refine j_icmp_gt C 41 dX0_readSignature_12 (by decide) (fun c12 => ?_) (fun c12 => ?_)
      · exact fin s k q e
      · exact absurd (nI_lt (a := 3) (b := k) (by omega) (by omega)) c12 -- stop
    | succ f ih =>
      intro k s q hk h1 hs hq e
      have hpk := pkO_lt (p := q) ht
      refine k_iload_n C dX0_readSignature_10 rfl ?_
      refine j_iconst (v := 3) C dX0_readSignature_11 (by decide) ?_
      refine j_icmp_gt C 41 dX0_readSignature_12 (by decide) (fun c12 => ?_) (fun c12 => ?_)
      · exact absurd c12 (nI_nlt (a := 3) (b := k) (by omega) (by omega)) -- stop
      · refine k_aload_n C dX0_readSignature_15 rfl ?_
        refine k_callV (k := 13) (ci := 0) (As := []) C mX0_64 (u_peek hw ht hq) jCl0.1 (by first | decide | omega) (by first | assumption | rfl) rfl rfl (Nat.le_of_ble_eq_true rfl) (jroom hR (by first | decide | omega) (by decide)) dX0_readSignature_16 ?_
        rintro v9 h9 ⟨rfl, rfl⟩
        refine j_bipush (v := 41) C dX0_readSignature_19 (by decide) ?_
        refine j_icmp_eq C 41 dX0_readSignature_21 (by decide) (fun c21 => ?_) (fun c21 => ?_)
        · replace c21 : pkO t n q = 41 := (nI_eq (by omega) (by omega)).mp c21
          exact fin s k q (by rw [e]; unfold sgL; rw [if_pos c21])
        · replace c21 : ¬ pkO t n q = 41 := fun z => c21 (by rw [z]; rfl)
          refine k_iload_n C dX0_readSignature_24 rfl ?_
          refine k_aload_n C dX0_readSignature_25 rfl ?_
          refine k_callV (k := 13) (ci := 0) (As := []) C mX0_110 (u_readType hw ht hq) jCl0.1 (by first | decide | omega) (by first | assumption | rfl) rfl rfl (Nat.le_of_ble_eq_true rfl) (jroom hR (by first | decide | omega) (by decide)) dX0_readSignature_26 ?_
          rintro v9 h9 ⟨rfl, rfl⟩
          refine j_iconst (v := 2) C dX0_readSignature_29 (by decide) ?_
          refine k_iload_n C dX0_readSignature_30 rfl ?_
          refine j_imul C dX0_readSignature_31 ?_
          refine j_ishl C dX0_readSignature_32 ?_
          refine j_ior C dX0_readSignature_33 ?_
          refine k_istore_n C dX0_readSignature_34 (by rw [hnL]; decide) ?_
          rw [sg_or (by omega) hs (by have := tyV_le (t := t) (n := n) (p := q); omega)]
          refine k_iinc C dX0_readSignature_35 rfl rfl (by rw [hnL]; decide) ?_
          refine j_goto C 10 dX0_readSignature_38 (by decide) ?_
          rw [show nI k + Int32.ofInt 1 = nI (k + 1) from nI_1 k]
          refine ih (k + 1) (s + tyV t n q * 4 ^ k) (tyP t n q) (by omega) (by omega) ?_ (tyP_ok hq) (by rw [e]; conv => lhs; unfold sgL; rw [if_neg c21])
          have h9 := tyV_le (t := t) (n := n) (p := q)
          have h8 : tyV t n q * 4 ^ k ≤ 2 * 4 ^ k := Nat.mul_le_mul_right _ (by omega)
          rw [Nat.pow_succ]
          omega
  refine j_iconst (v := 0) C dX0_readSignature_0 (by decide) ?_
  refine k_istore_n C dX0_readSignature_1 (by rw [hnL]; decide) ?_
  refine k_aload_n C dX0_readSignature_2 rfl ?_
  refine j_bipush (v := 40) C dX0_readSignature_3 (by decide) ?_
  refine k_callV (k := 13) (ci := 0) (As := [.int (nI 40)]) C mX0_68 (u_take hw ht hp (ch := 40) (by decide) (by decide)) jCl0.1 (by first | decide | omega) (by first | assumption | rfl) rfl rfl (Nat.le_of_ble_eq_true rfl) (jroom hR (by first | decide | omega) (by decide)) dX0_readSignature_5 ?_
  rintro v9 h9 ⟨rfl, rfl⟩
  refine j_iconst (v := 1) C dX0_readSignature_8 (by decide) ?_
  refine k_istore_n C dX0_readSignature_9 (by rw [hnL]; decide) ?_
  exact loop 3 1 0 _ (by omega) (by omega) (by decide) hp1 rfl
theorem hq_n {a : Nat} : ((up2 (hq g n (some a)).1 13 2 (nI (a + 1)), (hq g n (some a)).2) : jH) = hq g n (some (a + 1)) := hv_at
theorem u_skipBody (hw : jok w) (ht : tx g t n) (hp : pOk n p) : jM l w yX0_skipBody cX0_skipBody 2 none 0 [.ref (jad w 13)] (hq g n p) (fun r h' => r = none ∧ h' = hq g n (p.map (fun a => skp t n (n - a) a))) := by
  refine jM_of (by decide) hw (Nat.le_of_ble_eq_true rfl) ?_
  intro X C hl hR hnL hrt hE
  subst hl
  have C : jC X w cX0_skipBody RX0 := C
  have hn : n ≤ 120 := ht.2.2.1
  show J X w (hq g n p) 0 [(0, .ref (jad w 13))] []
  cases p with
  | none =>
    refine k_aload_n C dX0_skipBody_0 rfl ?_
    refine j_geti C fX0_19 rfl (by first | decide | omega) (by first | assumption | rfl) dX0_skipBody_1 ?_
    rw [hq_at]
    refine k_istore_n C dX0_skipBody_4 (by rw [hnL]; decide) ?_
    refine k_iload_n C dX0_skipBody_5 rfl ?_
    refine k_aload_n C dX0_skipBody_6 rfl ?_
    refine j_geti C fX0_15 rfl (by first | decide | omega) (by first | assumption | rfl) dX0_skipBody_7 ?_
    refine j_icmp_ge C 37 dX0_skipBody_10 (by decide) (fun c10 => ?_) (fun c10 => ?_)
    · exact j_vret C hrt hE dX0_skipBody_37 (⟨rfl, rfl⟩)
    · exact absurd (by rw [hq_o (by omega), ht.2.1]; exact nI_le (a := n) (b := n) (by omega) (by omega)) c10 -- stop
  | some a =>
    have ha := hp a rfl
    have loop : ∀ (f b : Nat), b + f = n → skp t n (n - a) a = skp t n f b → J X w (hq g n (some b)) 5 [(0, .ref (jad w 13)), (1, .int (nI b))] [] := by
      intro f
      induction f with
      | zero =>
        intro b hb e
        refine k_iload_n C dX0_skipBody_5 rfl ?_
        refine k_aload_n C dX0_skipBody_6 rfl ?_
        refine j_geti C fX0_15 rfl (by first | decide | omega) (by first | assumption | rfl) dX0_skipBody_7 ?_
        refine j_icmp_ge C 37 dX0_skipBody_10 (by decide) (fun c10 => ?_) (fun c10 => ?_)
        · exact j_vret C hrt hE dX0_skipBody_37 (⟨rfl, by show _ = hq g n (some (skp t n (n - a) a)); rw [e]; rfl⟩)
        · exact absurd (by rw [hq_o (by omega), ht.2.1]; exact nI_le (a := n) (b := b) (by omega) (by omega)) c10 -- stop
      | succ f ih =>
        intro b hb e
        have hx := (hq_tx (p := some b) ht).2.2.2 b (by omega)
        refine k_iload_n C dX0_skipBody_5 rfl ?_
        refine k_aload_n C dX0_skipBody_6 rfl ?_
        refine j_geti C fX0_15 rfl (by first | decide | omega) (by first | assumption | rfl) dX0_skipBody_7 ?_
        refine j_icmp_ge C 37 dX0_skipBody_10 (by decide) (fun c10 => ?_) (fun c10 => ?_)
        · exact absurd c10 (by rw [hq_o (by omega), ht.2.1]; exact nI_ge (a := b) (b := n) (by omega) (by omega)) -- stop
        · refine k_aload_n C dX0_skipBody_13 rfl ?_
          refine j_getr C fX0_9 rfl (by first | decide | omega) (by first | assumption | rfl) (by rw [hq_2]; exact ht.1) dX0_skipBody_14 ?_
          refine k_iload_n C dX0_skipBody_17 rfl ?_
          refine j_cald C (by first | decide | omega) (by first | assumption | rfl) (rfl) ((by omega)) (by decide) dX0_skipBody_18 ?_
          refine j_bipush (v := 59) C dX0_skipBody_19 (by decide) ?_
          refine j_icmp_eq C 37 dX0_skipBody_21 (by decide) (fun c21 => ?_) (fun c21 => ?_)
          · replace c21 : t b = 59 := (nI_eq (by omega) (by omega)).mp (by rw [← hx.1]; exact c21)
            exact j_vret C hrt hE dX0_skipBody_37 (⟨rfl, by show _ = hq g n (some (skp t n (n - a) a)); rw [e]; unfold skp; rw [if_neg (fun z => z.2 c21)]⟩)
          · replace c21 : ¬ t b = 59 := fun z => c21 (by rw [hx.1, z]; rfl)
            refine k_aload_n C dX0_skipBody_24 rfl ?_
            refine k_iload_n C dX0_skipBody_25 rfl ?_
            refine j_iconst (v := 1) C dX0_skipBody_26 (by decide) ?_
            refine j_iadd C dX0_skipBody_27 ?_
            rw [nI_1]
            refine j_puti C fX0_19 rfl rfl (by decide) rfl dX0_skipBody_28 ?_
            refine jeqh hq_n ?_
            refine k_iinc C dX0_skipBody_31 rfl rfl (by rw [hnL]; decide) ?_
            refine j_goto C 5 dX0_skipBody_34 (by decide) ?_
            rw [show nI b + Int32.ofInt 1 = nI (b + 1) from nI_1 b]
            refine ih (b + 1) (by omega) (by rw [e]; conv => lhs; unfold skp; rw [if_pos ⟨by omega, c21⟩])
    refine k_aload_n C dX0_skipBody_0 rfl ?_
    refine j_geti C fX0_19 rfl (by first | decide | omega) (by first | assumption | rfl) dX0_skipBody_1 ?_
    rw [hq_at]
    refine k_istore_n C dX0_skipBody_4 (by rw [hnL]; decide) ?_
    exact loop (n - a) a (by omega) rfl
end HD1
