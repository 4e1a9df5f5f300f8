/-- a head as it stands in item i of unit u; what is known of it -/
def hdA (g : jH) (u i : Nat) (d : HD) : Prop := g.1 (ub u + 3 + i) 0 = oI d.1 ∧ g.1 (ub u + 3 + i) 1 = nI d.2.1 ∧ g.1 (ub u + 3 + i) 2 = nI d.2.2.1 ∧ g.1 (ub u + 3 + i) 3 = nI (wb d.2.2.1 4) ∧ g.1 (ub u + 3 + i) 4 = nI d.2.2.2.1 ∧ (d.1 = 0 → g.1 (ub u + 3 + i) 5 = nI d.2.2.2.2)
def hdK (n : Nat) (d : HD) : Prop := d.1 ≤ 6 ∧ d.2.1 < 26 ∧ d.2.2.1 < 256 ∧ (∀ k, ta d.2.2.1 k ≠ 3) ∧ (ta d.2.2.1 0 = 1 ∨ ta d.2.2.1 0 = 2) ∧ d.2.2.2.1 ≤ 1 ∧ d.2.2.2.2 ≤ n
def hdI (g : jH) (u n : Nat) (hs : List HD) : Prop := ∀ i (hi : i < hs.length), hdA g u i hs[i] ∧ hdK n hs[i]
def hdF (u i : Nat) (g g' : jH) : Prop := g'.2 = g.2 ∧ ∀ k j, ¬ (k = ub u + 3 + i ∧ j ≤ 5) → g'.1 k j = g.1 k j
section HD2
variable {l : Launch} {w : jW} {g g' h : jH} {u : Nat} {t : Nat → Nat} {n : Nat} {p : Option Nat} {hs : List HD}
theorem hdF_put {i j : Nat} {v : Int32} (hF : hdF u i g g') (hj : j ≤ 5) : hdF u i g (up2 g'.1 (ub u + 3 + i) j v, g'.2) := by
  refine ⟨hF.1, fun k y h => ?_⟩
  show up2 g'.1 (ub u + 3 + i) j v k y = _
  rw [up2_n (by omega)]; exact hF.2 k y h
theorem hdF_tx {i : Nat} (hu : u < 7) (hi : i < 6) (hF : hdF u i g g') (ht : tx g t n) : tx g' t n := by
  have := ub_in hu
  obtain ⟨h1, h2, h3, h4⟩ := ht
  refine ⟨by rw [hF.1]; exact h1, by rw [hF.2 13 1 (by omega)]; exact h2, h3, fun j hj => ?_⟩
  rw [hF.2 1 j (by omega)]; exact h4 j hj
/-- the definition, or import, with that owner and name -/
theorem f_find (hw : jok w) (hu : ur h u) (hc : h.1 (ub u) 1 = nI hs.length) (h6 : hs.length ≤ 6) (hf : ∀ i (hi : i < hs.length), h.1 (ub u + 3 + i) 0 = oI (hs[i]).1 ∧ h.1 (ub u + 3 + i) 1 = nI (hs[i]).2.1 ∧ (hs[i]).1 ≤ 6 ∧ (hs[i]).2.1 < 26) {o m : Nat} (ho : o ≤ 6) (hm : m < 26) : jM l w yX3_find cX3_find 4 (some (.object "ModuleLinker$Item")) 0 [.ref (jad w (ub u)), .int (oI o), .int (nI m)] h (fun r h' => h' = h ∧ ((lkp (hs.map h3) o m = none ∧ r = some .null) ∨ ∃ i, ∃ hi : i < hs.length, (hs[i]).1 = o ∧ (hs[i]).2.1 = m ∧ (∀ k (hk : k < i), ¬ ((hs[k]'(by omega)).1 = o ∧ (hs[k]'(by omega)).2.1 = m)) ∧ lkp (hs.map h3) o m = some (hs[i]).2.2.1 ∧ r = some (.ref (jad w (ub u + 3 + i))))) := by
  have e3 : ∀ i (hi : i < hs.length), fitI h u (oI o) (nI m) i ↔ ((hs[i]).1 = o ∧ (hs[i]).2.1 = m) := by
    intro i hi
    obtain ⟨q1, q2, q4, q5⟩ := hf i hi
    unfold fitI
    rw [q1, q2, oI_eq (by omega) (by omega), nI_eq (by omega) (by omega)]
  refine jM_mono (m_find hw hu hc h6 (oI o) (nI m)) ?_
  rintro v h' ⟨rfl, hh⟩
  refine ⟨rfl, ?_⟩
  rcases lkp_find (hs.map h3) o m with ⟨g1, g2⟩ | ⟨i, hi, g1, g2, g3⟩
  · rcases hh with ⟨i, hi, hf, -⟩ | ⟨-, hr⟩
    · exact absurd ((e3 i hi).mp hf) (by have := g2 i (by simpa using hi); simpa [h3] using this)
    · exact Or.inl ⟨g1, hr⟩
  · have hi' : i < hs.length := by simpa using hi
    have g1' : (hs[i]).1 = o ∧ (hs[i]).2.1 = m := by simpa [h3] using g1
    have g3' : ∀ k (hk : k < i), ¬ ((hs[k]'(by omega)).1 = o ∧ (hs[k]'(by omega)).2.1 = m) := fun k hk => by simpa [h3] using g3 k hk
    rcases hh with ⟨k, hk, hf, hno, hr⟩ | ⟨hno, hr⟩
    · have hki : k = i := by
        rcases Nat.lt_trichotomy k i with z | z | z
        · exact absurd ((e3 k hk).mp hf) (g3' k z)
        · exact z
        · exact absurd ((e3 i hi').mpr g1') (hno i z)
      subst hki
      exact Or.inr ⟨k, hk, g1'.1, g1'.2, g3', by simpa [h3] using g2, hr⟩
    · exact absurd ((e3 i hi').mpr g1') (hno i hi')
theorem amV_le {lo hi : Nat} : amV t n lo hi p ≤ hi - lo := by unfold amV; split <;> omega
theorem hdO_le : hdO t n p ≤ 6 := by
  unfold hdO
  split
  · have := amV_le (t := t) (n := n) (lo := 65) (hi := 70) (p := tkI t n 63 p); omega
  · omega
theorem hdN_lt : hdN t n p < 26 := by have := amV_le (t := t) (n := n) (lo := 97) (hi := 122) (p := hdP2 t n p); unfold hdN; omega
theorem sgL_3 : ∀ (f k s : Nat) (p : Option Nat), 1 ≤ k → s < 4 ^ k → (∀ j, ta s j ≠ 3) → k + f ≤ 4 → ∀ j, ta (sgL t n f k s p).1 j ≠ 3
  | 0, k, s, p, _, _, h, _ => h
  | f + 1, k, s, p, hk, hs, h, h4 => by
    unfold sgL
    split
    · exact h
    · have hv := tyV_le (t := t) (n := n) (p := p)
      refine sgL_3 f (k + 1) _ _ (by omega) ?_ ?_ (by omega)
      · rw [Nat.pow_succ]
        have : tyV t n p * 4 ^ k ≤ 2 * 4 ^ k := Nat.mul_le_mul_right _ (by omega)
        omega
      · intro j
        unfold ta
        split
        · omega
        · next hj =>
          rcases Nat.lt_trichotomy j k with z | z | z
          · have e : (s + tyV t n p * 4 ^ k) / 4 ^ j % 4 = s / 4 ^ j % 4 := by
              obtain ⟨q, rfl⟩ : ∃ q, k = j + 1 + q := ⟨k - j - 1, by omega⟩
              rw [Nat.pow_add, Nat.pow_succ, show tyV t n p * (4 ^ j * 4 * 4 ^ q) = 4 ^ j * (tyV t n p * 4 ^ q * 4) by rw [Nat.mul_assoc (4 ^ j), Nat.mul_left_comm, Nat.mul_assoc, Nat.mul_comm 4 (4 ^ q)], Nat.add_mul_div_left _ _ (Nat.pow_pos (by decide)), Nat.add_mul_mod_self_right]
            rw [e]
            have := h j
            unfold ta at this
            rw [if_neg hj] at this
            exact this
          · subst z
            rw [Nat.add_mul_div_right _ _ (Nat.pow_pos (by decide)), Nat.div_eq_of_lt hs]
            omega
          · have : (s + tyV t n p * 4 ^ k) / 4 ^ j = 0 := by
              apply Nat.div_eq_of_lt
              have h1 : tyV t n p * 4 ^ k ≤ 2 * 4 ^ k := Nat.mul_le_mul_right _ (by omega)
              have h2 : (4 : Nat) ^ (k + 1) ≤ 4 ^ j := Nat.pow_le_pow_right (by decide) (by omega)
              rw [Nat.pow_succ] at h2
              omega
            rw [this]; decide
theorem ta_add {s y k : Nat} (h4 : s % 4 = 0) (hy : y < 4) : ta (s + y) k = if k = 0 then y else ta s k := by
  unfold ta
  by_cases h0 : k = 0
  · subst h0; simp; omega
  · rw [if_neg h0]
    split
    · rfl
    · obtain ⟨q, rfl⟩ : ∃ q, k = q + 1 := ⟨k - 1, by omega⟩
      rw [Nat.pow_succ, Nat.mul_comm (4 ^ q) 4, ← Nat.div_div_eq_div_mul, ← Nat.div_div_eq_div_mul, show (s + y) / 4 = s / 4 by omega]
theorem sgF_ok : (sgF t n p).1 < 256 ∧ (∀ k, ta (sgF t n p).1 k ≠ 3) ∧ (ta (sgF t n p).1 0 = 1 ∨ ta (sgF t n p).1 0 = 2) := by
  have h1 := sgL_lt (t := t) (n := n) 3 1 0 (tk t n 40 p) (by decide)
  have h2 := sgL_4 (t := t) (n := n) 3 1 0 (tk t n 40 p) (by decide) rfl
  have h3 := sgL_3 (t := t) (n := n) 3 1 0 (tk t n 40 p) (by decide) (by decide) (fun j => by unfold ta; split <;> simp) (by decide)
  have h4 := tyV_le (t := t) (n := n) (p := tk t n 41 (sgL t n 3 1 0 (tk t n 40 p)).2)
  unfold sgF
  generalize (sgL t n 3 1 0 (tk t n 40 p)).1 = s at *
  generalize tyV t n (tk t n 41 (sgL t n 3 1 0 (tk t n 40 p)).2) = y at *
  refine ⟨?_, fun k => ?_, ?_⟩
  · show s + y < 256
    have : s < 256 := h1
    omega
  · show ta (s + y) k ≠ 3
    rw [ta_add h2 (by omega)]
    split
    · omega
    · exact h3 k
  · show ta (s + y) 0 = 1 ∨ ta (s + y) 0 = 2
    rw [ta_add h2 (by omega), if_pos rfl]; omega
theorem hdP2_ok (hp : pOk n p) : pOk n (hdP2 t n p) := by
  unfold hdP2
  split
  · exact tk_ok (by decide)
  · exact tkI_ok (by decide) (tkI_ok (by decide) hp)
theorem hdP4_ok : pOk n (hdP4 t n hs p) := by
  unfold hdP4
  split
  · exact am_ok (by decide)
  · intro b hb; cases hb
theorem sgF_p (hp : pOk n p) : pOk n (sgF t n p).2 := tyP_ok (tk_ok (by decide))
theorem hdP6_ok : pOk n (hdP6 t n hs p) := by
  unfold hdP6
  split
  · exact tk_ok (by decide)
  · exact sgF_p hdP4_ok
theorem skp_le : ∀ (f a : Nat), a ≤ n → a ≤ skp t n f a ∧ skp t n f a ≤ n
  | 0, a, h => ⟨Nat.le_refl _, h⟩
  | f + 1, a, h => by
    unfold skp
    split
    · next c => have := skp_le f (a + 1) (by omega); omega
    · exact ⟨Nat.le_refl _, h⟩
theorem hdP7_ok : pOk n (hdP7 t n hs p) := by
  unfold hdP7
  split
  · intro b hb
    cases e : hdP6 t n hs p with
    | none => rw [e] at hb; cases hb
    | some a =>
      rw [e] at hb
      simp at hb
      have := skp_le (t := t) (n - a) a (hdP6_ok (t := t) (n := n) (hs := hs) (p := p) a e)
      omega
  · exact hdP6_ok
theorem hdK_D : hdK n (hdD t n hs p) := by
  obtain ⟨h1, h2, h3⟩ := sgF_ok (t := t) (n := n) (p := hdP4 t n hs p)
  refine ⟨hdO_le, hdN_lt, h1, h2, h3, ?_, ?_⟩
  · show hdX t n p ≤ 1
    unfold hdX
    split
    · omega
    · split <;> omega
  · show (if hdO t n p = 0 then (hdP6 t n hs p).getD n else 0) ≤ n
    split
    · exact pOk_le hdP6_ok
    · omega
theorem oI_s (a : Nat) : oI (a + 1) = nI a := by unfold oI; rw [← nI_1]; simp
theorem u_readHead (hw : jok w) (hu : ur g u) (hg3 : g.2.1 13 3 = some (ub u)) (ht : tx g t n) (hp : pOk n p) (hlen : hs.length < 6) (hcnt : g.1 (ub u) 1 = nI hs.length) (hI : hdI g u n hs) : jM l w yX0_readHead cX0_readHead 2 none 5 [.ref (jad w 13), .ref (jad w (ub u + 3 + hs.length))] (hq g n p) (fun r h' => r = none ∧ ∃ g', h' = hq g' n (hdP7 t n hs p) ∧ hdF u hs.length g g' ∧ hdA g' u hs.length (hdD t n hs p)) := by
  refine jM_of (by decide) hw (Nat.le_of_ble_eq_true rfl) ?_
  intro X C hl hR hnL hrt hE
  subst hl
  have C : jC X w cX0_readHead RX0 := C
  obtain ⟨k3, k4, k5, k6, k7⟩ := jk_unit u hu.1
  have k8 := k7 hs.length hlen
  have hub := ub_in hu.1
  have hO := hdO_le (t := t) (n := n) (p := p)
  have hN := hdN_lt (t := t) (n := n) (p := p)
  have hS9 := sgF_ok (t := t) (n := n) (p := hdP4 t n hs p)
  show J X w (hq g n p) 0 [(0, .ref (jad w 13)), (1, .ref (jad w (ub u + 3 + hs.length)))] []
  have fin2 : ∀ g2, hdF u hs.length g g2 → g2.1 (ub u + 3 + hs.length) 0 = oI (hdO t n p) → g2.1 (ub u + 3 + hs.length) 4 = nI (hdX t n p) → g2.1 (ub u + 3 + hs.length) 1 = nI (hdN t n p) → J X w (hq g2 n (hdP4 t n hs p)) 85 [(0, .ref (jad w 13)), (1, .ref (jad w (ub u + 3 + hs.length)))] [] := by
    intro g2 hF q0 q4 q1
    have ht2 := hdF_tx hu.1 hlen hF ht
    refine k_aload_n C dX0_readHead_85 rfl ?_
    refine k_aload_n C dX0_readHead_86 rfl ?_
    refine k_callV (k := 13) (ci := 0) (As := []) C mX0_91 (u_readSignature hw ht2 hdP4_ok) jCl0.1 (by first | decide | omega) (by first | assumption | rfl) rfl rfl (Nat.le_of_ble_eq_true rfl) (jroom hR (by first | decide | omega) (by decide)) dX0_readHead_87 ?_
    rintro v9 h9 ⟨rfl, rfl⟩
    refine j_puti C fX0_94 rfl rfl (by first | decide | omega) (by first | assumption | rfl) dX0_readHead_90 ?_
    refine jeqh (hq_put (by omega)) ?_
    refine k_aload_n C dX0_readHead_93 rfl ?_
    refine k_aload_n C dX0_readHead_94 rfl ?_
    refine j_geti C fX0_94 rfl (by first | decide | omega) (by first | assumption | rfl) dX0_readHead_95 ?_
    rw [hq_o (by omega)]
    dsimp only
    rw [up2_s]
    refine j_iconst (v := nI 4) C dX0_readHead_98 (by decide) ?_
    refine k_callS (As := [.int (nI (sgF t n (hdP4 t n hs p)).1), .int (nI 4)]) C mX0_97 (m_wordsBefore hw hS9.1 (k := 4) (by decide)) rfl rfl (Nat.le_of_ble_eq_true rfl) (jroom hR (by first | decide | omega) (by decide)) dX0_readHead_99 ?_
    rintro v9 h9 ⟨rfl, rfl⟩
    refine j_puti C fX0_101 rfl rfl (by first | decide | omega) (by first | assumption | rfl) dX0_readHead_102 ?_
    refine jeqh (hq_put (by omega)) ?_
    obtain ⟨g3, e3⟩ : ∃ g3 : jH, g3 = (up2 (up2 g2.1 (ub u + 3 + hs.length) 2 (nI (sgF t n (hdP4 t n hs p)).1)) (ub u + 3 + hs.length) 3 (nI (wb (sgF t n (hdP4 t n hs p)).1 4)), g2.2) := ⟨_, rfl⟩
    refine jeqh (show _ = hq g3 n _ from by rw [e3]) ?_
    have hF3 : hdF u hs.length g g3 := by rw [e3]; exact hdF_put (g' := (up2 g2.1 (ub u + 3 + hs.length) 2 _, g2.2)) (hdF_put hF (by decide)) (by decide)
    have r0 : g3.1 (ub u + 3 + hs.length) 0 = oI (hdO t n p) := by rw [e3]; simpa [up2] using q0
    have r1 : g3.1 (ub u + 3 + hs.length) 1 = nI (hdN t n p) := by rw [e3]; simpa [up2] using q1
    have r2 : g3.1 (ub u + 3 + hs.length) 2 = nI (sgF t n (hdP4 t n hs p)).1 := by rw [e3]; simp [up2]
    have r3 : g3.1 (ub u + 3 + hs.length) 3 = nI (wb (sgF t n (hdP4 t n hs p)).1 4) := by rw [e3]; simp [up2]
    have r4 : g3.1 (ub u + 3 + hs.length) 4 = nI (hdX t n p) := by rw [e3]; simpa [up2] using q4
    have ht3 := hdF_tx hu.1 hlen hF3 ht
    refine k_aload_n C dX0_readHead_105 rfl ?_
    refine j_geti C fX0_48 rfl (by first | decide | omega) (by first | assumption | rfl) dX0_readHead_106 ?_
    rw [hq_o (by omega), r0]
    refine j_iconst (v := -1) C dX0_readHead_109 (by decide) ?_
    refine j_icmp_ne C 131 dX0_readHead_110 (by decide) (fun c110 => ?_) (fun c110 => ?_)
    · replace c110 : ¬ hdO t n p = 0 := fun z => c110 (by rw [z]; exact oI_0)
      exact j_vret C hrt hE dX0_readHead_131 (by first | exact ⟨rfl, g3, by unfold hdP7 hdP6; rw [if_neg c110, if_neg c110], hF3, r0, r1, r2, r3, r4, fun z => absurd z c110⟩ | exact ⟨rfl, _, by unfold hdP7 hdP6; rw [if_pos c110, if_pos c110], hdF_put hF3 (by decide), (up2_n (by omega)).trans r0, (up2_n (by omega)).trans r1, (up2_n (by omega)).trans r2, (up2_n (by omega)).trans r3, (up2_n (by omega)).trans r4, fun _ => by simp [up2, hdD, hdP6, c110]⟩)
    · replace c110 : hdO t n p = 0 := (oI_eq (by omega) (by omega)).mp (c110.trans oI_0.symm)
      refine k_aload_n C dX0_readHead_113 rfl ?_
      refine j_bipush (v := 61) C dX0_readHead_114 (by decide) ?_
      refine k_callV (k := 13) (ci := 0) (As := [.int (nI 61)]) C mX0_68 (u_take hw ht3 (sgF_p hdP4_ok) (ch := 61) (by decide) (by decide)) jCl0.1 (by first | decide | omega) (by first | assumption | rfl) rfl rfl (Nat.le_of_ble_eq_true rfl) (jroom hR (by first | decide | omega) (by decide)) dX0_readHead_116 ?_
      rintro v9 h9 ⟨rfl, rfl⟩
      refine k_aload_n C dX0_readHead_119 rfl ?_
      refine k_aload_n C dX0_readHead_120 rfl ?_
      refine j_geti C fX0_19 rfl (by first | decide | omega) (by first | assumption | rfl) dX0_readHead_121 ?_
      rw [hq_at]
      refine j_puti C fX0_104 rfl rfl (by first | decide | omega) (by first | assumption | rfl) dX0_readHead_124 ?_
      refine jeqh (hq_put (by omega)) ?_
      refine k_aload_n C dX0_readHead_127 rfl ?_
      refine k_callV (k := 13) (ci := 0) (As := []) C mX0_107 (u_skipBody hw (hdF_tx hu.1 hlen (hdF_put hF3 (j := 5) (by decide)) ht) (tk_ok (t := t) (n := n) (ch := 61) (by decide))) jCl0.1 (by first | decide | omega) (by first | assumption | rfl) rfl rfl (Nat.le_of_ble_eq_true rfl) (jroom hR (by first | decide | omega) (by decide)) dX0_readHead_128 ?_
      rintro v9 h9 ⟨rfl, rfl⟩
      exact j_vret C hrt hE dX0_readHead_131 (by first | exact ⟨rfl, g3, by unfold hdP7 hdP6; rw [if_neg c110, if_neg c110], hF3, r0, r1, r2, r3, r4, fun z => absurd z c110⟩ | exact ⟨rfl, _, by unfold hdP7 hdP6; rw [if_pos c110, if_pos c110], hdF_put hF3 (by decide), (up2_n (by omega)).trans r0, (up2_n (by omega)).trans r1, (up2_n (by omega)).trans r2, (up2_n (by omega)).trans r3, (up2_n (by omega)).trans r4, fun _ => by simp [up2, hdD, hdP6, c110]⟩)
  have fin : ∀ g2, hdF u hs.length g g2 → g2.1 (ub u + 3 + hs.length) 0 = oI (hdO t n p) → g2.1 (ub u + 3 + hs.length) 4 = nI (hdX t n p) → J X w (hq g2 n (hdP2 t n p)) 50 [(0, .ref (jad w 13)), (1, .ref (jad w (ub u + 3 + hs.length)))] [] := by
    intro g2 hF q0 q4
    have ht2 := hdF_tx hu.1 hlen hF ht
    refine k_aload_n C dX0_readHead_50 rfl ?_
    refine k_aload_n C dX0_readHead_51 rfl ?_
    refine j_bipush (v := 97) C dX0_readHead_52 (by decide) ?_
    refine j_bipush (v := 122) C dX0_readHead_54 (by decide) ?_
    refine k_callV (k := 13) (ci := 0) (As := [.int (nI 97), .int (nI 122)]) C mX0_57 (u_readAmong hw ht2 (hdP2_ok hp) (lo := 97) (hi := 122) (by decide) (by decide) (by decide)) jCl0.1 (by first | decide | omega) (by first | assumption | rfl) rfl rfl (Nat.le_of_ble_eq_true rfl) (jroom hR (by first | decide | omega) (by decide)) dX0_readHead_56 ?_
    rintro v9 h9 ⟨rfl, rfl⟩
    refine j_puti C fX0_86 rfl rfl (by first | decide | omega) (by first | assumption | rfl) dX0_readHead_59 ?_
    refine jeqh (hq_put (by omega)) ?_
    obtain ⟨g3, e3⟩ : ∃ g3 : jH, g3 = (up2 g2.1 (ub u + 3 + hs.length) 1 (nI (hdN t n p)), g2.2) := ⟨_, rfl⟩
    refine jeqh (show _ = hq g3 n (am t n 97 122 (hdP2 t n p)) from by rw [e3]; rfl) ?_
    have hF3 : hdF u hs.length g g3 := by rw [e3]; exact hdF_put hF (by decide)
    have r0 : g3.1 (ub u + 3 + hs.length) 0 = oI (hdO t n p) := by rw [e3]; simpa [up2] using q0
    have r1 : g3.1 (ub u + 3 + hs.length) 1 = nI (hdN t n p) := by rw [e3]; simp [up2]
    have r4 : g3.1 (ub u + 3 + hs.length) 4 = nI (hdX t n p) := by rw [e3]; simpa [up2] using q4
    have ht3 := hdF_tx hu.1 hlen hF3 ht
    refine k_aload_n C dX0_readHead_62 rfl ?_
    refine j_getr C fX0_22 rfl (by first | decide | omega) (by first | assumption | rfl) (by rw [hq_2, hF3.1]; exact hg3) dX0_readHead_63 ?_
    refine k_aload_n C dX0_readHead_66 rfl ?_
    refine j_geti C fX0_48 rfl (by first | decide | omega) (by first | assumption | rfl) dX0_readHead_67 ?_
    rw [hq_o (by omega), r0]
    refine k_aload_n C dX0_readHead_70 rfl ?_
    refine j_geti C fX0_86 rfl (by first | decide | omega) (by first | assumption | rfl) dX0_readHead_71 ?_
    rw [hq_o (by omega), r1]
    refine k_callV (k := ub u) (ci := 3) (As := [.int (oI (hdO t n p)), .int (nI (hdN t n p))]) C mX0_87 (f_find (hs := hs) hw (by have := hu; unfold ur at this ⊢; rw [hq_2, hF3.1]; exact this) (by rw [hq_o (by omega), hF3.2 _ _ (by omega)]; exact hcnt) (by omega) (fun i hi => by rw [hq_o (by omega), hq_o (by omega), hF3.2 _ _ (by omega), hF3.2 _ _ (by omega)]; exact ⟨(hI i hi).1.1, (hI i hi).1.2.1, (hI i hi).2.1, (hI i hi).2.2.1⟩) hO hN) jCl3.1 (by omega) k3 rfl rfl (Nat.le_of_ble_eq_true rfl) (jroom hR (by decide) (by decide)) dX0_readHead_74 ?_
    rintro v9 h9 ⟨rfl, ⟨hl9, rfl⟩ | ⟨i9, hi9, -, -, -, hl9, rfl⟩⟩
    · refine j_ifnullN C 85 dX0_readHead_77 (by decide) ?_
      have := fin2 g3 hF3 r0 r4 r1
      unfold hdP4 at this
      rw [if_pos hl9] at this
      exact this
    · refine j_ifnull C dX0_readHead_77 ?_
      refine k_aload_n C dX0_readHead_80 rfl ?_
      refine k_callV (k := 13) (ci := 0) (As := []) C mX0_75 (u_refuse hw ht3) jCl0.1 (by decide) rfl rfl rfl (Nat.le_of_ble_eq_true rfl) (jroom hR (by decide) (by decide)) dX0_readHead_81 ?_
      rintro v9 h9 ⟨rfl, rfl⟩
      refine j_pop C dX0_readHead_84 rfl ?_
      have := fin2 g3 hF3 r0 r4 r1
      unfold hdP4 at this
      rw [if_neg (by rw [hl9]; simp)] at this
      exact this
  refine k_aload_n C dX0_readHead_0 rfl ?_
  refine j_iconst (v := -1) C dX0_readHead_1 (by decide) ?_
  refine j_puti C fX0_48 rfl rfl (by first | decide | omega) (by first | assumption | rfl) dX0_readHead_2 ?_
  refine jeqh (hq_put (by omega)) ?_
  refine k_aload_n C dX0_readHead_5 rfl ?_
  refine j_iconst (v := 0) C dX0_readHead_6 (by decide) ?_
  refine j_putz C fX0_79 rfl rfl (by first | decide | assumption) (by first | decide | omega) (by first | assumption | rfl) dX0_readHead_7 ?_
  refine jeqh (hq_put (by omega)) ?_
  obtain ⟨g3, e3⟩ : ∃ g3 : jH, g3 = (up2 (up2 g.1 (ub u + 3 + hs.length) 0 (-1)) (ub u + 3 + hs.length) 4 0, g.2) := ⟨_, rfl⟩
  refine jeqh (show _ = hq g3 n p from by rw [e3]) ?_
  have hF3 : hdF u hs.length g g3 := by rw [e3]; exact hdF_put (g' := (up2 g.1 (ub u + 3 + hs.length) 0 (-1), g.2)) (hdF_put ⟨rfl, fun _ _ _ => rfl⟩ (by decide)) (by decide)
  have r0 : g3.1 (ub u + 3 + hs.length) 0 = -1 := by rw [e3]; simp [up2]
  have r4 : g3.1 (ub u + 3 + hs.length) 4 = nI 0 := by rw [e3]; exact up2_s
  have ht3 := hdF_tx hu.1 hlen hF3 ht
  refine k_aload_n C dX0_readHead_10 rfl ?_
  refine j_bipush (v := 63) C dX0_readHead_11 (by decide) ?_
  refine k_callV (k := 13) (ci := 0) (As := [.int (nI 63)]) C mX0_82 (u_takeIf hw ht3 hp (ch := 63) (by decide) (by decide)) jCl0.1 (by first | decide | omega) (by first | assumption | rfl) rfl rfl (Nat.le_of_ble_eq_true rfl) (jroom hR (by first | decide | omega) (by decide)) dX0_readHead_13 ?_
  rintro v9 h9 ⟨rfl, rfl⟩
  refine j_if_eq C 40 dX0_readHead_16 (by decide) (fun c16 => ?_) (fun c16 => ?_)
  · rw [i1z] at c16
    refine k_aload_n C dX0_readHead_40 rfl ?_
    refine k_aload_n C dX0_readHead_41 rfl ?_
    refine j_bipush (v := 43) C dX0_readHead_42 (by decide) ?_
    refine k_callV (k := 13) (ci := 0) (As := [.int (nI 43)]) C mX0_82 (u_takeIf hw ht3 (tkI_ok (by decide) hp) (ch := 43) (by decide) (by decide)) jCl0.1 (by first | decide | omega) (by first | assumption | rfl) rfl rfl (Nat.le_of_ble_eq_true rfl) (jroom hR (by first | decide | omega) (by decide)) dX0_readHead_44 ?_
    rintro v9 h9 ⟨rfl, rfl⟩
    refine j_putz C fX0_79 rfl rfl (by split <;> simp) (by first | decide | omega) (by first | assumption | rfl) dX0_readHead_47 ?_
    refine jeqh (hq_put (by omega)) ?_
    have eO : hdP2 t n p = if pkO t n p = 63 then tk t n 46 (am t n 65 70 (tkI t n 63 p)) else tkI t n 43 (tkI t n 63 p) := rfl
    first | (rw [if_pos c16] at eO; rw [← eO]; exact fin _ (hdF_put hF3 (by decide)) (by unfold hdO; rw [if_pos c16, oI_s]; exact up2_s) (by unfold hdX; rw [if_pos c16]; simpa [up2] using r4)) | (rw [if_neg c16] at eO; rw [← eO]; exact fin _ (hdF_put hF3 (by decide)) (by unfold hdO; rw [if_neg c16, oI_0]; simpa [up2] using r0) (by unfold hdX; rw [if_neg c16]; show up2 g3.1 _ 4 _ _ 4 = _; rw [up2_s]; split <;> rfl))
  · rw [i1z, Classical.not_not] at c16
    refine k_aload_n C dX0_readHead_19 rfl ?_
    refine k_aload_n C dX0_readHead_20 rfl ?_
    refine j_bipush (v := 65) C dX0_readHead_21 (by decide) ?_
    refine j_bipush (v := 70) C dX0_readHead_23 (by decide) ?_
    refine k_callV (k := 13) (ci := 0) (As := [.int (nI 65), .int (nI 70)]) C mX0_57 (u_readAmong hw ht3 (tkI_ok (by decide) hp) (lo := 65) (hi := 70) (by decide) (by decide) (by decide)) jCl0.1 (by first | decide | omega) (by first | assumption | rfl) rfl rfl (Nat.le_of_ble_eq_true rfl) (jroom hR (by first | decide | omega) (by decide)) dX0_readHead_25 ?_
    rintro v9 h9 ⟨rfl, rfl⟩
    refine j_puti C fX0_48 rfl rfl (by first | decide | omega) (by first | assumption | rfl) dX0_readHead_28 ?_
    refine jeqh (hq_put (by omega)) ?_
    refine k_aload_n C dX0_readHead_31 rfl ?_
    refine j_bipush (v := 46) C dX0_readHead_32 (by decide) ?_
    refine k_callV (k := 13) (ci := 0) (As := [.int (nI 46)]) C mX0_68 (u_take hw (hdF_tx hu.1 hlen (hdF_put hF3 (j := 0) (by decide)) ht) (am_ok (t := t) (n := n) (lo := 65) (hi := 70) (by decide)) (ch := 46) (by decide) (by decide)) jCl0.1 (by first | decide | omega) (by first | assumption | rfl) rfl rfl (Nat.le_of_ble_eq_true rfl) (jroom hR (by first | decide | omega) (by decide)) dX0_readHead_34 ?_
    rintro v9 h9 ⟨rfl, rfl⟩
    refine j_goto C 50 dX0_readHead_37 (by decide) ?_
    have eO : hdP2 t n p = if pkO t n p = 63 then tk t n 46 (am t n 65 70 (tkI t n 63 p)) else tkI t n 43 (tkI t n 63 p) := rfl
    first | (rw [if_pos c16] at eO; rw [← eO]; exact fin _ (hdF_put hF3 (by decide)) (by unfold hdO; rw [if_pos c16, oI_s]; exact up2_s) (by unfold hdX; rw [if_pos c16]; simpa [up2] using r4)) | (rw [if_neg c16] at eO; rw [← eO]; exact fin _ (hdF_put hF3 (by decide)) (by unfold hdO; rw [if_neg c16, oI_0]; simpa [up2] using r0) (by unfold hdX; rw [if_neg c16]; show up2 g3.1 _ 4 _ _ 4 = _; rw [up2_s]; split <;> rfl))
end HD2
