/-! A COMPILED UNIT, without machine: heads, events, for each item its first event and its room -/
abbrev PU : Type := List HD × List Ev × List (Nat × Nat)
def Gv (ev : List Ev) (p : Nat) : Nat × Nat := match ev[p]? with
  | some e => (e.2.2.1, e.2.2.2)
  | none => (0, 0)
def bodyOk (hs : List (Nat × Nat × Nat)) (ev : List Ev) (s b Z rm : Nat) : Prop := b ≤ Z ∧ Z < ev.length ∧ ev[Z]? = some (14, 0, 0, ta s 0) ∧ Gv ev b = (0, 0) ∧ ∀ p e, b ≤ p → p ≤ Z → ev[p]? = some e → e.2.2.1 ≤ rm ∧ (p < Z → okE s hs (Gv ev) Z p e)
def dst (hs : List HD) : Prop := ∀ i j (hj : j < hs.length) (hi : i < j), ¬ ((hs[i]'(by omega)).1 = (hs[j]).1 ∧ (hs[i]'(by omega)).2.1 = (hs[j]).2.1)
def puOk (U : PU) : Prop := U.1.length ≤ 6 ∧ U.2.2.length = U.1.length ∧ dst U.1 ∧ (∀ i (hi : i < U.1.length), hdK 120 (U.1[i]) ∧ sgn (U.1[i]).2.2.1) ∧ cpos U.2.1 ≤ 240 ∧ rpos U.2.1 ≤ 126 ∧ ∀ i (hi : i < U.1.length), (U.1[i]).1 = 0 → (U.2.2.getD i (0, 0)).2 ≤ 240 ∧ ∃ Z, bodyOk (U.1.map h3) U.2.1 (U.1[i]).2.2.1 (U.2.2.getD i (0, 0)).1 Z (U.2.2.getD i (0, 0)).2
section PUS
variable {t : Nat → Nat} {n : Nat} {hs : List HD} {i : Nat} {md : CR} {p : Option Nat}
theorem Gc_of : ∀ (l : List Ev) (b : Nat) (G : Nat → Nat × Nat), (∀ k e, l[k]? = some e → G (b + k) = (e.2.2.1, e.2.2.2)) → Gc G b l
  | [], b, G, h => trivial
  | e :: l, b, G, h => ⟨h 0 e rfl, Gc_of l (b + 1) G (fun k x hx => by rw [show b + 1 + k = b + (k + 1) by omega]; exact h (k + 1) x (by simpa using hx))⟩
theorem Sq_at {s : Nat} {hs : List (Nat × Nat × Nat)} {G : Nat → Nat × Nat} {Z : Nat} : ∀ (l : List Ev) (b k : Nat) (e : Ev), Sq s hs G Z b l → l[k]? = some e → okE s hs G Z (b + k) e
  | [], b, k, e, _, h => by simp at h
  | x :: l, b, 0, e, hs, h => by simp at h; subst h; exact hs.1
  | x :: l, b, k + 1, e, hs, h => by
    rw [show b + (k + 1) = b + 1 + k by omega]
    exact Sq_at l (b + 1) k e hs.2 (by simpa using h)
theorem Gv_app {ev x : List Ev} {p : Nat} (h : p < ev.length) : Gv (ev ++ x) p = Gv ev p := by unfold Gv; rw [List.getElem?_append_left h]
theorem okE_G {s : Nat} {hs : List (Nat × Nat × Nat)} {G G' : Nat → Nat × Nat} {Z q : Nat} {e : Ev} (hq : q < Z) (hG : ∀ p, p ≤ Z → G' p = G p) (h : okE s hs G Z q e) : okE s hs G' Z q e := by
  obtain ⟨k, o, hd, cw⟩ := e
  have g1 := hG (q + 1) (by omega)
  unfold okE at h ⊢
  dsimp only at h ⊢
  split at h <;> simp only [g1] at * <;> first | exact h | skip
  · obtain ⟨a, b, c, d, e⟩ := h; exact ⟨a, b, by rw [hG _ e]; exact c, d, e⟩
  · obtain ⟨c, d, e⟩ := h; exact ⟨by rw [hG _ e]; exact c, d, e⟩
theorem bodyOk_app {hs : List (Nat × Nat × Nat)} {ev x : List Ev} {s b Z rm : Nat} (h : bodyOk hs ev s b Z rm) : bodyOk hs (ev ++ x) s b Z rm := by
  obtain ⟨h1, h2, h3, h4, h5⟩ := h
  refine ⟨h1, by simp; omega, by rw [List.getElem?_append_left h2]; exact h3, by rw [Gv_app (by omega)]; exact h4, fun p e p1 p2 he => ?_⟩
  rw [List.getElem?_append_left (by omega)] at he
  obtain ⟨a, b⟩ := h5 p e p1 p2 he
  exact ⟨a, fun q => okE_G q (fun p hp => Gv_app (by omega)) (b q)⟩
theorem bodyOk_new {hs : List (Nat × Nat × Nat)} {ev e : List Ev} {s m : Nat} (h : sgT s hs ev.length 0 (ta s 0) m e) : bodyOk hs (ev ++ (e ++ [(14, 0, 0, ta s 0)])) s ev.length (ev.length + e.length) m := by
  obtain ⟨⟨k, o, l, x⟩, h2, h3⟩ := h
  have hg : ∀ k x, e[k]? = some x → (ev ++ (e ++ [(14, 0, 0, ta s 0)]))[ev.length + k]? = some x := fun k x hx => by
    have hk : k < e.length := (List.getElem?_eq_some_iff.mp hx).1
    rw [List.getElem?_append_right (by omega), show ev.length + k - ev.length = k by omega, List.getElem?_append_left hk]; exact hx
  have hl : (ev ++ (e ++ [(14, 0, 0, ta s 0)]))[ev.length + e.length]? = some (14, 0, 0, ta s 0) := by
    rw [List.getElem?_append_right (by omega), show ev.length + e.length - ev.length = e.length by omega, List.getElem?_append_right (Nat.le_refl _)]; simp
  have hS := h2 (Gv (ev ++ (e ++ [(14, 0, 0, ta s 0)]))) (ev.length + e.length) (Gc_of e _ _ (fun k x hx => by unfold Gv; rw [hg k x hx])) (by unfold Gv; rw [hl]) (Nat.le_refl _)
  refine ⟨by omega, by simp, hl, ?_, fun p x p1 p2 hx => ?_⟩
  · unfold Gv
    rw [show ev.length = ev.length + 0 by omega, hg 0 (k, o, 0, 0) (by rw [x]; rfl)]
  · by_cases hp : p = ev.length + e.length
    · subst hp
      rw [hl] at hx
      simp at hx
      subst hx
      exact ⟨Nat.zero_le _, fun q => by omega⟩
    · obtain ⟨k', rfl⟩ : ∃ k', p = ev.length + k' := ⟨p - ev.length, by omega⟩
      have hk : k' < e.length := by omega
      have e1 : e[k']? = some e[k'] := List.getElem?_eq_getElem hk
      have e2 := hg k' _ e1
      rw [e2] at hx
      simp only [Option.some.injEq] at hx
      subst hx
      exact ⟨by have := h3 e[k'] (List.getElem_mem hk); omega, fun _ => Sq_at e _ k' _ hS e1⟩
def PI (t : Nat → Nat) (n : Nat) (hs : List HD) (i : Nat) (md : CR) : Prop := ∀ ev br, md = some (some (ev, br)) → br.length = i ∧ (∃ lim, lim ≤ n ∧ rpos ev ≤ lim + i ∧ cpos ev ≤ 2 * lim ∧ ∀ j (hj : j < hs.length), i ≤ j → (hs[j]).1 = 0 → lim ≤ (hs[j]).2.2.2.2) ∧ ∀ j (hj : j < hs.length), j < i → (hs[j]).1 = 0 → (br.getD j (0, 0)).2 ≤ 2 * n ∧ ∃ Z, bodyOk (hs.map h3) ev (hs[j]).2.2.1 (br.getD j (0, 0)).1 Z (br.getD j (0, 0)).2
theorem PI_step (hi : i < hs.length) (hok : ∀ j (hj : j < hs.length), hdK n hs[j] ∧ sgn (hs[j]).2.2.1) (hsk : ∀ j (hj : j < hs.length), i < j → (hs[i]).1 = 0 → (hs[j]).1 = 0 → skp t n (n - (hs[i]).2.2.2.2) (hs[i]).2.2.2.2 ≤ (hs[j]).2.2.2.2) (H : PI t n hs i md) : PI t n hs (i + 1) (bdStep t n (hs.map h3) md hs[i]) := by
  have hh : hsok (hs.map h3) := by
    intro q hq
    obtain ⟨d, hd1, rfl⟩ := List.mem_map.mp hq
    obtain ⟨j, hj, rfl⟩ := List.mem_iff_getElem.mp hd1
    exact (hok j hj).1.2.2.2.2.1
  have hn9 : ∀ q ∈ hs.map h3, sgn q.2.2 := by
    intro q hq
    obtain ⟨d, hd1, rfl⟩ := List.mem_map.mp hq
    obtain ⟨j, hj, rfl⟩ := List.mem_iff_getElem.mp hd1
    exact (hok j hj).2
  intro ev br e
  unfold bdStep at e
  split at e
  · cases e
  · next q =>
    split at e
    · next hd =>
      split at e
      · cases e
      · next p hp =>
        split at e
        · next he =>
          split at e
          · cases e
          · next z =>
            split at e
            · cases e
            · next y hf =>
              split at e
              · next hy =>
                simp only [Option.some.injEq, Prod.mk.injEq] at e
                obtain ⟨rfl, rfl⟩ := e
                obtain ⟨g1, ⟨lim, g2, g3, g4, g5⟩, g6⟩ := H z.1 z.2 rfl
                obtain ⟨a1, f⟩ := p
                obtain ⟨y0, e, m⟩ := y
                dsimp only at hf hy ⊢
                have K := hok i hi
                have sz1 := sz_E (t := t) (n := n) hh K.1.2.2.1 K.1.2.2.2.1 8 _ _ _ hp _ _ _ _ _ hf
                have sg1 := sgm_E (t := t) (n := n) hh K.1.2.2.1 hn9 K.1.2.2.2.1 8 _ _ _ hp _ _ _ _ _ hf
                have pg1 := pgr_E (t := t) (n := n) 8 _ _ _ hp
                have ns1 := ns_E (t := t) (n := n) 8 _ _ _ hp
                have sk1 := skp_ge (n - (hs[i]).2.2.2.2) (hs[i]).2.2.2.2 a1 (by omega) pg1.2 (by omega) ns1
                have l1 := g5 i hi (Nat.le_refl _) hd
                rw [hy] at sg1
                have r1 : rpos (z.1 ++ (e ++ [(14, 0, 0, y0)])) = rpos z.1 + rpos e + 1 := by rw [rpos_app, rpos_app, Nat.add_assoc]; rfl
                have r2 : cpos (z.1 ++ (e ++ [(14, 0, 0, y0)])) = cpos z.1 + cpos e + 1 := by rw [cpos_app, cpos_app, Nat.add_assoc]; rfl
                refine ⟨by simp [g1], ⟨a1, pg1.2, by omega, by omega, fun j hj hij e0 => Nat.le_trans sk1 (hsk j hj (by omega) hd e0)⟩, fun j hj hij e0 => ?_⟩
                by_cases hj2 : j = i
                · subst hj2
                  rw [gD_last g1.symm, hy]
                  exact ⟨by dsimp only; omega, _, bodyOk_new sg1⟩
                · rw [gD_app (by omega)]
                  obtain ⟨x1, Z, x2⟩ := g6 j hj (by omega) e0
                  exact ⟨x1, Z, bodyOk_app x2⟩
              · cases e
        · cases e
    · next hd =>
      split at e
      · cases e
      · next z =>
        simp only [Option.some.injEq, Prod.mk.injEq] at e
        obtain ⟨rfl, rfl⟩ := e
        obtain ⟨g1, ⟨lim, g2, g3, g4, g5⟩, g6⟩ := H z.1 z.2 rfl
        refine ⟨by simp [g1], ⟨lim, g2, by omega, g4, fun j hj hij e0 => g5 j hj (by omega) e0⟩, fun j hj hij e0 => ?_⟩
        have : j ≠ i := fun z => hd (by subst z; exact e0)
        rw [gD_app (by omega)]
        exact g6 j hj (by omega) e0
theorem PI_all (hok : ∀ j (hj : j < hs.length), hdK n hs[j] ∧ sgn (hs[j]).2.2.1) (hsk : ∀ i j (hj : j < hs.length) (hi : i < j), (hs[i]'(by omega)).1 = 0 → (hs[j]).1 = 0 → skp t n (n - (hs[i]'(by omega)).2.2.2.2) (hs[i]'(by omega)).2.2.2.2 ≤ (hs[j]).2.2.2.2) : ∀ m, m ≤ hs.length → PI t n hs m ((hs.take m).foldl (bdStep t n (hs.map h3)) (some (some ([], []))))
  | 0, _ => by
    intro ev br e
    simp only [List.take_zero, List.foldl_nil, Option.some.injEq, Prod.mk.injEq] at e
    obtain ⟨rfl, rfl⟩ := e
    exact ⟨rfl, ⟨0, Nat.zero_le _, by simp [rpos], by simp [cpos], fun _ _ _ _ => Nat.zero_le _⟩, fun j hj hj0 => absurd hj0 (Nat.not_lt_zero _)⟩
  | m + 1, h => by
    have := PI_step (by omega) hok (fun j hj hij e1 e2 => hsk m j hj hij e1 e2) (PI_all hok hsk m (by omega))
    rw [List.take_succ_eq_append_getElem (by omega), List.foldl_append]
    exact this
/-- the parameters' types stand one behind the other -/
theorem ta_hi {s k j : Nat} (h : s < 4 ^ k) (hj : k ≤ j) : ta s j = 0 := by
  unfold ta
  split
  · rfl
  · rw [Nat.div_eq_of_lt (Nat.lt_of_lt_of_le h (Nat.pow_le_pow_right (by decide) hj))]
theorem sgL_ct : ∀ (f k s : Nat) (p : Option Nat), 1 ≤ k → k + f ≤ 4 → s < 4 ^ k → (∀ j, 1 ≤ j → j < k → ta s j ≠ 0) → ∃ k', (sgL t n f k s p).1 < 4 ^ k' ∧ ∀ j, 1 ≤ j → j < k' → ta (sgL t n f k s p).1 j ≠ 0
  | 0, k, s, p, _, _, hs, h => ⟨k, hs, h⟩
  | f + 1, k, s, p, hk, h4, hs, h => by
    unfold sgL
    split
    · exact ⟨k, hs, h⟩
    · have hv := tyV_le (t := t) (n := n) (p := p)
      have hm : tyV t n p * 4 ^ k ≤ 2 * 4 ^ k := Nat.mul_le_mul_right _ (by omega)
      refine sgL_ct f (k + 1) _ _ (by omega) (by omega) (by rw [Nat.pow_succ]; omega) (fun j j1 j2 => ?_)
      unfold ta
      rw [if_neg (by omega)]
      by_cases z : j = k
      · subst z
        rw [Nat.add_mul_div_right _ _ (Nat.pow_pos (by decide)), Nat.div_eq_of_lt hs]
        omega
      · obtain ⟨q, rfl⟩ : ∃ q, k = j + 1 + q := ⟨k - j - 1, by omega⟩
        rw [Nat.pow_add, Nat.pow_succ, show tyV t n p * (4 ^ j * 4 * 4 ^ q) = 4 ^ j * (tyV t n p * 4 ^ q * 4) by rw [Nat.mul_assoc (4 ^ j), Nat.mul_left_comm, Nat.mul_assoc, Nat.mul_comm 4 (4 ^ q)], Nat.add_mul_div_left _ _ (Nat.pow_pos (by decide)), Nat.add_mul_mod_self_right]
        have := h j j1 (by omega)
        unfold ta at this
        rw [if_neg (by omega)] at this
        exact this
theorem sgF_n : sgn (sgF t n p).1 := by
  have h2 := sgL_4 (t := t) (n := n) 3 1 0 (tk t n 40 p) (by decide) rfl
  have h4 := tyV_le (t := t) (n := n) (p := tk t n 41 (sgL t n 3 1 0 (tk t n 40 p)).2)
  obtain ⟨k', c1, c2⟩ := sgL_ct (t := t) (n := n) 3 1 0 (tk t n 40 p) (by decide) (by decide) (by decide) (fun j j1 j2 => by omega)
  intro k hk h0
  unfold sgF at h0 ⊢
  dsimp only at h0 ⊢
  rw [ta_add h2 (by omega), if_neg (by omega)] at h0 ⊢
  have : k' ≤ k := Classical.byContradiction fun z => c2 k hk (by omega) h0
  exact ta_hi c1 (by omega)
theorem hdL_n : ∀ (f : Nat) (hs : List HD) (p : Option Nat), (∀ j (hj : j < hs.length), sgn (hs[j]).2.2.1) → ∀ j (hj : j < (hdL t n f hs p).1.length), sgn ((hdL t n f hs p).1[j]).2.2.1
  | 0, hs, p, h => h
  | f + 1, hs, p, h => by
    unfold hdL
    split
    · refine hdL_n f _ _ (fun j hj => ?_)
      by_cases c : j < hs.length
      · rw [List.getElem_append_left c]; exact h j c
      · have c' : j = hs.length := by simp at hj; omega
        subst c'
        rw [List.getElem_concat_length rfl]
        exact sgF_n
    · exact h
theorem tk_none {ch : Nat} : tk t n ch none = none := by unfold tk; split <;> rfl
theorem am_none {lo hi : Nat} : am t n lo hi none = none := by unfold am; split <;> rfl
theorem tyP_none : tyP t n none = none := by unfold tyP; split; rfl; exact tk_none
theorem sgL_none : ∀ (f k s : Nat), (sgL t n f k s none).2 = none
  | 0, k, s => rfl
  | f + 1, k, s => by
    unfold sgL
    split
    · rfl
    · rw [tyP_none]; exact sgL_none f _ _
theorem sgF_none : (sgF t n none).2 = none := by unfold sgF; rw [tk_none, sgL_none, tk_none, tyP_none]
theorem hdP4_none : hdP4 t n hs none = none := by
  unfold hdP4 hdP2
  split
  · split
    · unfold tkI; split <;> rw [Option.map_none, am_none, tk_none, am_none] <;> rfl
    · unfold tkI; simp [am_none]
  · rfl
theorem hdP7_P4 (h : hdP4 t n hs p = none) : hdP7 t n hs p = none := by
  unfold hdP7 hdP6
  rw [h, sgF_none, tk_none]
  split <;> rfl
theorem hdL_none : ∀ (f : Nat) (hs : List HD), (hdL t n f hs none).2 = none
  | 0, hs => rfl
  | f + 1, hs => by
    unfold hdL
    split
    · rw [tk_none, hdP7_P4 hdP4_none]; exact hdL_none f _
    · rfl
theorem hdL_dst : ∀ (f : Nat) (hs : List HD) (p : Option Nat), dst hs → (hdL t n f hs p).2 ≠ none → dst (hdL t n f hs p).1
  | 0, hs, p, h, _ => h
  | f + 1, hs, p, h, hn => by
    unfold hdL at hn ⊢
    split
    · next c =>
      rw [if_pos c] at hn
      have h7 : hdP7 t n hs (tk t n 59 p) ≠ none := fun z => hn (by rw [z]; exact hdL_none f _)
      have h4 : hdP4 t n hs (tk t n 59 p) ≠ none := fun z => h7 (hdP7_P4 z)
      have hl : lkp (hs.map h3) (hdO t n (tk t n 59 p)) (hdN t n (tk t n 59 p)) = none := Classical.byContradiction fun z => h4 (by unfold hdP4; rw [if_neg z])
      refine hdL_dst f _ _ (fun i j hj hi => ?_) hn
      by_cases c : j < hs.length
      · simp only [List.getElem_append_left c, List.getElem_append_left (show i < hs.length by omega)]
        exact h i j c hi
      · have c' : j = hs.length := by simp at hj; omega
        subst c'
        simp only [List.getElem_append_left hi, List.getElem_concat_length]
        rcases lkp_find (hs.map h3) (hdO t n (tk t n 59 p)) (hdN t n (tk t n 59 p)) with ⟨-, g2⟩ | ⟨k, hk, g1, g2, g3⟩
        · have := g2 i (by simpa using hi)
          rw [List.getElem_map] at this
          exact this
        · rw [hl] at g2; cases g2
    · exact h
theorem hdL_len : ∀ (f : Nat) (hs : List HD) (p : Option Nat), (hdL t n f hs p).1.length ≤ hs.length + f
  | 0, hs, p => Nat.le_refl _
  | f + 1, hs, p => by
    unfold hdL
    split
    · have := hdL_len f (hs ++ [hdD t n hs (tk t n 59 p)]) (hdP7 t n hs (tk t n 59 p))
      simp at this
      omega
    · dsimp only; omega
/-- what has been compiled well is well -/
theorem pu_of {ev : List Ev} {br : List (Nat × Nat)} (hn : n ≤ 120) (h : cmpR t n = some (some (ev, br))) : puOk (hdsL t n, ev, br) := by
  have hP : hdsP t n ≠ none := fun z => by unfold cmpR at h; rw [if_pos z] at h; cases h
  have hb : bdL t n ((hdsL t n).map h3) (hdsL t n) = some (some (ev, br)) := by unfold cmpR at h; rw [if_neg hP] at h; exact h
  have hL : (hdL t n 6 [] (am t n 65 70 (some 0))).2 ≠ none := fun z => hP (by unfold hdsP; rw [z]; split <;> rfl)
  have hok : ∀ j (hj : j < (hdsL t n).length), hdK n (hdsL t n)[j] ∧ sgn ((hdsL t n)[j]).2.2.1 := fun j hj => ⟨hdK_hds (t := t) (n := n) 6 [] (am t n 65 70 (some 0)) (fun j hj => absurd hj (Nat.not_lt_zero _)) j hj, hdL_n (t := t) (n := n) 6 [] (am t n 65 70 (some 0)) (fun j hj => absurd hj (Nat.not_lt_zero _)) j hj⟩
  have h6 : (hdsL t n).length ≤ 6 := by have := hdL_len (t := t) (n := n) 6 [] (am t n 65 70 (some 0)); rw [List.length_nil, Nat.zero_add] at this; exact this
  have hp := PI_all (t := t) hok (fun i j hj hi e1 e2 => hds_sko.1 i j hj hi e1 e2) (hdsL t n).length (Nat.le_refl _)
  rw [List.take_length] at hp
  obtain ⟨g1, ⟨lim, g2, g3, g4, -⟩, g5⟩ := hp ev br hb
  refine ⟨h6, g1, hdL_dst 6 [] _ (fun i j hj => absurd hj (Nat.not_lt_zero _)) hL, fun i hi => ⟨?_, (hok i hi).2⟩, by dsimp only; omega, by dsimp only; omega, fun i hi e0 => ?_⟩
  · obtain ⟨a, b, c, d, e, f, g⟩ := (hok i hi).1
    exact ⟨a, b, c, d, e, f, Nat.le_trans g hn⟩
  · obtain ⟨x1, x2⟩ := g5 i hi hi e0
    exact ⟨by dsimp only; omega, x2⟩
end PUS
