/-! the reference's machine against the events -/
def wds (a0 : List Int32) : List Fm → List Int32
  | [] => a0
  | f :: fs => wds a0 fs ++ f.2.2.2.2
def wSt (h : jH) (l : List Int32) : Prop := h.1 70 38 = nI l.length ∧ ∀ j, j < l.length → h.1 92 j = l.getD j 0
def fRs (PG : Nat → PU) (a0 : List Int32) (h : jH) : List Fm → Prop
  | [] => True
  | f :: fs => h.1 93 fs.length = nI f.1 ∧ h.1 94 fs.length = nI (6 * f.1 + f.2.1) ∧ h.1 95 fs.length = nI (Rc (PG f.1).2.1 f.2.2.1) ∧ h.1 96 fs.length = nI ((wds a0 fs).length - f.2.2.2.1.length) ∧ h.1 97 fs.length = nI (ht a0.length fs + 2) ∧ f.2.2.2.1.length ≤ (wds a0 fs).length ∧ (∀ j, j < f.2.2.2.1.length → f.2.2.2.1.getD j 0 = (wds a0 fs).getD ((wds a0 fs).length - f.2.2.2.1.length + j) 0) ∧ fRs PG a0 h fs
def gR (PG : Nat → PU) (a0 : List Int32) (h : jH) (s : ES) : Prop := h.1 70 46 = nI s.1 ∧ h.1 70 47 = nI s.2.1 ∧ h.1 70 48 = nI s.2.2.1 ∧ h.1 70 40 = nI s.2.2.2.1.length ∧ fRs PG a0 h s.2.2.2.1 ∧ wSt h (wds a0 s.2.2.2.1 ++ s.2.2.2.2)
def gF (h h' : jH) : Prop := h'.2 = h.2 ∧ ∀ k j, ¬ ((k = 70 ∧ (j = 38 ∨ j = 40 ∨ j = 46 ∨ j = 47 ∨ j = 48)) ∨ (92 ≤ k ∧ k ≤ 97)) → h'.1 k j = h.1 k j
section XX
variable {h h' g : jH} {n m i p p' F fl tk mx : Nat} {PG : Nat → PU} {a0 l A T T' V : List Int32} {fs : List Fm} {v : Int32}
theorem gF_rf : gF h h := ⟨rfl, fun _ _ _ => rfl⟩
theorem gF_tr {a b c : jH} (h1 : gF a b) (h2 : gF b c) : gF a c := ⟨h2.1.trans h1.1, fun k j z => (h2.2 k j z).trans (h1.2 k j z)⟩
theorem gF_up (G : gF h h') {k j : Nat} {v : Int32} (hk : (k = 70 ∧ (j = 38 ∨ j = 40 ∨ j = 46 ∨ j = 47 ∨ j = 48)) ∨ (92 ≤ k ∧ k ≤ 97)) : gF h (up2 h'.1 k j v, h'.2) := ⟨G.1, fun k' j' z => by dsimp only; rw [up2_n (by rintro ⟨rfl, rfl⟩; exact z hk)]; exact G.2 k' j' z⟩
theorem gF_ps (G : gF h h') : gF h (psH h' n v) := ⟨G.1, fun k j z => by rw [psH_o (by omega) (by omega)]; exact G.2 k j z⟩
theorem gF_pp (G : gF h h') : gF h (ppH h' n) := ⟨G.1, fun k j z => by rw [ppH_o (by omega)]; exact G.2 k j z⟩
theorem wSt_ps (W : wSt h l) (hn : n = l.length) : wSt (psH h n v) (l ++ [v]) := by
  subst hn
  refine ⟨by rw [psH_38, List.length_append]; rfl, fun j hj => ?_⟩
  rw [List.length_append] at hj
  simp at hj
  by_cases c : j < l.length
  · rw [psH_o (by omega) (by omega), gD_l c]; exact W.2 j c
  · have : j = l.length := by omega
    subst this
    rw [psH_92, gD_r (Nat.le_refl _)]; simp
theorem wSt_pp {l' : List Int32} (W : wSt h (l ++ l')) (hn : n = l.length) : wSt (ppH h n) l := by
  subst hn
  exact ⟨ppH_38, fun j hj => by rw [ppH_o (by omega), W.2 j (by rw [List.length_append]; omega), gD_l hj]⟩
theorem wSt_at {l' : List Int32} (W : wSt h (l ++ v :: l')) (hn : n = l.length) : h.1 92 n = v := by
  subst hn
  rw [W.2 _ (by simp), gD_r (Nat.le_refl _)]; simp
theorem wSt_o (W : wSt h l) (h1 : h'.1 70 38 = h.1 70 38) (h2 : ∀ j, j < l.length → h'.1 92 j = h.1 92 j) : wSt h' l := ⟨by rw [h1]; exact W.1, fun j hj => by rw [h2 j hj]; exact W.2 j hj⟩
theorem fRs_low : ∀ (fs : List Fm), (∀ k j, 93 ≤ k → k ≤ 97 → j < fs.length → h'.1 k j = h.1 k j) → fRs PG a0 h fs → fRs PG a0 h' fs
  | [], _, _ => trivial
  | f :: fs, hk, H => by
    obtain ⟨a1, a2, a3, a4, a5, a6, a7, a8⟩ := H
    have q : ∀ k, 93 ≤ k → k ≤ 97 → h'.1 k fs.length = h.1 k fs.length := fun k z1 z2 => hk k _ z1 z2 (by simp)
    exact ⟨by rw [q _ (by omega) (by omega)]; exact a1, by rw [q _ (by omega) (by omega)]; exact a2, by rw [q _ (by omega) (by omega)]; exact a3, by rw [q _ (by omega) (by omega)]; exact a4, by rw [q _ (by omega) (by omega)]; exact a5, a6, a7, fRs_low fs (fun k j z1 z2 z3 => hk k j z1 z2 (by simp; omega)) a8⟩
theorem fRs_top (H : fRs PG a0 h ((m, i, p, A, T) :: fs)) (h95 : h'.1 95 fs.length = nI (Rc (PG m).2.1 p')) (hk : ∀ k j, 93 ≤ k → k ≤ 97 → j ≤ fs.length → ¬ (k = 95 ∧ j = fs.length) → h'.1 k j = h.1 k j) : fRs PG a0 h' ((m, i, p', A, T') :: fs) := by
  obtain ⟨a1, a2, a3, a4, a5, a6, a7, a8⟩ := H
  exact ⟨by rw [hk _ _ (by omega) (by omega) (by omega) (by omega)]; exact a1, by rw [hk _ _ (by omega) (by omega) (by omega) (by omega)]; exact a2, h95, by rw [hk _ _ (by omega) (by omega) (by omega) (by omega)]; exact a4, by rw [hk _ _ (by omega) (by omega) (by omega) (by omega)]; exact a5, a6, a7, fRs_low fs (fun k j z1 z2 z3 => hk k j z1 z2 (by omega) (by omega)) a8⟩
/-- one more event of the running frame, the rest as it was -/
theorem gR_top (H : gR PG a0 h (fl, tk, mx, (m, i, p, A, T) :: fs, V)) {V' : List Int32} (h95 : h'.1 95 fs.length = nI (Rc (PG m).2.1 p')) (hk : ∀ k j, 93 ≤ k → k ≤ 97 → j ≤ fs.length → ¬ (k = 95 ∧ j = fs.length) → h'.1 k j = h.1 k j) (hf : ∀ j, (j = 40 ∨ j = 46 ∨ j = 47 ∨ j = 48) → h'.1 70 j = h.1 70 j) (W : wSt h' (wds a0 fs ++ T' ++ V')) : gR PG a0 h' (fl, tk, mx, (m, i, p', A, T') :: fs, V') := by
  obtain ⟨a1, a2, a3, a4, a5, a6⟩ := H
  exact ⟨by rw [hf _ (by omega)]; exact a1, by rw [hf _ (by omega)]; exact a2, by rw [hf _ (by omega)]; exact a3, by rw [hf _ (by omega)]; exact a4, fRs_top a5 h95 hk, W⟩
theorem wds_le : ∀ (fs : List Fm), (wds a0 fs).length + 2 * fs.length ≤ ht a0.length fs
  | [] => by simp [wds, ht]
  | f :: fs => by
    have := wds_le fs
    simp only [wds, ht, List.length_append, List.length_cons]
    omega
theorem last1 {T : List Int32} (h : 1 ≤ T.length) : ∃ x, T = T.take (T.length - 1) ++ [x] ∧ T.getD (T.length - 1) 0 = x := by
  refine ⟨T[T.length - 1], ?_, ?_⟩
  · conv => lhs; rw [← List.take_append_drop (T.length - 1) T]
    congr 1
    rw [List.drop_eq_getElem_cons (by omega)]
    rw [List.drop_eq_nil_of_le (by omega)]
  · rw [List.getD_eq_getElem?_getD, List.getElem?_eq_getElem (by omega)]; rfl
theorem len1 (h : V.length = 1) : ∃ x, V = [x] := by
  rcases V with _ | ⟨x, _ | ⟨y, z⟩⟩ <;> simp at h ⊢
theorem len2 (h : V.length = 2) : ∃ x y, V = [x, y] := by
  rcases V with _ | ⟨x, _ | ⟨y, _ | ⟨u, z⟩⟩⟩ <;> simp at h ⊢
end XX
