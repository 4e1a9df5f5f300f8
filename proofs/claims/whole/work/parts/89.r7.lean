/-! link: the items in a row of 36 -/
def slo (PG : Nat → PU) (pr : Nat → Bool) (m i : Nat) : Option HD := if pr m = true ∧ i < (PG m).1.length then some ((PG m).1.getD i (0, 0, 0, 0, 0)) else none
def isD (o : Option HD) : Nat := match o with
  | none => 0
  | some d => if d.1 = 0 then 1 else 0
def isU (PG : Nat → PU) (pr : Nat → Bool) (o : Option HD) : Bool := match o with
  | none => false
  | some d => decide (d.1 ≠ 0) && !fitP PG pr d
def dfX (PG : Nat → PU) (pr : Nat → Bool) : Nat → Nat
  | 0 => 0
  | x + 1 => dfX PG pr x + isD (slo PG pr (x / 6) (x % 6))
def oo {α : Type} (a b : Option α) : Option α := match a with
  | some x => some x
  | none => b
def unX (PG : Nat → PU) (pr : Nat → Bool) : Nat → Option (Nat × Nat)
  | 0 => none
  | x + 1 => oo (unX PG pr x) (if isU PG pr (slo PG pr (x / 6) (x % 6)) then some (x / 6, x % 6) else none)
section R7
variable {l : Launch} {w : jW} {h h' : jH} {sz : Nat} {G : GS} {PG : Nat → PU} {pr : Nat → Bool} {hs : List HD}
theorem oo_as {α : Type} (a b c : Option α) : oo (oo a b) c = oo a (oo b c) := by cases a <;> rfl
theorem oo_n {α : Type} (a : Option α) : oo a none = a := by cases a <;> rfl
theorem dfX_s (x : Nat) : dfX PG pr (x + 1) = dfX PG pr x + isD (slo PG pr (x / 6) (x % 6)) := rfl
theorem unX_s (x : Nat) : unX PG pr (x + 1) = oo (unX PG pr x) (if isU PG pr (slo PG pr (x / 6) (x % 6)) then some (x / 6, x % 6) else none) := rfl
theorem cntD_s (k : Nat) : cntD PG pr (k + 1) = cntD PG pr k + (if pr k then nDf (PG k).1 (PG k).1.length else 0) := rfl
theorem cntM_s (k : Nat) : cntM pr (k + 1) = cntM pr k + (if pr k then 1 else 0) := rfl
theorem nDf_s (k : Nat) : nDf hs (k + 1) = nDf hs k + (if (hs.getD k (0, 0, 0, 0, 0)).1 = 0 then 1 else 0) := rfl
theorem unfM_s (f m : Nat) : unfM PG pr (f + 1) m = if pr m then (match unfI PG pr (PG m).1 0 with
    | some i => some (m, i)
    | none => unfM PG pr f (m + 1)) else unfM PG pr f (m + 1) := rfl
theorem slo_t {m i : Nat} (e : pr m = true) (c : i < (PG m).1.length) : slo PG pr m i = some ((PG m).1.getD i (0, 0, 0, 0, 0)) := if_pos ⟨e, c⟩
theorem slo_f {m i : Nat} (c : ¬ (pr m = true ∧ i < (PG m).1.length)) : slo PG pr m i = none := if_neg c
theorem dfX_row {m : Nat} (hl : pr m = true → (PG m).1.length ≤ 6) : ∀ i, i ≤ 6 → dfX PG pr (6 * m + i) = dfX PG pr (6 * m) + (if pr m then nDf (PG m).1 (min i (PG m).1.length) else 0)
  | 0, _ => by simp [nDf]
  | i + 1, hi => by
    rw [show 6 * m + (i + 1) = (6 * m + i) + 1 by omega, dfX_s, dfX_row hl i (by omega), show (6 * m + i) / 6 = m by omega, show (6 * m + i) % 6 = i by omega]
    cases e : pr m with
    | false =>
      rw [slo_f (fun z => by rw [e] at z; cases z.1)]
      rfl
    | true =>
      by_cases c : i < (PG m).1.length
      · rw [slo_t e c, show min (i + 1) (PG m).1.length = i + 1 by omega, show min i (PG m).1.length = i by omega, nDf_s]
        simp only [if_true, isD]
        omega
      · rw [slo_f (fun z => c z.2), show min (i + 1) (PG m).1.length = (PG m).1.length by omega, show min i (PG m).1.length = (PG m).1.length by omega]
        rfl
theorem dfX_all (hl : ∀ m, m < 6 → pr m = true → (PG m).1.length ≤ 6) : ∀ m, m ≤ 6 → dfX PG pr (6 * m) = cntD PG pr m
  | 0, _ => rfl
  | m + 1, hm => by
    rw [show 6 * (m + 1) = 6 * m + 6 by omega, dfX_row (hl m (by omega)) 6 (by omega), dfX_all hl m (by omega), cntD_s]
    cases e : pr m with
    | false => rfl
    | true => rw [show min 6 (PG m).1.length = (PG m).1.length by have := hl m (by omega) e; omega]
theorem unfI_app : ∀ (l : List HD) (d : HD) (k : Nat), unfI PG pr (l ++ [d]) k = oo (unfI PG pr l k) (if isU PG pr (some d) then some (k + l.length) else none)
  | [], d, k => by
    simp only [List.nil_append, unfI, oo, isU, List.length_nil, Nat.add_zero, Bool.and_eq_true, decide_eq_true_eq, Bool.not_eq_true']
  | x :: l, d, k => by
    simp only [List.cons_append, unfI, List.length_cons]
    split
    · rfl
    · rw [unfI_app l d (k + 1), show k + 1 + l.length = k + (l.length + 1) by omega]
theorem unX_row {m : Nat} (hl : pr m = true → (PG m).1.length ≤ 6) : ∀ i, i ≤ 6 → unX PG pr (6 * m + i) = oo (unX PG pr (6 * m)) (if pr m then (unfI PG pr ((PG m).1.take i) 0).map (fun j => (m, j)) else none)
  | 0, _ => by simp [unfI, oo_n]
  | i + 1, hi => by
    rw [show 6 * m + (i + 1) = (6 * m + i) + 1 by omega, unX_s, unX_row hl i (by omega), show (6 * m + i) / 6 = m by omega, show (6 * m + i) % 6 = i by omega]
    cases e : pr m with
    | false =>
      rw [slo_f (fun z => by rw [e] at z; cases z.1)]
      simp [isU, oo_n]
    | true =>
      by_cases c : i < (PG m).1.length
      · rw [slo_t e c, gtD c, oo_as]
        congr 1
        simp only [if_true]
        rw [List.take_succ_eq_append_getElem c, unfI_app, List.length_take, show min i (PG m).1.length = i by omega, Nat.zero_add]
        cases unfI PG pr ((PG m).1.take i) 0 with
        | some j => rfl
        | none => cases isU PG pr (some (PG m).1[i]) <;> rfl
      · rw [slo_f (fun z => c z.2), List.take_of_length_le (by omega), List.take_of_length_le (by omega)]
        simp [isU, oo_n]
theorem unX_all (hl : ∀ m, m < 6 → pr m = true → (PG m).1.length ≤ 6) : ∀ f m, m + f = 6 → unX PG pr 36 = oo (unX PG pr (6 * m)) (unfM PG pr f m)
  | 0, m, hm => by rw [show m = 6 by omega]; exact (oo_n _).symm
  | f + 1, m, hm => by
    rw [unX_all hl f (m + 1) (by omega), show 6 * (m + 1) = 6 * m + 6 by omega, unX_row (hl m (by omega)) 6 (by omega), oo_as, unfM_s]
    congr 1
    cases e : pr m with
    | false => rfl
    | true =>
      rw [List.take_of_length_le (hl m (by omega) e)]
      simp only [if_true]
      cases unfI PG pr (PG m).1 0 <;> rfl
theorem uO_m1 {q : Option (Nat × Nat)} (hq : ∀ x, q = some x → x.1 < 6) : (uO q).1 = -1 ↔ q = none := by
  cases q with
  | none => simp [uO]
  | some x =>
    have := hq x rfl
    constructor
    · intro z; exact absurd z (nI_m1 (by omega))
    · intro z; cases z
theorem unX_lt : ∀ (x : Nat) (q : Nat × Nat), x ≤ 36 → unX PG pr x = some q → q.1 < 6
  | 0, q, _, h => by cases h
  | x + 1, q, hx, h => by
    rw [unX_s] at h
    cases e : unX PG pr x with
    | some y => rw [e] at h; simp [oo] at h; subst h; exact unX_lt x y (by omega) e
    | none =>
      rw [e] at h
      simp only [oo] at h
      split at h
      · simp at h; rw [← h]; dsimp only; omega
      · cases h
theorem r_Link (hw : jok w) (H : RI sz G h) : jM l w yX5_link cX5_link 5 (some .int) 2 [.ref (jad w 70)] h (fun r h' => r = some (.int (nI (gLink G).2.1)) ∧ h'.1 70 0 = nI (gLink G).1 ∧ RI sz (gLink G).2.2 h' ∧ rF h h') := by
  refine jM_of (by decide) hw (Nat.le_of_ble_eq_true rfl) ?_
  intro X C hl hR hnL hrt hE
  subst hl
  have C : jC X w cX5_link RX5 := C
  obtain ⟨hr, hT, hM, hO⟩ := id H
  obtain ⟨G1, ⟨PG, pr⟩, ⟨lk, fl, ui⟩, G4⟩ := G
  dsimp only at hM hT
  have hlen : ∀ m, m < 6 → pr m = true → (PG m).1.length ≤ 6 := fun m hm hp => ((hM m hm).2 hp).2.1
  have dv : ∀ x, x < 36 → nI x / 6 = nI (x / 6) := by decide
  have rv : ∀ x, x < 36 → nI x - nI x / 6 * 6 = nI (x % 6) := by decide
  have cl : ∀ m, cntM pr m ≤ m := by
    intro m
    induction m with
    | zero => exact Nat.le_refl _
    | succ m ih => rw [cntM_s]; split <;> omega
  have tail : ¬ cntM pr 6 = 0 → ∀ (g : jH) (c : Int32), g.2 = h.2 → (∀ k j, ¬ (k = 70 ∧ (j = 36 ∨ j = 37)) → g.1 k j = h.1 k j) → g.1 70 36 = (uO (unX PG pr 36)).1 → g.1 70 37 = (uO (unX PG pr 36)).2 → J X w g 197 [(0, .ref (jad w 70)), (1, .int c), (2, .int (nI (dfX PG pr 36))), (3, .int (nI 36))] [] := by
    intro hc0 g c e2 hF g6 g7
    have eU : unX PG pr 36 = unfM PG pr 6 0 := by rw [unX_all hlen 6 0 rfl]; rfl
    have eD : dfX PG pr 36 = cntD PG pr 6 := dfX_all hlen 6 (by omega)
    have hu := uO_m1 (q := unX PG pr 36) (fun x hx => unX_lt 36 x (by omega) hx)
    have hrg : g.2.1 70 = rMap := by rw [e2]; exact hr
    have key : ∀ (b : Bool) (cd : Int32), RI sz (G1, (PG, pr), (b, fl, uO (unX PG pr 36)), G4) (up2 (up2 g.1 70 34 (bI b)) 70 0 cd, g.2) := by
      intro b cd
      refine ⟨hrg, rtx_keep (h := h) ?_ ?_ hT, rM_keep (h := h) ?_ hM, ?_⟩
      · dsimp only; rw [up2_n (by omega), up2_n (by omega)]; exact hF _ _ (by omega)
      · intro j; dsimp only; rw [up2_n (by omega), up2_n (by omega)]; exact hF _ _ (by omega)
      · intro k j z; dsimp only; rw [up2_n (by omega), up2_n (by omega)]; exact hF _ _ (by omega)
      · obtain ⟨a1, a2, a3, a4, a5, a6, a7, a8, a9, aA, aB, b6, aC⟩ := hO
        have hn : ∀ j, j ≠ 0 → j ≠ 34 → (up2 (up2 g.1 70 34 (bI b)) 70 0 cd) 70 j = g.1 70 j := fun j z1 z2 => by rw [up2_n (by omega), up2_n (by omega)]
        refine ⟨?_, a2, a3, ?_, ?_, ?_, ?_, ?_, ?_, ?_, ?_, b6, ?_⟩
        · dsimp only; rw [hn 1 (by omega) (by omega), hF _ _ (by omega)]; exact a1
        · dsimp only; rw [up2_n (by omega), up2_s]
        · dsimp only; rw [hn 35 (by omega) (by omega), hF _ _ (by omega)]; exact a5
        · dsimp only; rw [hn 36 (by omega) (by omega)]; exact g6
        · dsimp only; rw [hn 37 (by omega) (by omega)]; exact g7
        · dsimp only; rw [hn 49 (by omega) (by omega), hF _ _ (by omega)]; exact a8
        · dsimp only; rw [hn 50 (by omega) (by omega), hF _ _ (by omega)]; exact a9
        · dsimp only; rw [hn 48 (by omega) (by omega), hF _ _ (by omega)]; exact aA
        · dsimp only; rw [hn 47 (by omega) (by omega), hF _ _ (by omega)]; exact aB
        · dsimp only; rw [hn 6 (by omega) (by omega), hF _ _ (by omega)]; exact aC
    have keyF : ∀ (b : Bool) (cd : Int32), rF h (up2 (up2 g.1 70 34 (bI b)) 70 0 cd, g.2) := fun b cd => ⟨e2, fun k j z => by dsimp only; rw [up2_n (by omega), up2_n (by omega)]; exact hF _ _ (by omega)⟩
    cases eq : unX PG pr 36 with
    | none =>
      have eG : gLink (G1, (PG, pr), (lk, fl, ui), G4) = (0, cntD PG pr 6, (G1, (PG, pr), (true, fl, uO none), G4)) := by
        unfold gLink; dsimp only; rw [if_neg hc0, ← eU, eq]
      rw [eq] at g6 key
      refine k_aload_n C dX5_link_197 rfl ?_
      refine k_aload_n C dX5_link_198 rfl ?_
      refine j_geti C fX5_75 rfl (by first | decide | omega) (by first | assumption | rfl) dX5_link_199 ?_
      refine j_iconst (v := -1) C dX5_link_202 (by decide) ?_
      refine j_icmp_ne C 210 dX5_link_203 (by decide) (fun c203 => ?_) (fun c203 => ?_)
      · exact absurd g6 c203 -- stop
      · refine j_iconst (v := 1) C dX5_link_206 (by decide) ?_
        refine j_goto C 211 dX5_link_207 (by decide) ?_
        refine j_putz C fX5_253 rfl rfl (by first | decide | assumption) (by first | decide | omega) (by first | assumption | rfl) dX5_link_211 ?_
        refine k_aload_n C dX5_link_214 rfl ?_
        refine j_geti C fX5_253 rfl (by first | decide | omega) (by first | assumption | rfl) dX5_link_215 ?_
        refine j_if_ne C 227 dX5_link_218 (by decide) (fun c218 => ?_) (fun c218 => ?_)
        · refine k_aload_n C dX5_link_227 rfl ?_
          refine j_iconst (v := 0) C dX5_link_228 (by decide) ?_
          refine j_puti C fX5_103 rfl rfl (by first | decide | omega) (by first | assumption | rfl) dX5_link_229 ?_
          refine k_iload_n C dX5_link_232 rfl ?_
          exact j_iret C hrt hE dX5_link_233 (⟨by rw [eG, eD], by rw [eG]; simp [up2]; rfl, by rw [eG]; exact ⟨key true 0, keyF true 0⟩⟩)
        · exact absurd (show up2 g.1 70 34 1 70 34 = 0 from c218) (by simp [up2]) -- stop
    | some q =>
      have eG : gLink (G1, (PG, pr), (lk, fl, ui), G4) = (2, 0, (G1, (PG, pr), (false, fl, uO (some q)), G4)) := by
        unfold gLink; dsimp only; rw [if_neg hc0, ← eU, eq]
      have hq6 := unX_lt 36 q (by omega) eq
      rw [eq] at g6 key
      refine k_aload_n C dX5_link_197 rfl ?_
      refine k_aload_n C dX5_link_198 rfl ?_
      refine j_geti C fX5_75 rfl (by first | decide | omega) (by first | assumption | rfl) dX5_link_199 ?_
      refine j_iconst (v := -1) C dX5_link_202 (by decide) ?_
      refine j_icmp_ne C 210 dX5_link_203 (by decide) (fun c203 => ?_) (fun c203 => ?_)
      · refine j_iconst (v := 0) C dX5_link_210 (by decide) ?_
        refine j_putz C fX5_253 rfl rfl (by first | decide | assumption) (by first | decide | omega) (by first | assumption | rfl) dX5_link_211 ?_
        refine k_aload_n C dX5_link_214 rfl ?_
        refine j_geti C fX5_253 rfl (by first | decide | omega) (by first | assumption | rfl) dX5_link_215 ?_
        refine j_if_ne C 227 dX5_link_218 (by decide) (fun c218 => ?_) (fun c218 => ?_)
        · exact absurd (show up2 g.1 70 34 0 70 34 = 0 by simp [up2]) c218 -- stop
        · refine k_aload_n C dX5_link_221 rfl ?_
          refine j_iconst (v := 2) C dX5_link_222 (by decide) ?_
          refine k_callV (k := 70) (ci := 5) (As := [.int 2]) C mX5_246 (r_refuse hw 2) jCl5.1 (by first | decide | omega) (by first | assumption | rfl) rfl rfl (Nat.le_of_ble_eq_true rfl) (jroom hR (by first | decide | omega) (by decide)) dX5_link_223 ?_
          rintro v9 h9 ⟨rfl, rfl⟩
          exact j_iret C hrt hE dX5_link_226 (⟨by rw [eG]; rfl, by rw [eG]; simp [up2]; rfl, by rw [eG]; exact ⟨key false 2, keyF false 2⟩⟩)
      · exact absurd (g6.symm.trans c203) (nI_m1 (by omega)) -- stop
  have loop : ¬ cntM pr 6 = 0 → ∀ (f x : Nat), x + f = 36 → ∀ (g : jH) (c : Int32), g.2 = h.2 → (∀ k j, ¬ (k = 70 ∧ (j = 36 ∨ j = 37)) → g.1 k j = h.1 k j) → g.1 70 36 = (uO (unX PG pr x)).1 → g.1 70 37 = (uO (unX PG pr x)).2 → J X w g 57 [(0, .ref (jad w 70)), (1, .int c), (2, .int (nI (dfX PG pr x))), (3, .int (nI x))] [] := by
    intro hc0 f
    induction f with
    | zero =>
      intro x hx g c e2 hF g6 g7
      have hx36 : x = 36 := by omega
      subst hx36
      refine k_iload_n C dX5_link_57 rfl ?_
      refine j_bipush (v := 36) C dX5_link_58 (by decide) ?_
      refine j_icmp_ge C 197 dX5_link_60 (by decide) (fun c60 => ?_) (fun c60 => ?_)
      · exact tail hc0 g c e2 hF g6 g7
      · exact absurd (nI_le (a := 36) (b := 36) (by omega) (by omega)) c60 -- stop
    | succ f ih =>
      intro x hx g c e2 hF g6 g7
      have hrg : g.2.1 70 = rMap := by rw [e2]; exact hr
      have hMg : rM PG pr g := rM_keep (fun k j z => hF k j (by omega)) hM
      have hx36 : x < 36 := by omega
      have ex : x = 6 * (x / 6) + x % 6 := by omega
      have hm6 : x / 6 < 6 := by omega
      have hi6 : x % 6 < 6 := by omega
      have hd := dv x hx36
      have hm := rv x hx36
      have hdl : dfX PG pr x ≤ x := by
        have : ∀ x, dfX PG pr x ≤ x := by
          intro x
          induction x with
          | zero => exact Nat.le_refl _
          | succ x ih => rw [dfX_s]; unfold isD; split; omega; split <;> omega
        exact this x
      have nxt : ∀ (g' : jH) (lv : List (Nat × Value)), g'.2 = h.2 → (∀ k j, ¬ (k = 70 ∧ (j = 36 ∨ j = 37)) → g'.1 k j = h.1 k j) → g'.1 70 36 = (uO (unX PG pr (x + 1))).1 → g'.1 70 37 = (uO (unX PG pr (x + 1))).2 → J X w g' 191 ([(0, .ref (jad w 70)), (1, .int c), (2, .int (nI (dfX PG pr (x + 1)))), (3, .int (nI x))] ++ lv) [] := by
        intro g' lv a1 a2 a3 a4
        refine j_mono (lv' := [(0, .ref (jad w 70)), (1, .int c), (2, .int (nI (dfX PG pr (x + 1)))), (3, .int (nI x))]) (fun q hq => List.mem_append_left lv hq) ?_
        refine k_iinc C dX5_link_191 rfl rfl (by rw [hnL]; decide) ?_
        refine j_goto C 57 dX5_link_194 (by decide) ?_
        rw [show nI x + Int32.ofInt 1 = nI (x + 1) from nI_1 x]
        exact ih (x + 1) (by omega) g' c a1 a2 a3 a4
      have skip : slo PG pr (x / 6) (x % 6) = none → J X w g 191 [(0, .ref (jad w 70)), (1, .int c), (2, .int (nI (dfX PG pr x))), (3, .int (nI x))] [] := by
        intro es
        have e3 : unX PG pr (x + 1) = unX PG pr x := by rw [unX_s, es]; simp [isU, oo_n]
        have e4 : dfX PG pr (x + 1) = dfX PG pr x := by rw [dfX_s, es]; simp [isD]
        have := nxt g [] e2 hF (by rw [e3]; exact g6) (by rw [e3]; exact g7)
        rw [e4] at this
        exact this
      have hp := (hMg (x / 6) hm6).1
      cases hpm : pr (x / 6) with
      | false =>
        rw [hpm] at hp
        refine k_iload_n C dX5_link_57 rfl ?_
        refine j_bipush (v := 36) C dX5_link_58 (by decide) ?_
        refine j_icmp_ge C 197 dX5_link_60 (by decide) (fun c60 => ?_) (fun c60 => ?_)
        · exact absurd c60 (nI_ge (a := x) (b := 36) (by omega) (by omega)) -- stop
        · refine k_aload_n C dX5_link_63 rfl ?_
          refine j_getr C fX5_13 rfl (by first | decide | omega) (by first | assumption | rfl) (congrFun hrg _) dX5_link_64 ?_
          refine k_iload_n C dX5_link_67 rfl ?_
          refine j_bipush (v := 6) C dX5_link_68 (by decide) ?_
          refine j_idiv C dX5_link_70 (by decide) ?_
          refine j_zald C (by first | decide | omega) (by first | assumption | rfl) (hd) ((by omega)) (by decide) dX5_link_71 ?_
          refine j_if_eq C 191 dX5_link_72 (by decide) (fun c72 => ?_) (fun c72 => ?_)
          · exact skip (by unfold slo; rw [if_neg (fun z => by rw [hpm] at z; cases z.1)])
          · exact absurd hp c72 -- stop
      | true =>
        rw [hpm] at hp
        obtain ⟨⟨⟨⟨hmany, -, rN⟩, rI⟩, -, -⟩, U⟩ := (hMg (x / 6) hm6).2 hpm
        have hl6 := U.1
        by_cases hil : x % 6 < (PG (x / 6)).1.length
        · have es : slo PG pr (x / 6) (x % 6) = some (PG (x / 6)).1[x % 6] := by rw [slo_t hpm hil, gtD hil]
          obtain ⟨q1, q2, q3, q4⟩ := rN (x % 6) hil
          rw [← ex] at q1 q2
          have e3 : unX PG pr (x + 1) = oo (unX PG pr x) (if isU PG pr (some (PG (x / 6)).1[x % 6]) then some (x / 6, x % 6) else none) := by rw [unX_s, es]
          have e4 : dfX PG pr (x + 1) = dfX PG pr x + isD (some (PG (x / 6)).1[x % 6]) := by rw [dfX_s, es]
          have start : (∀ b : Bool, b = isU PG pr (some (PG (x / 6)).1[x % 6]) → J X w g 115 [(0, .ref (jad w 70)), (1, .int c), (2, .int (nI (dfX PG pr x))), (3, .int (nI x))] [.int (bI b)]) → J X w g 57 [(0, .ref (jad w 70)), (1, .int c), (2, .int (nI (dfX PG pr x))), (3, .int (nI x))] [] := by
            intro kk
            have kf : isU PG pr (some (PG (x / 6)).1[x % 6]) = false → J X w g 115 [(0, .ref (jad w 70)), (1, .int c), (2, .int (nI (dfX PG pr x))), (3, .int (nI x))] [.int 0] := fun z => kk false z.symm
            have kt : isU PG pr (some (PG (x / 6)).1[x % 6]) = true → J X w g 115 [(0, .ref (jad w 70)), (1, .int c), (2, .int (nI (dfX PG pr x))), (3, .int (nI x))] [.int 1] := fun z => kk true z.symm
            by_cases h0 : ((PG (x / 6)).1[x % 6]).1 = 0
            · skip
              refine k_iload_n C dX5_link_57 rfl ?_
              refine j_bipush (v := 36) C dX5_link_58 (by decide) ?_
              refine j_icmp_ge C 197 dX5_link_60 (by decide) (fun c60 => ?_) (fun c60 => ?_)
              · exact absurd c60 (nI_ge (a := x) (b := 36) (by omega) (by omega)) -- stop
              · refine k_aload_n C dX5_link_63 rfl ?_
                refine j_getr C fX5_13 rfl (by first | decide | omega) (by first | assumption | rfl) (congrFun hrg _) dX5_link_64 ?_
                refine k_iload_n C dX5_link_67 rfl ?_
                refine j_bipush (v := 6) C dX5_link_68 (by decide) ?_
                refine j_idiv C dX5_link_70 (by decide) ?_
                refine j_zald C (by first | decide | omega) (by first | assumption | rfl) (hd) ((by omega)) (by decide) dX5_link_71 ?_
                refine j_if_eq C 191 dX5_link_72 (by decide) (fun c72 => ?_) (fun c72 => ?_)
                · exact absurd (hp.symm.trans c72) (by decide) -- stop
                · refine k_iload_n C dX5_link_75 rfl ?_
                  refine j_bipush (v := 6) C dX5_link_76 (by decide) ?_
                  refine j_irem C dX5_link_78 (by decide) ?_
                  refine k_aload_n C dX5_link_79 rfl ?_
                  refine j_getr C fX5_17 rfl (by first | decide | omega) (by first | assumption | rfl) (congrFun hrg _) dX5_link_80 ?_
                  refine k_iload_n C dX5_link_83 rfl ?_
                  refine j_bipush (v := 6) C dX5_link_84 (by decide) ?_
                  refine j_idiv C dX5_link_86 (by decide) ?_
                  refine j_iald C (by first | decide | omega) (by first | assumption | rfl) (hd) ((by omega)) (by decide) dX5_link_87 ?_
                  refine j_icmp_ge C 191 dX5_link_88 (by decide) (fun c88 => ?_) (fun c88 => ?_)
                  · exact absurd c88 (by rw [hm, hmany]; exact nI_ge (a := x % 6) (b := (PG (x / 6)).1.length) (by omega) (by omega)) -- stop
                  · refine k_aload_n C dX5_link_91 rfl ?_
                    refine j_getr C fX5_24 rfl (by first | decide | omega) (by first | assumption | rfl) (congrFun hrg _) dX5_link_92 ?_
                    refine k_iload_n C dX5_link_95 rfl ?_
                    refine j_iald C (by first | decide | omega) (by first | assumption | rfl) (rfl) ((by omega)) (by decide) dX5_link_96 ?_
                    refine j_iconst (v := -1) C dX5_link_97 (by decide) ?_
                    refine j_icmp_eq C 114 dX5_link_98 (by decide) (fun c98 => ?_) (fun c98 => ?_)
                    · refine j_iconst (v := 0) C dX5_link_114 (by decide) ?_
                      exact kf (by unfold isU; simp [h0])
                    · exact absurd (by rw [q2, h0]; rfl) c98 -- stop
            · have hme := r_meant (l := jXl X) hw hrg hMg hm6 hpm hil h0
              rw [← ex] at hme
              have hmm : mI (mnt PG pr ((PG (x / 6)).1[x % 6])) = -1 ↔ fitP PG pr ((PG (x / 6)).1[x % 6]) = false := by
                unfold mnt
                cases ef : fitP PG pr ((PG (x / 6)).1[x % 6]) with
                | false => simp [mI]
                | true =>
                  simp only [if_true]
                  unfold fitP at ef
                  have hpo : pr (((PG (x / 6)).1[x % 6]).1 - 1) = true := by
                    cases z : pr (((PG (x / 6)).1[x % 6]).1 - 1) with
                    | true => rfl
                    | false => rw [z] at ef; cases ef
                  cases ed : dfx (PG (((PG (x / 6)).1[x % 6]).1 - 1)).1 ((PG (x / 6)).1[x % 6]).2.1 with
                  | none => rw [ed, hpo] at ef; cases ef
                  | some j =>
                    obtain ⟨hj, -⟩ := dfx_some _ _ _ ed
                    have := hlen _ (by omega) hpo
                    constructor
                    · intro z; exact absurd z (nI_m1 (by dsimp only; omega))
                    · intro z; cases z
              refine k_iload_n C dX5_link_57 rfl ?_
              refine j_bipush (v := 36) C dX5_link_58 (by decide) ?_
              refine j_icmp_ge C 197 dX5_link_60 (by decide) (fun c60 => ?_) (fun c60 => ?_)
              · exact absurd c60 (nI_ge (a := x) (b := 36) (by omega) (by omega)) -- stop
              · refine k_aload_n C dX5_link_63 rfl ?_
                refine j_getr C fX5_13 rfl (by first | decide | omega) (by first | assumption | rfl) (congrFun hrg _) dX5_link_64 ?_
                refine k_iload_n C dX5_link_67 rfl ?_
                refine j_bipush (v := 6) C dX5_link_68 (by decide) ?_
                refine j_idiv C dX5_link_70 (by decide) ?_
                refine j_zald C (by first | decide | omega) (by first | assumption | rfl) (hd) ((by omega)) (by decide) dX5_link_71 ?_
                refine j_if_eq C 191 dX5_link_72 (by decide) (fun c72 => ?_) (fun c72 => ?_)
                · exact absurd (hp.symm.trans c72) (by decide) -- stop
                · refine k_iload_n C dX5_link_75 rfl ?_
                  refine j_bipush (v := 6) C dX5_link_76 (by decide) ?_
                  refine j_irem C dX5_link_78 (by decide) ?_
                  refine k_aload_n C dX5_link_79 rfl ?_
                  refine j_getr C fX5_17 rfl (by first | decide | omega) (by first | assumption | rfl) (congrFun hrg _) dX5_link_80 ?_
                  refine k_iload_n C dX5_link_83 rfl ?_
                  refine j_bipush (v := 6) C dX5_link_84 (by decide) ?_
                  refine j_idiv C dX5_link_86 (by decide) ?_
                  refine j_iald C (by first | decide | omega) (by first | assumption | rfl) (hd) ((by omega)) (by decide) dX5_link_87 ?_
                  refine j_icmp_ge C 191 dX5_link_88 (by decide) (fun c88 => ?_) (fun c88 => ?_)
                  · exact absurd c88 (by rw [hm, hmany]; exact nI_ge (a := x % 6) (b := (PG (x / 6)).1.length) (by omega) (by omega)) -- stop
                  · refine k_aload_n C dX5_link_91 rfl ?_
                    refine j_getr C fX5_24 rfl (by first | decide | omega) (by first | assumption | rfl) (congrFun hrg _) dX5_link_92 ?_
                    refine k_iload_n C dX5_link_95 rfl ?_
                    refine j_iald C (by first | decide | omega) (by first | assumption | rfl) (rfl) ((by omega)) (by decide) dX5_link_96 ?_
                    refine j_iconst (v := -1) C dX5_link_97 (by decide) ?_
                    refine j_icmp_eq C 114 dX5_link_98 (by decide) (fun c98 => ?_) (fun c98 => ?_)
                    · exact absurd ((oI_eq (by omega) (by omega)).mp (by rw [← q2, oI_0]; exact c98)) h0 -- stop
                    · refine k_aload_n C dX5_link_101 rfl ?_
                      refine k_iload_n C dX5_link_102 rfl ?_
                      refine k_callV (k := 70) (ci := 5) (As := [.int (nI x)]) C mX5_260 (hme) jCl5.1 (by first | decide | omega) (by first | assumption | rfl) rfl rfl (Nat.le_of_ble_eq_true rfl) (jroom hR (by first | decide | omega) (by decide)) dX5_link_103 ?_
                      rintro v9 h9 ⟨rfl, e9⟩
                      obtain rfl := e9.symm
                      refine j_iconst (v := -1) C dX5_link_106 (by decide) ?_
                      refine j_icmp_ne C 114 dX5_link_107 (by decide) (fun c107 => ?_) (fun c107 => ?_)
                      · have c107' : fitP PG pr ((PG (x / 6)).1[x % 6]) = true := by cases z : fitP PG pr ((PG (x / 6)).1[x % 6]); (exact absurd (hmm.mpr z) c107); rfl
                        refine j_iconst (v := 0) C dX5_link_114 (by decide) ?_
                        first | exact kf (by unfold isU; simp [c107']) | exact kt (by unfold isU; simp [c107', h0])
                      · have c107' : fitP PG pr ((PG (x / 6)).1[x % 6]) = false := hmm.mp (by first | exact c107 | exact Classical.not_not.mp c107)
                        refine j_iconst (v := 1) C dX5_link_110 (by decide) ?_
                        refine j_goto C 115 dX5_link_111 (by decide) ?_
                        first | exact kf (by unfold isU; simp [c107']) | exact kt (by unfold isU; simp [c107', h0])
          refine start (fun b hb => ?_)
          rw [← hb] at e3
          have mid : J X w g 135 [(0, .ref (jad w 70)), (1, .int c), (2, .int (nI (dfX PG pr (x + 1)))), (3, .int (nI x)), (4, .int (bI b))] [] → J X w g 115 [(0, .ref (jad w 70)), (1, .int c), (2, .int (nI (dfX PG pr x))), (3, .int (nI x))] [.int (bI b)] := by
            intro kk
            rw [e4] at kk
            by_cases h0 : ((PG (x / 6)).1[x % 6]).1 = 0
            · rw [show isD (some (PG (x / 6)).1[x % 6]) = 1 from by simp [isD, h0]] at kk
              refine k_istore C dX5_link_115 (by rw [hnL]; decide) ?_
              refine k_aload_n C dX5_link_117 rfl ?_
              refine j_getr C fX5_24 rfl (by first | decide | omega) (by first | assumption | rfl) (congrFun hrg _) dX5_link_118 ?_
              refine k_iload_n C dX5_link_121 rfl ?_
              refine j_iald C (by first | decide | omega) (by first | assumption | rfl) (rfl) ((by omega)) (by decide) dX5_link_122 ?_
              refine j_iconst (v := -1) C dX5_link_123 (by decide) ?_
              refine j_icmp_ne C 133 dX5_link_124 (by decide) (fun c124 => ?_) (fun c124 => ?_)
              · exact absurd (by rw [q2, h0]; rfl) c124 -- stop
              · refine k_iload_n C dX5_link_127 rfl ?_
                refine j_iconst (v := 1) C dX5_link_128 (by decide) ?_
                refine j_iadd C dX5_link_129 ?_
                refine j_goto C 134 dX5_link_130 (by decide) ?_
                rw [nI_1]
                refine k_istore_n C dX5_link_134 (by rw [hnL]; decide) ?_
                exact kk
            · rw [show isD (some (PG (x / 6)).1[x % 6]) = 0 from by simp [isD, h0]] at kk
              refine k_istore C dX5_link_115 (by rw [hnL]; decide) ?_
              refine k_aload_n C dX5_link_117 rfl ?_
              refine j_getr C fX5_24 rfl (by first | decide | omega) (by first | assumption | rfl) (congrFun hrg _) dX5_link_118 ?_
              refine k_iload_n C dX5_link_121 rfl ?_
              refine j_iald C (by first | decide | omega) (by first | assumption | rfl) (rfl) ((by omega)) (by decide) dX5_link_122 ?_
              refine j_iconst (v := -1) C dX5_link_123 (by decide) ?_
              refine j_icmp_ne C 133 dX5_link_124 (by decide) (fun c124 => ?_) (fun c124 => ?_)
              · refine k_iload_n C dX5_link_133 rfl ?_
                refine k_istore_n C dX5_link_134 (by rw [hnL]; decide) ?_
                exact kk
              · exact absurd ((oI_eq (by omega) (by omega)).mp (by rw [← q2, oI_0]; exact c124)) h0 -- stop
          refine mid ?_
          have hu := uO_m1 (q := unX PG pr x) (fun y hy => unX_lt x y (by omega) hy)
          rw [← g6] at hu
          have nochange : unX PG pr (x + 1) = unX PG pr x → ∀ a1 a2 : Int32, a1 = g.1 70 37 → a2 = g.1 70 36 → J X w (up2 (up2 g.1 70 37 a1) 70 36 a2, g.2) 191 [(0, .ref (jad w 70)), (1, .int c), (2, .int (nI (dfX PG pr (x + 1)))), (3, .int (nI x)), (4, .int (bI b))] [] := by
            intro e5 a1 a2 ea1 ea2
            exact nxt _ [(4, .int (bI b))] e2 (fun k j z => by dsimp only; rw [up2_n (by omega), up2_n (by omega)]; exact hF k j z) (by rw [e5]; dsimp only; rw [up2_s, ea2]; exact g6) (by rw [e5]; dsimp only; rw [up2_n (by omega), up2_s, ea1]; exact g7)
          cases b with
          | false =>
            have e5 : unX PG pr (x + 1) = unX PG pr x := by rw [e3]; simp [oo_n]
            refine k_aload_n C dX5_link_135 rfl ?_
            refine k_iload C dX5_link_136 rfl ?_
            refine j_if_eq C 156 dX5_link_138 (by decide) (fun c138 => ?_) (fun c138 => ?_)
            · refine k_aload_n C dX5_link_156 rfl ?_
              refine j_geti C fX5_79 rfl (by first | decide | omega) (by first | assumption | rfl) dX5_link_157 ?_
              refine j_puti C fX5_79 rfl rfl (by first | decide | omega) (by first | assumption | rfl) dX5_link_160 ?_
              refine k_aload_n C dX5_link_163 rfl ?_
              refine k_iload C dX5_link_164 rfl ?_
              refine j_if_eq C 184 dX5_link_166 (by decide) (fun c166 => ?_) (fun c166 => ?_)
              · refine k_aload_n C dX5_link_184 rfl ?_
                refine j_geti C fX5_75 rfl (by first | decide | omega) (by first | assumption | rfl) dX5_link_185 ?_
                refine j_puti C fX5_75 rfl rfl (by first | decide | omega) (by first | assumption | rfl) dX5_link_188 ?_
                exact nochange e5 _ _ rfl (by dsimp only; rw [up2_n (by omega)])
              · exact absurd rfl c166 -- stop
            · exact absurd rfl c138 -- stop
          | true =>
            cases eu : unX PG pr x with
            | some y =>
              have hn : ¬ g.1 70 36 = -1 := fun z => by have := hu.mp z; rw [eu] at this; cases this
              have e5 : unX PG pr (x + 1) = unX PG pr x := by rw [e3, eu]; rfl
              refine k_aload_n C dX5_link_135 rfl ?_
              refine k_iload C dX5_link_136 rfl ?_
              refine j_if_eq C 156 dX5_link_138 (by decide) (fun c138 => ?_) (fun c138 => ?_)
              · exact absurd c138 (by decide) -- stop
              · refine k_aload_n C dX5_link_141 rfl ?_
                refine j_geti C fX5_75 rfl (by first | decide | omega) (by first | assumption | rfl) dX5_link_142 ?_
                refine j_iconst (v := -1) C dX5_link_145 (by decide) ?_
                refine j_icmp_ne C 156 dX5_link_146 (by decide) (fun c146 => ?_) (fun c146 => ?_)
                · refine k_aload_n C dX5_link_156 rfl ?_
                  refine j_geti C fX5_79 rfl (by first | decide | omega) (by first | assumption | rfl) dX5_link_157 ?_
                  refine j_puti C fX5_79 rfl rfl (by first | decide | omega) (by first | assumption | rfl) dX5_link_160 ?_
                  refine k_aload_n C dX5_link_163 rfl ?_
                  refine k_iload C dX5_link_164 rfl ?_
                  refine j_if_eq C 184 dX5_link_166 (by decide) (fun c166 => ?_) (fun c166 => ?_)
                  · exact absurd c166 (by decide) -- stop
                  · refine k_aload_n C dX5_link_169 rfl ?_
                    refine j_geti C fX5_75 rfl (by first | decide | omega) (by first | assumption | rfl) dX5_link_170 ?_
                    refine j_iconst (v := -1) C dX5_link_173 (by decide) ?_
                    refine j_icmp_ne C 184 dX5_link_174 (by decide) (fun c174 => ?_) (fun c174 => ?_)
                    · refine k_aload_n C dX5_link_184 rfl ?_
                      refine j_geti C fX5_75 rfl (by first | decide | omega) (by first | assumption | rfl) dX5_link_185 ?_
                      refine j_puti C fX5_75 rfl rfl (by first | decide | omega) (by first | assumption | rfl) dX5_link_188 ?_
                      exact nochange e5 _ _ rfl (by dsimp only; rw [up2_n (by omega)])
                    · exact absurd ((show up2 g.1 70 37 (g.1 70 37) 70 36 = g.1 70 36 from up2_n (by omega)).symm.trans (by first | exact c174 | exact Classical.not_not.mp c174)) hn -- stop
                · exact absurd (by first | exact c146 | exact Classical.not_not.mp c146) hn -- stop
            | none =>
              have hn : g.1 70 36 = -1 := hu.mpr eu
              have e5 : unX PG pr (x + 1) = some (x / 6, x % 6) := by rw [e3, eu]; rfl
              refine k_aload_n C dX5_link_135 rfl ?_
              refine k_iload C dX5_link_136 rfl ?_
              refine j_if_eq C 156 dX5_link_138 (by decide) (fun c138 => ?_) (fun c138 => ?_)
              · exact absurd c138 (by decide) -- stop
              · refine k_aload_n C dX5_link_141 rfl ?_
                refine j_geti C fX5_75 rfl (by first | decide | omega) (by first | assumption | rfl) dX5_link_142 ?_
                refine j_iconst (v := -1) C dX5_link_145 (by decide) ?_
                refine j_icmp_ne C 156 dX5_link_146 (by decide) (fun c146 => ?_) (fun c146 => ?_)
                · exact absurd hn c146 -- stop
                · refine k_iload_n C dX5_link_149 rfl ?_
                  refine j_bipush (v := 6) C dX5_link_150 (by decide) ?_
                  refine j_irem C dX5_link_152 (by decide) ?_
                  refine j_goto C 160 dX5_link_153 (by decide) ?_
                  refine j_puti C fX5_79 rfl rfl (by first | decide | omega) (by first | assumption | rfl) dX5_link_160 ?_
                  refine k_aload_n C dX5_link_163 rfl ?_
                  refine k_iload C dX5_link_164 rfl ?_
                  refine j_if_eq C 184 dX5_link_166 (by decide) (fun c166 => ?_) (fun c166 => ?_)
                  · exact absurd c166 (by decide) -- stop
                  · refine k_aload_n C dX5_link_169 rfl ?_
                    refine j_geti C fX5_75 rfl (by first | decide | omega) (by first | assumption | rfl) dX5_link_170 ?_
                    refine j_iconst (v := -1) C dX5_link_173 (by decide) ?_
                    refine j_icmp_ne C 184 dX5_link_174 (by decide) (fun c174 => ?_) (fun c174 => ?_)
                    · exact absurd ((show up2 g.1 70 37 (nI x - nI x / 6 * 6) 70 36 = g.1 70 36 from up2_n (by omega)).trans hn) c174 -- stop
                    · refine k_iload_n C dX5_link_177 rfl ?_
                      refine j_bipush (v := 6) C dX5_link_178 (by decide) ?_
                      refine j_idiv C dX5_link_180 (by decide) ?_
                      refine j_goto C 188 dX5_link_181 (by decide) ?_
                      refine j_puti C fX5_75 rfl rfl (by first | decide | omega) (by first | assumption | rfl) dX5_link_188 ?_
                      refine nxt _ [(4, .int (bI true))] e2 (fun k j z => by dsimp only; rw [up2_n (by omega), up2_n (by omega)]; exact hF k j z) ?_ ?_
                      · rw [e5]; dsimp only; rw [up2_s, hd]; rfl
                      · rw [e5]; dsimp only; rw [up2_n (by omega), up2_s, hm]; rfl
        · skip
          refine k_iload_n C dX5_link_57 rfl ?_
          refine j_bipush (v := 36) C dX5_link_58 (by decide) ?_
          refine j_icmp_ge C 197 dX5_link_60 (by decide) (fun c60 => ?_) (fun c60 => ?_)
          · exact absurd c60 (nI_ge (a := x) (b := 36) (by omega) (by omega)) -- stop
          · refine k_aload_n C dX5_link_63 rfl ?_
            refine j_getr C fX5_13 rfl (by first | decide | omega) (by first | assumption | rfl) (congrFun hrg _) dX5_link_64 ?_
            refine k_iload_n C dX5_link_67 rfl ?_
            refine j_bipush (v := 6) C dX5_link_68 (by decide) ?_
            refine j_idiv C dX5_link_70 (by decide) ?_
            refine j_zald C (by first | decide | omega) (by first | assumption | rfl) (hd) ((by omega)) (by decide) dX5_link_71 ?_
            refine j_if_eq C 191 dX5_link_72 (by decide) (fun c72 => ?_) (fun c72 => ?_)
            · exact absurd (hp.symm.trans c72) (by decide) -- stop
            · refine k_iload_n C dX5_link_75 rfl ?_
              refine j_bipush (v := 6) C dX5_link_76 (by decide) ?_
              refine j_irem C dX5_link_78 (by decide) ?_
              refine k_aload_n C dX5_link_79 rfl ?_
              refine j_getr C fX5_17 rfl (by first | decide | omega) (by first | assumption | rfl) (congrFun hrg _) dX5_link_80 ?_
              refine k_iload_n C dX5_link_83 rfl ?_
              refine j_bipush (v := 6) C dX5_link_84 (by decide) ?_
              refine j_idiv C dX5_link_86 (by decide) ?_
              refine j_iald C (by first | decide | omega) (by first | assumption | rfl) (hd) ((by omega)) (by decide) dX5_link_87 ?_
              refine j_icmp_ge C 191 dX5_link_88 (by decide) (fun c88 => ?_) (fun c88 => ?_)
              · exact skip (by unfold slo; rw [if_neg (fun z => hil z.2)])
              · exact absurd (by rw [hm, hmany]; exact nI_le (a := (PG (x / 6)).1.length) (b := x % 6) (by omega) (by omega)) c88 -- stop
  have count : ∀ (f m : Nat), m + f = 6 → J X w h 6 [(0, .ref (jad w 70)), (1, .int (nI (cntM pr m))), (2, .int 0), (3, .int (nI m))] [] := by
    intro f
    induction f with
    | zero =>
      intro m hm
      have hm6 : m = 6 := by omega
      subst hm6
      have hc6 := cl 6
      by_cases hc0 : cntM pr 6 = 0
      · have eG : gLink (G1, (PG, pr), (lk, fl, ui), G4) = (1, 0, (G1, (PG, pr), (lk, fl, ui), G4)) := by unfold gLink; dsimp only; rw [if_pos hc0]
        refine k_iload_n C dX5_link_6 rfl ?_
        refine j_bipush (v := 6) C dX5_link_7 (by decide) ?_
        refine j_icmp_ge C 35 dX5_link_9 (by decide) (fun c9 => ?_) (fun c9 => ?_)
        · refine k_iload_n C dX5_link_35 rfl ?_
          refine j_if_ne C 45 dX5_link_36 (by decide) (fun c36 => ?_) (fun c36 => ?_)
          · exact absurd (by rw [hc0]; rfl) c36 -- stop
          · refine k_aload_n C dX5_link_39 rfl ?_
            refine j_iconst (v := 1) C dX5_link_40 (by decide) ?_
            refine k_callV (k := 70) (ci := 5) (As := [.int 1]) C mX5_246 (r_refuse hw 1) jCl5.1 (by first | decide | omega) (by first | assumption | rfl) rfl rfl (Nat.le_of_ble_eq_true rfl) (jroom hR (by first | decide | omega) (by decide)) dX5_link_41 ?_
            rintro v9 h9 ⟨rfl, rfl⟩
            exact j_iret C hrt hE dX5_link_44 (⟨by rw [eG]; rfl, by rw [eG]; simp [up2]; rfl, by rw [eG]; exact RI_code 1 H⟩)
        · exact absurd (nI_le (a := 6) (b := 6) (by omega) (by omega)) c9 -- stop
      · skip
        refine k_iload_n C dX5_link_6 rfl ?_
        refine j_bipush (v := 6) C dX5_link_7 (by decide) ?_
        refine j_icmp_ge C 35 dX5_link_9 (by decide) (fun c9 => ?_) (fun c9 => ?_)
        · refine k_iload_n C dX5_link_35 rfl ?_
          refine j_if_ne C 45 dX5_link_36 (by decide) (fun c36 => ?_) (fun c36 => ?_)
          · refine k_aload_n C dX5_link_45 rfl ?_
            refine j_iconst (v := -1) C dX5_link_46 (by decide) ?_
            refine j_puti C fX5_75 rfl rfl (by first | decide | omega) (by first | assumption | rfl) dX5_link_47 ?_
            refine k_aload_n C dX5_link_50 rfl ?_
            refine j_iconst (v := -1) C dX5_link_51 (by decide) ?_
            refine j_puti C fX5_79 rfl rfl (by first | decide | omega) (by first | assumption | rfl) dX5_link_52 ?_
            refine j_iconst (v := 0) C dX5_link_55 (by decide) ?_
            refine k_istore_n C dX5_link_56 (by rw [hnL]; decide) ?_
            exact loop hc0 36 0 rfl (up2 (up2 h.1 70 36 (-1)) 70 37 (-1), h.2) (nI (cntM pr 6)) rfl (fun k j z => by dsimp only; rw [up2_n (by omega), up2_n (by omega)]) (by simp [up2, unX, uO]) (by simp [up2, unX, uO])
          · exact absurd ((nI_eq (b := 0) (by omega) (by omega)).mp (by first | exact c36 | exact Classical.not_not.mp c36)) hc0 -- stop
        · exact absurd (nI_le (a := 6) (b := 6) (by omega) (by omega)) c9 -- stop
    | succ f ih =>
      intro m hm
      have hp := (hM m (by omega)).1
      have hcm := cl m
      have nxt : J X w h 28 [(0, .ref (jad w 70)), (1, .int (nI (cntM pr m))), (2, .int 0), (3, .int (nI m))] [.int (nI (cntM pr (m + 1)))] := by
        refine k_istore_n C dX5_link_28 (by rw [hnL]; decide) ?_
        refine k_iinc C dX5_link_29 rfl rfl (by rw [hnL]; decide) ?_
        refine j_goto C 6 dX5_link_32 (by decide) ?_
        rw [show nI m + Int32.ofInt 1 = nI (m + 1) from nI_1 m]
        exact ih (m + 1) (by omega)
      rw [cntM_s] at nxt
      cases hpm : pr m with
      | true =>
        rw [hpm] at hp nxt
        refine k_iload_n C dX5_link_6 rfl ?_
        refine j_bipush (v := 6) C dX5_link_7 (by decide) ?_
        refine j_icmp_ge C 35 dX5_link_9 (by decide) (fun c9 => ?_) (fun c9 => ?_)
        · exact absurd c9 (nI_ge (a := m) (b := 6) (by omega) (by omega)) -- stop
        · refine k_aload_n C dX5_link_12 rfl ?_
          refine j_getr C fX5_13 rfl (by first | decide | omega) (by first | assumption | rfl) (congrFun hr _) dX5_link_13 ?_
          refine k_iload_n C dX5_link_16 rfl ?_
          refine j_zald C (by first | decide | omega) (by first | assumption | rfl) (rfl) ((by omega)) (by decide) dX5_link_17 ?_
          refine j_if_eq C 27 dX5_link_18 (by decide) (fun c18 => ?_) (fun c18 => ?_)
          · exact absurd (hp.symm.trans c18) (by decide) -- stop
          · refine k_iload_n C dX5_link_21 rfl ?_
            refine j_iconst (v := 1) C dX5_link_22 (by decide) ?_
            refine j_iadd C dX5_link_23 ?_
            refine j_goto C 28 dX5_link_24 (by decide) ?_
            rw [nI_1]
            exact nxt
      | false =>
        rw [hpm] at hp nxt
        refine k_iload_n C dX5_link_6 rfl ?_
        refine j_bipush (v := 6) C dX5_link_7 (by decide) ?_
        refine j_icmp_ge C 35 dX5_link_9 (by decide) (fun c9 => ?_) (fun c9 => ?_)
        · exact absurd c9 (nI_ge (a := m) (b := 6) (by omega) (by omega)) -- stop
        · refine k_aload_n C dX5_link_12 rfl ?_
          refine j_getr C fX5_13 rfl (by first | decide | omega) (by first | assumption | rfl) (congrFun hr _) dX5_link_13 ?_
          refine k_iload_n C dX5_link_16 rfl ?_
          refine j_zald C (by first | decide | omega) (by first | assumption | rfl) (rfl) ((by omega)) (by decide) dX5_link_17 ?_
          refine j_if_eq C 27 dX5_link_18 (by decide) (fun c18 => ?_) (fun c18 => ?_)
          · refine k_iload_n C dX5_link_27 rfl ?_
            exact nxt
          · exact absurd hp c18 -- stop
  show J X w h 0 [(0, .ref (jad w 70))] []
  refine j_iconst (v := 0) C dX5_link_0 (by decide) ?_
  refine k_istore_n C dX5_link_1 (by rw [hnL]; decide) ?_
  refine j_iconst (v := 0) C dX5_link_2 (by decide) ?_
  refine k_istore_n C dX5_link_3 (by rw [hnL]; decide) ?_
  refine j_iconst (v := 0) C dX5_link_4 (by decide) ?_
  refine k_istore_n C dX5_link_5 (by rw [hnL]; decide) ?_
  exact count 6 0 rfl
end R7
