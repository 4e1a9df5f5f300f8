/-- what the heads' reading may change -/
def hsF (u : Nat) (g g' : jH) : Prop := g'.2 = g.2 ∧ ∀ k j, ¬ (k = ub u ∧ j ≤ 1) → ¬ (ub u + 3 ≤ k ∧ k < ub u + 9 ∧ j ≤ 5) → g'.1 k j = g.1 k j
/-- the heads of a text, and where they end -/
def hdsL (t : Nat → Nat) (n : Nat) : List HD := (hdL t n 6 [] (am t n 65 70 (some 0))).1
def hdsP (t : Nat → Nat) (n : Nat) : Option Nat := if pkO t n (hdL t n 6 [] (am t n 65 70 (some 0))).2 = 0 then (hdL t n 6 [] (am t n 65 70 (some 0))).2 else none
def hdsM (t : Nat → Nat) (n : Nat) : Nat := amV t n 65 70 (some 0)
section HD3
variable {l : Launch} {w : jW} {g g' h : jH} {u : Nat} {t : Nat → Nat} {n : Nat} {p : Option Nat} {hs : List HD}
theorem hsF_tx (hu : u < 7) (hF : hsF u g g') (ht : tx g t n) : tx g' t n := by
  have := ub_in hu
  obtain ⟨h1, h2, h3, h4⟩ := ht
  refine ⟨by rw [hF.1]; exact h1, by rw [hF.2 13 1 (by omega) (by omega)]; exact h2, h3, fun j hj => ?_⟩
  rw [hF.2 1 j (by omega) (by omega)]; exact h4 j hj
theorem u_readHeads (hw : jok w) (hu : ur g u) (hg3 : g.2.1 13 3 = some (ub u)) (ht : tx g t n) (hcnt : g.1 (ub u) 1 = nI 0) : jM l w yX0_readHeads cX0_readHeads 2 none 6 [.ref (jad w 13)] (hq g n (some 0)) (fun r h' => r = none ∧ ∃ g', h' = hq g' n (hdsP t n) ∧ hsF u g g' ∧ g'.1 (ub u) 0 = nI (hdsM t n) ∧ g'.1 (ub u) 1 = nI (hdsL t n).length ∧ (hdsL t n).length ≤ 6 ∧ hdI g' u n (hdsL t n)) := by
  refine jM_of (by decide) hw (Nat.le_of_ble_eq_true rfl) ?_
  intro X C hl hR hnL hrt hE
  subst hl
  have C : jC X w cX0_readHeads RX0 := C
  obtain ⟨k3, k4, k5, k6, k7⟩ := jk_unit u hu.1
  have hub := ub_in hu.1
  show J X w (hq g n (some 0)) 0 [(0, .ref (jad w 13))] []
  have fin : ∀ (g2 : jH) (hs : List HD) (q : Option Nat), hsF u g g2 → g2.1 (ub u) 0 = nI (hdsM t n) → g2.1 (ub u) 1 = nI hs.length → hs.length ≤ 6 → hdI g2 u n hs → pOk n q → hdL t n 6 [] (am t n 65 70 (some 0)) = (hs, q) → J X w (hq g2 n q) 71 [(0, .ref (jad w 13)), (1, .int (nI hs.length))] [] := by
    intro g2 hs q hF q0 q1 h6 hI hqo e
    have ht2 := hsF_tx hu.1 hF ht
    have hpk := pkO_lt (p := q) ht2
    have eL : hdsL t n = hs := by unfold hdsL; rw [e]
    refine k_aload_n C dX0_readHeads_71 rfl ?_
    refine k_callV (k := 13) (ci := 0) (As := []) C mX0_64 (u_peek hw ht2 hqo) jCl0.1 (by first | decide | omega) (by first | assumption | rfl) rfl rfl (Nat.le_of_ble_eq_true rfl) (jroom hR (by first | decide | omega) (by decide)) dX0_readHeads_72 ?_
    rintro v9 h9 ⟨rfl, rfl⟩
    refine j_if_eq C 83 dX0_readHeads_75 (by decide) (fun c75 => ?_) (fun c75 => ?_)
    · replace c75 : pkO t n q = 0 := (nI_eq (b := 0) (by omega) (by omega)).mp c75
      exact j_vret C hrt hE dX0_readHeads_83 (by first | exact ⟨rfl, g2, by unfold hdsP; rw [e, if_pos c75], hF, q0, by rw [eL]; exact q1, by rw [eL]; exact h6, by rw [eL]; exact hI⟩ | exact ⟨rfl, g2, by unfold hdsP; rw [e, if_neg c75], hF, q0, by rw [eL]; exact q1, by rw [eL]; exact h6, by rw [eL]; exact hI⟩)
    · replace c75 : ¬ pkO t n q = 0 := fun z => c75 (by rw [z]; rfl)
      refine k_aload_n C dX0_readHeads_78 rfl ?_
      refine k_callV (k := 13) (ci := 0) (As := []) C mX0_75 (u_refuse hw ht2) jCl0.1 (by first | decide | omega) (by first | assumption | rfl) rfl rfl (Nat.le_of_ble_eq_true rfl) (jroom hR (by first | decide | omega) (by decide)) dX0_readHeads_79 ?_
      rintro v9 h9 ⟨rfl, rfl⟩
      refine j_pop C dX0_readHeads_82 rfl ?_
      exact j_vret C hrt hE dX0_readHeads_83 (by first | exact ⟨rfl, g2, by unfold hdsP; rw [e, if_pos c75], hF, q0, by rw [eL]; exact q1, by rw [eL]; exact h6, by rw [eL]; exact hI⟩ | exact ⟨rfl, g2, by unfold hdsP; rw [e, if_neg c75], hF, q0, by rw [eL]; exact q1, by rw [eL]; exact h6, by rw [eL]; exact hI⟩)
  have loop : ∀ (f : Nat) (g2 : jH) (hs : List HD) (q : Option Nat), hs.length + f = 6 → hsF u g g2 → g2.1 (ub u) 0 = nI (hdsM t n) → g2.1 (ub u) 1 = nI hs.length → hdI g2 u n hs → pOk n q → hdL t n 6 [] (am t n 65 70 (some 0)) = hdL t n f hs q → J X w (hq g2 n q) 17 [(0, .ref (jad w 13)), (1, .int (nI hs.length))] [] := by
    intro f
    induction f with
    | zero =>
      intro g2 hs q hf hF q0 q1 hI hqo e
      refine k_iload_n C dX0_readHeads_17 rfl ?_
      refine j_bipush (v := 6) C dX0_readHeads_18 (by decide) ?_
      refine j_icmp_ge C 71 dX0_readHeads_20 (by decide) (fun c20 => ?_) (fun c20 => ?_)
      · exact fin g2 hs q hF q0 q1 (by omega) hI hqo e
      · exact absurd (nI_le (a := 6) (b := hs.length) (by omega) (by omega)) c20 -- stop
    | succ f ih =>
      intro g2 hs q hf hF q0 q1 hI hqo e
      have ht2 := hsF_tx hu.1 hF ht
      have hpk := pkO_lt (p := q) ht2
      have hu2 : ur g2 u := by have := hu; unfold ur at this ⊢; rw [hF.1]; exact this
      have go : (hs = [] ∨ pkO t n q = 59) → J X w (hq g2 n q) 36 [(0, .ref (jad w 13)), (1, .int (nI hs.length))] [] := by
        intro hor
        have e2 : hdL t n 6 [] (am t n 65 70 (some 0)) = hdL t n f (hs ++ [hdD t n hs (tk t n 59 q)]) (hdP7 t n hs (tk t n 59 q)) := by rw [e]; conv => lhs; unfold hdL; rw [if_pos hor]
        refine k_aload_n C dX0_readHeads_36 rfl ?_
        refine j_bipush (v := 59) C dX0_readHeads_37 (by decide) ?_
        refine k_callV (k := 13) (ci := 0) (As := [.int (nI 59)]) C mX0_68 (u_take hw ht2 hqo (ch := 59) (by decide) (by decide)) jCl0.1 (by first | decide | omega) (by first | assumption | rfl) rfl rfl (Nat.le_of_ble_eq_true rfl) (jroom hR (by first | decide | omega) (by decide)) dX0_readHeads_39 ?_
        rintro v9 h9 ⟨rfl, rfl⟩
        refine k_aload_n C dX0_readHeads_42 rfl ?_
        refine k_aload_n C dX0_readHeads_43 rfl ?_
        refine j_getr C fX0_22 rfl (by first | decide | omega) (by first | assumption | rfl) (by rw [hq_2, hF.1]; exact hg3) dX0_readHeads_44 ?_
        refine j_getr C fX0_44 rfl (by first | decide | omega) (by first | assumption | rfl) (by rw [hq_2]; exact hu2.2.1) dX0_readHeads_47 ?_
        refine k_iload_n C dX0_readHeads_50 rfl ?_
        refine j_aald C (t := 4) (by decide) rfl (by first | decide | omega) (by first | assumption | rfl) (rfl) ((by omega)) (by decide) (by rw [hq_2]; exact hu2.2.2.2 hs.length (by omega)) dX0_readHeads_51 ?_
        refine k_callV (k := 13) (ci := 0) (As := [.ref (jad w (ub u + 3 + hs.length))]) C mX0_72 (u_readHead (hs := hs) hw hu2 (by rw [hF.1]; exact hg3) ht2 (tk_ok (t := t) (n := n) (p := q) (ch := 59) (by decide)) (by omega) q1 hI) jCl0.1 (by first | decide | omega) (by first | assumption | rfl) rfl rfl (Nat.le_of_ble_eq_true rfl) (jroom hR (by first | decide | omega) (by decide)) dX0_readHeads_52 ?_
        rintro v9 h9 ⟨rfl, g3, rfl, hF3, hA3⟩
        refine k_aload_n C dX0_readHeads_55 rfl ?_
        refine j_getr C fX0_22 rfl (by first | decide | omega) (by first | assumption | rfl) (by rw [hq_2, hF3.1, hF.1]; exact hg3) dX0_readHeads_56 ?_
        refine k_iload_n C dX0_readHeads_59 rfl ?_
        refine j_iconst (v := 1) C dX0_readHeads_60 (by decide) ?_
        refine j_iadd C dX0_readHeads_61 ?_
        rw [nI_1]
        refine j_puti C fX0_26 rfl rfl (by first | decide | omega) (by first | assumption | rfl) dX0_readHeads_62 ?_
        refine jeqh (hq_put (by omega)) ?_
        refine k_iinc C dX0_readHeads_65 rfl rfl (by rw [hnL]; decide) ?_
        refine j_goto C 17 dX0_readHeads_68 (by decide) ?_
        rw [show nI hs.length + Int32.ofInt 1 = nI (hs.length + 1) from nI_1 _]
        have el : (hs ++ [hdD t n hs (tk t n 59 q)]).length = hs.length + 1 := by simp
        rw [← el]
        refine ih _ _ _ (by omega) ⟨by show g3.2 = g.2; rw [hF3.1, hF.1], fun k j z1 z2 => ?_⟩ ?_ ?_ ?_ hdP7_ok e2
        · show up2 g3.1 (ub u) 1 _ k j = _
          rw [up2_n (by omega), hF3.2 k j (by omega), hF.2 k j z1 z2]
        · show up2 g3.1 (ub u) 1 _ (ub u) 0 = _
          rw [up2_n (by omega), hF3.2 _ _ (by omega)]; exact q0
        · exact up2_s
        · intro i hi
          have hA : ∀ d, hdA g3 u i d → hdA (up2 g3.1 (ub u) 1 (nI (hs ++ [hdD t n hs (tk t n 59 q)]).length), g3.2) u i d := fun d z => ⟨(up2_n (by omega)).trans z.1, (up2_n (by omega)).trans z.2.1, (up2_n (by omega)).trans z.2.2.1, (up2_n (by omega)).trans z.2.2.2.1, (up2_n (by omega)).trans z.2.2.2.2.1, fun y => (up2_n (by omega)).trans (z.2.2.2.2.2 y)⟩
          by_cases hc : i < hs.length
          · rw [List.getElem_append_left hc]
            obtain ⟨z, zk⟩ := hI i hc
            refine ⟨hA _ ⟨(hF3.2 _ _ (by omega)).trans z.1, (hF3.2 _ _ (by omega)).trans z.2.1, (hF3.2 _ _ (by omega)).trans z.2.2.1, (hF3.2 _ _ (by omega)).trans z.2.2.2.1, (hF3.2 _ _ (by omega)).trans z.2.2.2.2.1, fun y => (hF3.2 _ _ (by omega)).trans (z.2.2.2.2.2 y)⟩, zk⟩
          · have hc' : i = hs.length := by omega
            subst hc'
            rw [List.getElem_concat_length rfl]
            exact ⟨hA _ hA3, hdK_D⟩
      refine k_iload_n C dX0_readHeads_17 rfl ?_
      refine j_bipush (v := 6) C dX0_readHeads_18 (by decide) ?_
      refine j_icmp_ge C 71 dX0_readHeads_20 (by decide) (fun c20 => ?_) (fun c20 => ?_)
      · exact absurd c20 (nI_ge (a := hs.length) (b := 6) (by omega) (by omega)) -- stop
      · refine k_iload_n C dX0_readHeads_23 rfl ?_
        refine j_if_eq C 36 dX0_readHeads_24 (by decide) (fun c24 => ?_) (fun c24 => ?_)
        · replace c24 : hs = [] := List.eq_nil_of_length_eq_zero ((nI_eq (b := 0) (by omega) (by omega)).mp c24)
          first | exact go (Or.inl c24) | exact go (Or.inr c33)
        · replace c24 : ¬ hs = [] := fun z => c24 (by rw [z]; rfl)
          refine k_aload_n C dX0_readHeads_27 rfl ?_
          refine k_callV (k := 13) (ci := 0) (As := []) C mX0_64 (u_peek hw ht2 hqo) jCl0.1 (by first | decide | omega) (by first | assumption | rfl) rfl rfl (Nat.le_of_ble_eq_true rfl) (jroom hR (by first | decide | omega) (by decide)) dX0_readHeads_28 ?_
          rintro v9 h9 ⟨rfl, rfl⟩
          refine j_bipush (v := 59) C dX0_readHeads_31 (by decide) ?_
          refine j_icmp_ne C 71 dX0_readHeads_33 (by decide) (fun c33 => ?_) (fun c33 => ?_)
          · replace c33 : ¬ pkO t n q = 59 := fun z => c33 (by rw [z]; rfl)
            exact fin g2 hs q hF q0 q1 (by omega) hI hqo (by rw [e]; unfold hdL; rw [if_neg (fun z => z.elim c24 c33)])
          · replace c33 : pkO t n q = 59 := (nI_eq (b := 59) (by omega) (by omega)).mp c33
            first | exact go (Or.inl c24) | exact go (Or.inr c33)
  have hok0 : pOk n (some 0) := fun a ha => by simp at ha; omega
  refine k_aload_n C dX0_readHeads_0 rfl ?_
  refine j_getr C fX0_22 rfl (by first | decide | omega) (by first | assumption | rfl) (by rw [hq_2]; exact hg3) dX0_readHeads_1 ?_
  refine k_aload_n C dX0_readHeads_4 rfl ?_
  refine j_bipush (v := 65) C dX0_readHeads_5 (by decide) ?_
  refine j_bipush (v := 70) C dX0_readHeads_7 (by decide) ?_
  refine k_callV (k := 13) (ci := 0) (As := [.int (nI 65), .int (nI 70)]) C mX0_57 (u_readAmong hw ht hok0 (lo := 65) (hi := 70) (by decide) (by decide) (by decide)) jCl0.1 (by first | decide | omega) (by first | assumption | rfl) rfl rfl (Nat.le_of_ble_eq_true rfl) (jroom hR (by first | decide | omega) (by decide)) dX0_readHeads_9 ?_
  rintro v9 h9 ⟨rfl, rfl⟩
  refine j_puti C fX0_61 rfl rfl (by first | decide | omega) (by first | assumption | rfl) dX0_readHeads_12 ?_
  refine jeqh (hq_put (by omega)) ?_
  refine j_iconst (v := 0) C dX0_readHeads_15 (by decide) ?_
  refine k_istore_n C dX0_readHeads_16 (by rw [hnL]; decide) ?_
  refine loop 6 _ [] _ rfl ⟨rfl, fun k j z1 z2 => up2_n (by omega)⟩ up2_s ((up2_n (by omega)).trans hcnt) (fun i hi => absurd hi (Nat.not_lt_zero _)) (am_ok (by decide)) rfl
end HD3
