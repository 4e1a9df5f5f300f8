/-! the reference's tables: module m's items stand at 6 m .. -/
def nTk (s : Nat) : Nat := if ta s 1 = 0 then 0 else if ta s 2 = 0 then 1 else if ta s 3 = 0 then 2 else 3
def rSg (h : jH) (x s : Nat) : Prop := h.1 77 x = nI (nTk s) ∧ (∀ q, q < nTk s → h.1 78 (3 * x + q) = bI (ta s (q + 1) == 2)) ∧ h.1 79 x = bI (ta s 0 == 2)
def rNF (h : jH) (m : Nat) (hs : List HD) : Prop := h.1 73 m = nI hs.length ∧ hs.length ≤ 6 ∧ ∀ i (hi : i < hs.length), h.1 74 (6 * m + i) = nI (hs[i]).2.1 ∧ h.1 75 (6 * m + i) = oI (hs[i]).1 ∧ (hs[i]).1 ≤ 6 ∧ (hs[i]).2.1 < 26
def rIt (h : jH) (m : Nat) (hs : List HD) : Prop := rNF h m hs ∧ ∀ i (hi : i < hs.length), h.1 76 (6 * m + i) = nI (hs[i]).2.2.2.1 ∧ rSg h (6 * m + i) (hs[i]).2.2.1
/-- the last item with that owner and name -/
def lix (hs : List HD) (o : Nat) (x : Int32) : Nat → Option Nat
  | 0 => none
  | k + 1 => if (hs.getD k (0, 0, 0, 0, 0)).1 = o ∧ nI (hs.getD k (0, 0, 0, 0, 0)).2.1 = x then some k else lix hs o x k
def ixI (m : Nat) (o : Option Nat) : Int32 := match o with
  | none => -1
  | some i => nI (6 * m + i)
section R2
variable {l : Launch} {w : jW} {h g : jH} {t : Nat → Nat} {n a : Nat} {gd ty : Bool} {hs : List HD}
theorem r_find (hw : jok w) (hr : h.2.1 70 = rMap) {m o : Nat} (hm : m < 7) (H : rNF h m hs) (ho : o ≤ 6) (x : Int32) : jM l w yX5_find cX5_find 6 (some .int) 0 [.ref (jad w 70), .int (nI m), .int x, .int (oI o)] h (fun r h' => r = some (.int (ixI m (lix hs o x hs.length))) ∧ h' = h) := by
  refine jM_of (by decide) hw (Nat.le_of_ble_eq_true rfl) ?_
  intro X C hl hR hnL hrt hE
  have C : jC X w cX5_find RX5 := C
  obtain ⟨h1, h2, h3⟩ := H
  have loop : ∀ (f k : Nat), k + f = hs.length → J X w h 6 [(0, .ref (jad w 70)), (1, .int (nI m)), (2, .int x), (3, .int (oI o)), (4, .int (ixI m (lix hs o x k))), (5, .int (nI k))] [] := by
    intro f
    induction f with
    | zero =>
      intro k hk
      refine k_iload C dX5_find_6 rfl ?_
      refine k_aload_n C dX5_find_8 rfl ?_
      refine j_getr C fX5_17 rfl (by first | decide | omega) (by first | assumption | rfl) (congrFun hr _) dX5_find_9 ?_
      refine k_iload_n C dX5_find_12 rfl ?_
      refine j_iald C (by first | decide | omega) (by first | assumption | rfl) (rfl) (hm) (by decide) dX5_find_13 ?_
      refine j_icmp_ge C 69 dX5_find_14 (by decide) (fun c14 => ?_) (fun c14 => ?_)
      · refine k_iload C dX5_find_69 rfl ?_
        exact j_iret C hrt hE dX5_find_71 (⟨by rw [show k = hs.length by omega], rfl⟩)
      · exact absurd (by rw [h1]; exact nI_le (a := hs.length) (b := k) (by omega) (by omega)) c14 -- stop
    | succ f ih =>
      intro k hk
      obtain ⟨q1, q2, q3, q4⟩ := h3 k (by omega)
      have eg := gtD (l := hs) (i := k) (by omega)
      have ei : (6 : Int32) * nI m + nI k = nI (6 * m + k) := by rw [show (6 : Int32) = nI 6 from rfl, pk_mul, nI_add]
      have stp : ∀ y, y = ixI m (lix hs o x (k + 1)) → J X w h 61 [(0, .ref (jad w 70)), (1, .int (nI m)), (2, .int x), (3, .int (oI o)), (4, .int (ixI m (lix hs o x k))), (5, .int (nI k))] [.int y] := by
        intro y hy
        refine k_istore C dX5_find_61 (by rw [hnL]; decide) ?_
        refine k_iinc C dX5_find_63 rfl rfl (by rw [hnL]; decide) ?_
        refine j_goto C 6 dX5_find_66 (by decide) ?_
        rw [hy, show nI k + Int32.ofInt 1 = nI (k + 1) from nI_1 k]
        exact ih (k + 1) (by omega)
      refine k_iload C dX5_find_6 rfl ?_
      refine k_aload_n C dX5_find_8 rfl ?_
      refine j_getr C fX5_17 rfl (by first | decide | omega) (by first | assumption | rfl) (congrFun hr _) dX5_find_9 ?_
      refine k_iload_n C dX5_find_12 rfl ?_
      refine j_iald C (by first | decide | omega) (by first | assumption | rfl) (rfl) (hm) (by decide) dX5_find_13 ?_
      refine j_icmp_ge C 69 dX5_find_14 (by decide) (fun c14 => ?_) (fun c14 => ?_)
      · exact absurd c14 (by rw [h1]; exact nI_ge (a := k) (b := hs.length) (by omega) (by omega)) -- stop
      · refine k_aload_n C dX5_find_17 rfl ?_
        refine j_getr C fX5_21 rfl (by first | decide | omega) (by first | assumption | rfl) (congrFun hr _) dX5_find_18 ?_
        refine j_bipush (v := 6) C dX5_find_21 (by decide) ?_
        refine k_iload_n C dX5_find_23 rfl ?_
        refine j_imul C dX5_find_24 ?_
        refine k_iload C dX5_find_25 rfl ?_
        refine j_iadd C dX5_find_27 ?_
        refine j_iald C (by first | decide | omega) (by first | assumption | rfl) (ei) ((by omega)) (by decide) dX5_find_28 ?_
        refine k_iload_n C dX5_find_29 rfl ?_
        refine j_icmp_ne C 59 dX5_find_30 (by decide) (fun c30 => ?_) (fun c30 => ?_)
        · refine k_iload C dX5_find_59 rfl ?_
          first | (refine stp _ ?_; conv => rhs; unfold lix; rw [if_neg (by rw [eg]; intro z; exact c30 (by rw [q1]; exact z.2))]) | (refine stp _ ?_; conv => rhs; unfold lix; rw [if_neg (by rw [eg]; intro z; exact c46 (by rw [q2, z.1]))]) | (refine stp _ ?_; rw [ei]; (conv => rhs; unfold lix; rw [if_pos (by rw [eg]; exact ⟨(oI_eq (by omega) (by omega)).mp (by rw [← q2]; exact c46), by rw [← q1]; exact c30⟩)]); rfl)
        · refine k_aload_n C dX5_find_33 rfl ?_
          refine j_getr C fX5_24 rfl (by first | decide | omega) (by first | assumption | rfl) (congrFun hr _) dX5_find_34 ?_
          refine j_bipush (v := 6) C dX5_find_37 (by decide) ?_
          refine k_iload_n C dX5_find_39 rfl ?_
          refine j_imul C dX5_find_40 ?_
          refine k_iload C dX5_find_41 rfl ?_
          refine j_iadd C dX5_find_43 ?_
          refine j_iald C (by first | decide | omega) (by first | assumption | rfl) (ei) ((by omega)) (by decide) dX5_find_44 ?_
          refine k_iload_n C dX5_find_45 rfl ?_
          refine j_icmp_ne C 59 dX5_find_46 (by decide) (fun c46 => ?_) (fun c46 => ?_)
          · refine k_iload C dX5_find_59 rfl ?_
            first | (refine stp _ ?_; conv => rhs; unfold lix; rw [if_neg (by rw [eg]; intro z; exact c30 (by rw [q1]; exact z.2))]) | (refine stp _ ?_; conv => rhs; unfold lix; rw [if_neg (by rw [eg]; intro z; exact c46 (by rw [q2, z.1]))]) | (refine stp _ ?_; rw [ei]; (conv => rhs; unfold lix; rw [if_pos (by rw [eg]; exact ⟨(oI_eq (by omega) (by omega)).mp (by rw [← q2]; exact c46), by rw [← q1]; exact c30⟩)]); rfl)
          · refine j_bipush (v := 6) C dX5_find_49 (by decide) ?_
            refine k_iload_n C dX5_find_51 rfl ?_
            refine j_imul C dX5_find_52 ?_
            refine k_iload C dX5_find_53 rfl ?_
            refine j_iadd C dX5_find_55 ?_
            refine j_goto C 61 dX5_find_56 (by decide) ?_
            first | (refine stp _ ?_; conv => rhs; unfold lix; rw [if_neg (by rw [eg]; intro z; exact c30 (by rw [q1]; exact z.2))]) | (refine stp _ ?_; conv => rhs; unfold lix; rw [if_neg (by rw [eg]; intro z; exact c46 (by rw [q2, z.1]))]) | (refine stp _ ?_; rw [ei]; (conv => rhs; unfold lix; rw [if_pos (by rw [eg]; exact ⟨(oI_eq (by omega) (by omega)).mp (by rw [← q2]; exact c46), by rw [← q1]; exact c30⟩)]); rfl)
  show J X w h 0 [(0, .ref (jad w 70)), (1, .int (nI m)), (2, .int x), (3, .int (oI o))] []
  refine j_iconst (v := -1) C dX5_find_0 (by decide) ?_
  refine k_istore C dX5_find_1 (by rw [hnL]; decide) ?_
  refine j_iconst (v := 0) C dX5_find_3 (by decide) ?_
  refine k_istore C dX5_find_4 (by rw [hnL]; decide) ?_
  exact loop hs.length 0 (by omega)
theorem nTk_le (s : Nat) : nTk s ≤ 3 := by unfold nTk; split; omega; split; omega; split <;> omega
theorem nTk_ta {s k : Nat} (hk : k < nTk s) : ta s (k + 1) ≠ 0 := by
  unfold nTk at hk
  split at hk
  · omega
  · split at hk
    · have : k = 0 := by omega
      subst this; assumption
    · split at hk
      · have : k = 0 ∨ k = 1 := by omega
        rcases this with rfl | rfl <;> assumption
      · have : k = 0 ∨ k = 1 ∨ k = 2 := by omega
        rcases this with rfl | rfl | rfl <;> assumption
theorem wb_s {s k : Nat} (hk : 1 ≤ k) : wb s (k + 1) = wb s k + ta s k := by
  conv => lhs; unfold wb
  rw [if_neg (by omega)]
theorem nTk_wb {s : Nat} (hs : sgn s) : wb s (nTk s + 1) = wb s 4 := by
  unfold nTk
  split
  · next h1 => exact wb_end hs (by omega) h1
  · split
    · next h2 => exact wb_end hs (by omega) h2
    · split
      · next h3 => exact wb_end hs (by omega) h3
      · rfl
theorem r_before (hw : jok w) (hr : h.2.1 70 = rMap) {x s k : Nat} (hx : x < 42) (hk : k ≤ nTk s) (h3 : ∀ j, ta s j ≠ 3) (H : ∀ q, q < nTk s → h.1 78 (3 * x + q) = bI (ta s (q + 1) == 2)) : jM l w yX5_before cX5_before 5 (some .int) 0 [.ref (jad w 70), .int (nI x), .int (nI k)] h (fun r h' => r = some (.int (nI (wb s (k + 1)))) ∧ h' = h) := by
  refine jM_of (by decide) hw (Nat.le_of_ble_eq_true rfl) ?_
  intro X C hl hR hnL hrt hE
  have C : jC X w cX5_before RX5 := C
  have hk3 := nTk_le s
  have loop : ∀ (f q : Nat), q + f = k → J X w h 5 [(0, .ref (jad w 70)), (1, .int (nI x)), (2, .int (nI k)), (3, .int (nI (wb s (q + 1)))), (4, .int (nI q))] [] := by
    intro f
    induction f with
    | zero =>
      intro q hq
      refine k_iload C dX5_before_5 rfl ?_
      refine k_iload_n C dX5_before_7 rfl ?_
      refine j_icmp_ge C 39 dX5_before_8 (by decide) (fun c8 => ?_) (fun c8 => ?_)
      · refine k_iload_n C dX5_before_39 rfl ?_
        exact j_iret C hrt hE dX5_before_40 (⟨by rw [show q = k by omega], rfl⟩)
      · exact absurd (nI_le (a := k) (b := q) (by omega) (by omega)) c8 -- stop
    | succ f ih =>
      intro q hq
      have e1 := H q (by omega)
      have e2 := nTk_ta (s := s) (k := q) (by omega)
      have e3 := ta_le s (q + 1)
      have e4 := h3 (q + 1)
      have e5 : wb s (q + 1 + 1) = wb s (q + 1) + ta s (q + 1) := wb_s (by omega)
      have ei : (3 : Int32) * nI x + nI q = nI (3 * x + q) := by rw [show (3 : Int32) = nI 3 from rfl, pk_mul, nI_add]
      have stp : J X w h 31 [(0, .ref (jad w 70)), (1, .int (nI x)), (2, .int (nI k)), (3, .int (nI (wb s (q + 1)))), (4, .int (nI q))] [.int (nI (ta s (q + 1))), .int (nI (wb s (q + 1)))] := by
        refine j_iadd C dX5_before_31 ?_
        rw [nI_add, ← e5]
        refine k_istore_n C dX5_before_32 (by rw [hnL]; decide) ?_
        refine k_iinc C dX5_before_33 rfl rfl (by rw [hnL]; decide) ?_
        refine j_goto C 5 dX5_before_36 (by decide) ?_
        rw [show nI q + Int32.ofInt 1 = nI (q + 1) from nI_1 q]
        exact ih (q + 1) (by omega)
      by_cases z : ta s (q + 1) = 2
      · rw [z] at stp e1
        refine k_iload C dX5_before_5 rfl ?_
        refine k_iload_n C dX5_before_7 rfl ?_
        refine j_icmp_ge C 39 dX5_before_8 (by decide) (fun c8 => ?_) (fun c8 => ?_)
        · exact absurd c8 (nI_ge (a := q) (b := k) (by omega) (by omega)) -- stop
        · refine k_iload_n C dX5_before_11 rfl ?_
          refine k_aload_n C dX5_before_12 rfl ?_
          refine j_getr C fX5_33 rfl (by first | decide | omega) (by first | assumption | rfl) (congrFun hr _) dX5_before_13 ?_
          refine j_iconst (v := 3) C dX5_before_16 (by decide) ?_
          refine k_iload_n C dX5_before_17 rfl ?_
          refine j_imul C dX5_before_18 ?_
          refine k_iload C dX5_before_19 rfl ?_
          refine j_iadd C dX5_before_21 ?_
          refine j_zald C (by first | decide | omega) (by first | assumption | rfl) (ei) ((by omega)) (by decide) dX5_before_22 ?_
          refine j_if_eq C 30 dX5_before_23 (by decide) (fun c23 => ?_) (fun c23 => ?_)
          · rw [e1] at c23; exact absurd c23 (by decide) -- stop
          · refine j_iconst (v := 2) C dX5_before_26 (by decide) ?_
            refine j_goto C 31 dX5_before_27 (by decide) ?_
            exact stp
      · have z1 : ta s (q + 1) = 1 := by omega
        rw [z1] at stp e1
        refine k_iload C dX5_before_5 rfl ?_
        refine k_iload_n C dX5_before_7 rfl ?_
        refine j_icmp_ge C 39 dX5_before_8 (by decide) (fun c8 => ?_) (fun c8 => ?_)
        · exact absurd c8 (nI_ge (a := q) (b := k) (by omega) (by omega)) -- stop
        · refine k_iload_n C dX5_before_11 rfl ?_
          refine k_aload_n C dX5_before_12 rfl ?_
          refine j_getr C fX5_33 rfl (by first | decide | omega) (by first | assumption | rfl) (congrFun hr _) dX5_before_13 ?_
          refine j_iconst (v := 3) C dX5_before_16 (by decide) ?_
          refine k_iload_n C dX5_before_17 rfl ?_
          refine j_imul C dX5_before_18 ?_
          refine k_iload C dX5_before_19 rfl ?_
          refine j_iadd C dX5_before_21 ?_
          refine j_zald C (by first | decide | omega) (by first | assumption | rfl) (ei) ((by omega)) (by decide) dX5_before_22 ?_
          refine j_if_eq C 30 dX5_before_23 (by decide) (fun c23 => ?_) (fun c23 => ?_)
          · refine j_iconst (v := 1) C dX5_before_30 (by decide) ?_
            exact stp
          · exact absurd e1 c23 -- stop
  show J X w h 0 [(0, .ref (jad w 70)), (1, .int (nI x)), (2, .int (nI k))] []
  refine j_iconst (v := 0) C dX5_before_0 (by decide) ?_
  refine k_istore_n C dX5_before_1 (by rw [hnL]; decide) ?_
  refine j_iconst (v := 0) C dX5_before_2 (by decide) ?_
  refine k_istore C dX5_before_3 (by rw [hnL]; decide) ?_
  exact loop k 0 (by omega)
theorem r_words (hw : jok w) (hr : h.2.1 70 = rMap) {x s : Nat} (hx : x < 42) (h3 : ∀ j, ta s j ≠ 3) (hs : sgn s) (H : rSg h x s) : jM l w yX5_words cX5_words 2 (some .int) 1 [.ref (jad w 70), .int (nI x)] h (fun r h' => r = some (.int (nI (wb s 4))) ∧ h' = h) := by
  refine jM_of (by decide) hw (Nat.le_of_ble_eq_true rfl) ?_
  intro X C hl hR hnL hrt hE
  subst hl
  have C : jC X w cX5_words RX5 := C
  show J X w h 0 [(0, .ref (jad w 70)), (1, .int (nI x))] []
  refine k_aload_n C dX5_words_0 rfl ?_
  refine k_iload_n C dX5_words_1 rfl ?_
  refine k_aload_n C dX5_words_2 rfl ?_
  refine j_getr C fX5_30 rfl (by first | decide | omega) (by first | assumption | rfl) (congrFun hr _) dX5_words_3 ?_
  refine k_iload_n C dX5_words_6 rfl ?_
  refine j_iald C (by first | decide | omega) (by first | assumption | rfl) (rfl) (hx) (by decide) dX5_words_7 ?_
  rw [H.1]
  refine k_callV (k := 70) (ci := 5) (As := [.int (nI x), .int (nI (nTk s))]) C mX5_147 (r_before hw hr (s := s) (k := nTk s) hx (Nat.le_refl _) h3 H.2.1) jCl5.1 (by first | decide | omega) (by first | assumption | rfl) rfl rfl (Nat.le_of_ble_eq_true rfl) (jroom hR (by first | decide | omega) (by decide)) dX5_words_8 ?_
  rintro v9 h9 ⟨rfl, rfl⟩
  exact j_iret C hrt hE dX5_words_11 (⟨by rw [nTk_wb hs], rfl⟩)
/-- an event written down; the heap behind it -/
def emR (g : jH) (s : Nat) (x y : Int32) : jH := (up2 (up2 (up2 (up2 g.1 82 (780 + s) x) 83 (780 + s) y) 84 (780 + s) (g.1 70 31)) 70 21 (nI (s + 1)), g.2)
theorem r_emit1 (hw : jok w) (hd : g.1 70 7 = 1) (x y : Int32) : jM l w yX5_emit cX5_emit 3 none 0 [.ref (jad w 70), .int x, .int y] (pv g a gd ty) (fun r h' => r = none ∧ h' = pv g a gd ty) := by
  refine jM_of (by decide) hw (Nat.le_of_ble_eq_true rfl) ?_
  intro X C hl hR hnL hrt hE
  have C : jC X w cX5_emit RX5 := C
  have h7 : (pv g a gd ty).1 70 7 = 1 := by rw [pv_o (by omega)]; exact hd
  show J X w (pv g a gd ty) 0 [(0, .ref (jad w 70)), (1, .int x), (2, .int y)] []
  refine k_aload_n C dX5_emit_0 rfl ?_
  refine j_geti C fX5_135 rfl (by first | decide | omega) (by first | assumption | rfl) dX5_emit_1 ?_
  refine j_if_eq C 8 dX5_emit_4 (by decide) (fun c4 => ?_) (fun c4 => ?_)
  · rw [h7] at c4; exact absurd c4 (by decide) -- stop
  · exact j_vret C hrt hE dX5_emit_7 (⟨rfl, rfl⟩)
theorem r_emit0 (hw : jok w) (hr : g.2.1 70 = rMap) (hd : g.1 70 7 = 0) {s : Nat} (hs : g.1 70 21 = nI s) (hs2 : s < 130) (x y : Int32) : jM l w yX5_emit cX5_emit 3 none 0 [.ref (jad w 70), .int x, .int y] (pv g a gd ty) (fun r h' => r = none ∧ h' = pv (emR g s x y) a gd ty) := by
  refine jM_of (by decide) hw (Nat.le_of_ble_eq_true rfl) ?_
  intro X C hl hR hnL hrt hE
  have C : jC X w cX5_emit RX5 := C
  have h7 : (pv g a gd ty).1 70 7 = 0 := by rw [pv_o (by omega)]; exact hd
  have ei : ∀ h' : jH, h'.1 70 21 = nI s → (780 : Int32) + h'.1 70 21 = nI (780 + s) := fun h' e => by rw [e, show (780 : Int32) = nI 780 from rfl, nI_add]
  show J X w (pv g a gd ty) 0 [(0, .ref (jad w 70)), (1, .int x), (2, .int y)] []
  refine k_aload_n C dX5_emit_0 rfl ?_
  refine j_geti C fX5_135 rfl (by first | decide | omega) (by first | assumption | rfl) dX5_emit_1 ?_
  refine j_if_eq C 8 dX5_emit_4 (by decide) (fun c4 => ?_) (fun c4 => ?_)
  · refine k_aload_n C dX5_emit_8 rfl ?_
    refine j_getr C fX5_45 rfl (by first | decide | omega) (by first | assumption | rfl) (congrFun hr _) dX5_emit_9 ?_
    refine j_sipush (v := 780) C dX5_emit_12 (by decide) ?_
    refine k_aload_n C dX5_emit_15 rfl ?_
    refine j_geti C fX5_138 rfl (by first | decide | omega) (by first | assumption | rfl) dX5_emit_16 ?_
    refine j_iadd C dX5_emit_19 ?_
    refine k_iload_n C dX5_emit_20 rfl ?_
    refine j_iast C (by first | decide | omega) (by first | assumption | rfl) (ei (pv g a gd ty) (by rw [pv_o (by omega)]; exact hs)) ((by omega)) (by decide) dX5_emit_21 ?_
    refine jeqh (show _ = pv (up2 g.1 82 (780 + s) x, g.2) a gd ty from pv_put (by omega)) ?_
    refine k_aload_n C dX5_emit_22 rfl ?_
    refine j_getr C fX5_48 rfl (by first | decide | omega) (by first | assumption | rfl) (congrFun hr _) dX5_emit_23 ?_
    refine j_sipush (v := 780) C dX5_emit_26 (by decide) ?_
    refine k_aload_n C dX5_emit_29 rfl ?_
    refine j_geti C fX5_138 rfl (by first | decide | omega) (by first | assumption | rfl) dX5_emit_30 ?_
    refine j_iadd C dX5_emit_33 ?_
    refine k_iload_n C dX5_emit_34 rfl ?_
    refine j_iast C (by first | decide | omega) (by first | assumption | rfl) (ei (pv (up2 g.1 82 (780 + s) x, g.2) a gd ty) (by rw [pv_o (by omega)]; dsimp only; rw [up2_n (by omega)]; exact hs)) ((by omega)) (by decide) dX5_emit_35 ?_
    refine jeqh (show _ = pv (up2 (up2 g.1 82 (780 + s) x) 83 (780 + s) y, g.2) a gd ty from pv_put (by omega)) ?_
    refine k_aload_n C dX5_emit_36 rfl ?_
    refine j_getr C fX5_51 rfl (by first | decide | omega) (by first | assumption | rfl) (congrFun hr _) dX5_emit_37 ?_
    refine j_sipush (v := 780) C dX5_emit_40 (by decide) ?_
    refine k_aload_n C dX5_emit_43 rfl ?_
    refine j_geti C fX5_138 rfl (by first | decide | omega) (by first | assumption | rfl) dX5_emit_44 ?_
    refine j_iadd C dX5_emit_47 ?_
    refine k_aload_n C dX5_emit_48 rfl ?_
    refine j_geti C fX5_141 rfl (by first | decide | omega) (by first | assumption | rfl) dX5_emit_49 ?_
    rw [show (pv (up2 (up2 g.1 82 (780 + s) x) 83 (780 + s) y, g.2) a gd ty).1 70 31 = g.1 70 31 from by rw [pv_o (by omega)]; dsimp only; rw [up2_n (by omega), up2_n (by omega)]]
    refine j_iast C (by first | decide | omega) (by first | assumption | rfl) (ei (pv (up2 (up2 g.1 82 (780 + s) x) 83 (780 + s) y, g.2) a gd ty) (by rw [pv_o (by omega)]; dsimp only; rw [up2_n (by omega), up2_n (by omega)]; exact hs)) ((by omega)) (by decide) dX5_emit_52 ?_
    refine jeqh (show _ = pv (up2 (up2 (up2 g.1 82 (780 + s) x) 83 (780 + s) y) 84 (780 + s) (g.1 70 31), g.2) a gd ty from pv_put (by omega)) ?_
    refine k_aload_n C dX5_emit_53 rfl ?_
    refine j_dup C dX5_emit_54 rfl ?_
    refine j_geti C fX5_138 rfl (by first | decide | omega) (by first | assumption | rfl) dX5_emit_55 ?_
    refine j_iconst (v := 1) C dX5_emit_58 (by decide) ?_
    refine j_iadd C dX5_emit_59 ?_
    rw [show (pv (up2 (up2 (up2 g.1 82 (780 + s) x) 83 (780 + s) y) 84 (780 + s) (g.1 70 31), g.2) a gd ty).1 70 21 = nI s from by rw [pv_o (by omega)]; dsimp only; rw [up2_n (by omega), up2_n (by omega), up2_n (by omega)]; exact hs, nI_1]
    refine j_puti C fX5_138 rfl rfl (by first | decide | omega) (by first | assumption | rfl) dX5_emit_60 ?_
    refine jeqh (show _ = pv (emR g s x y) a gd ty from pv_put (by omega)) ?_
    exact j_vret C hrt hE dX5_emit_63 (⟨rfl, rfl⟩)
  · exact absurd h7 c4 -- stop
end R2
