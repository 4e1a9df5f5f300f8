def bdP (h0 : jH) (r : Option Value) (h' : jH) : Prop := ∃ (rb : Bool) (g' : jH) (a' : Nat) (ty' : Bool), r = some (.int (bI rb)) ∧ h' = pv g' a' false ty' ∧ a' ≤ 200 ∧ xZ h0 g'
section XD
variable {l : Launch} {w : jW} {h h0 g1 gE g g' : jH} {t : Nat → Nat} {n : Nat} {dc gd ty ip : Bool} {H : Nat → Prop} {L c a s M ow nm k : Nat} {q qs : TA} {f f2 : CL} {e : List Ev} {tb : List HD} {x sg0 sg : Nat}
theorem r_bF_num (hw : jok w) (T : xT h0 t n dc) (hn : n ≤ 120) (hd9 : 48 ≤ pek t n a ∧ pek t n a ≤ 57) (K : xK h0 g dc H L c a q s ty) : jM l w yX5_beginFactor cX5_beginFactor 3 (some .boolean) 4 [.ref (jad w 70)] (pv g a true ty) (fun r h' => if 48 ≤ pek t n (nmb t n 4 a 0).1 ∧ pek t n (nmb t n 4 a 0).1 ≤ 57 then bdP h0 r h' else r = some (.int 1) ∧ ∃ g' ty' s' ip', h' = pv g' (nmb t n 4 a 0).1 true ty' ∧ xW h0 g g' dc H L c (nmb t n 4 a 0).1 q (fun _ hd => some (1, [(0, (nmb t n 4 a 0).2, hd, 0)], 0)) s' ty' ip') := by
  refine jM_of (by decide) hw (Nat.le_of_ble_eq_true rfl) ?_
  intro X C hl hR hnL hrt hE
  subst hl
  have C : jC X w cX5_beginFactor RX5 := C
  obtain ⟨hr, ht, hd⟩ := xT_g T K.1
  have bd : decide (48 ≤ pek t n a ∧ pek t n a ≤ 57) = true := decide_eq_true hd9
  have han : a < n := pek_gt (t := t) (c := 0) (by have := hd9.1; omega)
  have hlt : a < (nmb t n 4 a 0).1 := (nmb_lt (t := t) (n := n) (v := 0) hd9 3).1
  have fin : ∀ h9 : jH, (if 48 ≤ pek t n (nmb t n 4 a 0).1 ∧ pek t n (nmb t n 4 a 0).1 ≤ 57 then ∃ g' a' ty', h9 = pv g' a' false ty' ∧ a' ≤ 200 ∧ xZ h0 g' else h9 = pv (leR dc g s 0 (nI (nmb t n 4 a 0).2) 0) (nmb t n 4 a 0).1 true ty) → (if 48 ≤ pek t n (nmb t n 4 a 0).1 ∧ pek t n (nmb t n 4 a 0).1 ≤ 57 then bdP h0 (some (.int 1)) h9 else (some (Value.int 1) : Option Value) = some (.int 1) ∧ ∃ g' ty' s' ip', h9 = pv g' (nmb t n 4 a 0).1 true ty' ∧ xW h0 g g' dc H L c (nmb t n 4 a 0).1 q (fun _ hd => some (1, [(0, (nmb t n 4 a 0).2, hd, 0)], 0)) s' ty' ip') := by
    intro h9 p9
    by_cases z : 48 ≤ pek t n (nmb t n 4 a 0).1 ∧ pek t n (nmb t n 4 a 0).1 ≤ 57
    · rw [if_pos z] at p9 ⊢
      obtain ⟨g', a', ty', p1, p2, p3⟩ := p9
      exact ⟨true, g', a', ty', rfl, p1, p2, p3⟩
    · rw [if_neg z] at p9 ⊢
      exact ⟨rfl, _, _, _, _, p9, xW_leaf (k := 0) (y := 1) (by omega) (by omega) (Or.inl rfl) (fun _ _ => rfl) K⟩
  show J X w (pv g a true ty) 0 [(0, .ref (jad w 70))] []
  refine k_aload_n C dX5_beginFactor_0 rfl ?_
  refine k_callV (k := 70) (ci := 5) (As := []) C mX5_154 (r_isDigit hw hr ht (by omega)) jCl5.1 (by first | decide | omega) (by first | assumption | rfl) rfl rfl (Nat.le_of_ble_eq_true rfl) (jroom hR (by first | decide | omega) (by decide)) dX5_beginFactor_1 ?_
  rintro v9 h9 ⟨rfl, rfl⟩
  rw [bd]
  refine j_if_eq C 13 dX5_beginFactor_4 (by decide) (fun c4 => ?_) (fun c4 => ?_)
  · exact absurd c4 (by decide) -- stop
  · refine k_aload_n C dX5_beginFactor_7 rfl ?_
    refine k_callV (k := 70) (ci := 5) (As := []) C mX5_191 (r_readNumber hw T hn hd9 K) jCl5.1 (by first | decide | omega) (by first | assumption | rfl) rfl rfl (Nat.le_of_ble_eq_true rfl) (jroom hR (by first | decide | omega) (by decide)) dX5_beginFactor_8 ?_
    rintro v9 h9 ⟨rfl, p9⟩
    refine j_iconst (v := 1) C dX5_beginFactor_11 (by decide) ?_
    exact j_zret C hrt (rfl) hE dX5_beginFactor_12 (fin _ p9)
theorem r_bF_par (hw : jok w) (T : xT h0 t n dc) (S : xS h0 tb x sg0) (hsg : dc = false → sg = sg0) (hn : n ≤ 120) (h36 : pek t n a = 36) (K : xK h0 g dc H L c a q s ty) : jM l w yX5_beginFactor cX5_beginFactor 3 (some .boolean) 4 [.ref (jad w 70)] (pv g a true ty) (fun r h' => if 49 ≤ pek t n (a + 1) ∧ pek t n (a + 1) ≤ 51 then r = some (.int 1) ∧ ∃ g' ty' s' ip', h' = pv g' (a + 2) true ty' ∧ xW h0 g g' dc H L c (a + 2) q (parC sg (pek t n (a + 1) - 48)) s' ty' ip' else bdP h0 r h') := by
  refine jM_of (by decide) hw (Nat.le_of_ble_eq_true rfl) ?_
  intro X C hl hR hnL hrt hE
  subst hl
  have C : jC X w cX5_beginFactor RX5 := C
  obtain ⟨hr, ht, hd⟩ := xT_g T K.1
  have bd : decide (48 ≤ pek t n a ∧ pek t n a ≤ 57) = false := decide_eq_false (by omega)
  have b36 : (pek t n a == 36) = true := by simp [h36]
  have han : a < n := pek_in h36 (by decide)
  have K1 : xK h0 g dc H L c (a + 1) q s ty := xK_mono (by omega) (by omega) K
  have fin : ∀ h9 : jH, (∃ g' a' ty', a' ≤ 200 ∧ if 49 ≤ pek t n (a + 1) ∧ pek t n (a + 1) ≤ 51 then h9 = pv g' (a + 1 + 1) true ty' ∧ ∃ s' ip', xW h0 g g' dc H L c (a + 1 + 1) q (parC sg (pek t n (a + 1) - 48)) s' ty' ip' else h9 = pv g' a' false ty' ∧ xZ h0 g') → (if 49 ≤ pek t n (a + 1) ∧ pek t n (a + 1) ≤ 51 then (some (Value.int 1) : Option Value) = some (.int 1) ∧ ∃ g' ty' s' ip', h9 = pv g' (a + 2) true ty' ∧ xW h0 g g' dc H L c (a + 2) q (parC sg (pek t n (a + 1) - 48)) s' ty' ip' else bdP h0 (some (.int 1)) h9) := by
    rintro h9 ⟨g', a', ty', ha', p9⟩
    by_cases z : 49 ≤ pek t n (a + 1) ∧ pek t n (a + 1) ≤ 51
    · rw [if_pos z] at p9 ⊢
      obtain ⟨p1, s', ip', p2⟩ := p9
      exact ⟨rfl, g', ty', s', ip', p1, p2⟩
    · rw [if_neg z] at p9 ⊢
      exact ⟨true, g', a', ty', rfl, p9.1, ha', p9.2⟩
  show J X w (pv g a true ty) 0 [(0, .ref (jad w 70))] []
  refine k_aload_n C dX5_beginFactor_0 rfl ?_
  refine k_callV (k := 70) (ci := 5) (As := []) C mX5_154 (r_isDigit hw hr ht (by omega)) jCl5.1 (by first | decide | omega) (by first | assumption | rfl) rfl rfl (Nat.le_of_ble_eq_true rfl) (jroom hR (by first | decide | omega) (by decide)) dX5_beginFactor_1 ?_
  rintro v9 h9 ⟨rfl, rfl⟩
  rw [bd]
  refine j_if_eq C 13 dX5_beginFactor_4 (by decide) (fun c4 => ?_) (fun c4 => ?_)
  · refine k_aload_n C dX5_beginFactor_13 rfl ?_
    refine j_bipush (v := 36) C dX5_beginFactor_14 (by decide) ?_
    refine k_callV (k := 70) (ci := 5) (As := [.int (nI 36)]) C mX5_127 (r_pass hw hr ht (by omega) (ch := 36) (by decide)) jCl5.1 (by first | decide | omega) (by first | assumption | rfl) rfl rfl (Nat.le_of_ble_eq_true rfl) (jroom hR (by first | decide | omega) (by decide)) dX5_beginFactor_16 ?_
    rintro v9 h9 ⟨rfl, rfl⟩
    rw [b36, if_pos h36]
    refine j_if_eq C 28 dX5_beginFactor_19 (by decide) (fun c19 => ?_) (fun c19 => ?_)
    · exact absurd c19 (by decide) -- stop
    · refine k_aload_n C dX5_beginFactor_22 rfl ?_
      refine k_callV (k := 70) (ci := 5) (As := []) C mX5_194 (r_readParameter hw T S hsg hn (by omega) K1) jCl5.1 (by first | decide | omega) (by first | assumption | rfl) rfl rfl (Nat.le_of_ble_eq_true rfl) (jroom hR (by first | decide | omega) (by decide)) dX5_beginFactor_23 ?_
      rintro v9 h9 ⟨rfl, p9⟩
      refine j_iconst (v := 1) C dX5_beginFactor_26 (by decide) ?_
      exact j_zret C hrt (rfl) hE dX5_beginFactor_27 (fin _ p9)
  · exact absurd rfl c4 -- stop
/-- neither a number nor a parameter -/
theorem bF_low {X : jX} (hw : jok w) (C : jC X w cX5_beginFactor RX5) (hR : jXR X = jrm 4) (T : xT h0 t n dc) (hn : n ≤ 120) (han : a ≤ n) (hd9 : ¬ (48 ≤ pek t n a ∧ pek t n a ≤ 57)) (h36 : pek t n a ≠ 36) (K : xK h0 g dc H L c a q s ty) (kk : J X w (pv g a true ty) 28 [(0, .ref (jad w 70))] []) : J X w (pv g a true ty) 0 [(0, .ref (jad w 70))] [] := by
  obtain ⟨hr, ht, hd⟩ := xT_g T K.1
  have bd : decide (48 ≤ pek t n a ∧ pek t n a ≤ 57) = false := decide_eq_false hd9
  have b36 : (pek t n a == 36) = false := by simp [h36]
  refine k_aload_n C dX5_beginFactor_0 rfl ?_
  refine k_callV (k := 70) (ci := 5) (As := []) C mX5_154 (r_isDigit hw hr ht (by omega)) jCl5.1 (by first | decide | omega) (by first | assumption | rfl) rfl rfl (Nat.le_of_ble_eq_true rfl) (jroom hR (by first | decide | omega) (by decide)) dX5_beginFactor_1 ?_
  rintro v9 h9 ⟨rfl, rfl⟩
  rw [bd]
  refine j_if_eq C 13 dX5_beginFactor_4 (by decide) (fun c4 => ?_) (fun c4 => ?_)
  · refine k_aload_n C dX5_beginFactor_13 rfl ?_
    refine j_bipush (v := 36) C dX5_beginFactor_14 (by decide) ?_
    refine k_callV (k := 70) (ci := 5) (As := [.int (nI 36)]) C mX5_127 (r_pass hw hr ht (by omega) (ch := 36) (by decide)) jCl5.1 (by first | decide | omega) (by first | assumption | rfl) rfl rfl (Nat.le_of_ble_eq_true rfl) (jroom hR (by first | decide | omega) (by decide)) dX5_beginFactor_16 ?_
    rintro v9 h9 ⟨rfl, rfl⟩
    rw [b36, if_neg h36]
    refine j_if_eq C 28 dX5_beginFactor_19 (by decide) (fun c19 => ?_) (fun c19 => ?_)
    · exact kk
    · exact absurd rfl c19 -- stop
  · exact absurd rfl c4 -- stop
theorem r_bF_open (hw : jok w) (T : xT h0 t n dc) (hn : n ≤ 120) {kd : Nat} (hL : L ≤ 8) (hkd : (pek t n a = 40 ∧ kd = 1) ∨ (pek t n a = 123 ∧ kd = 2) ∨ (pek t n a = 91 ∧ kd = 3)) (K : xK h0 g dc H L c a q s ty) : jM l w yX5_beginFactor cX5_beginFactor 3 (some .boolean) 4 [.ref (jad w 70)] (pv g a true ty) (fun r h' => if L + 1 < 9 then r = some (.int 0) ∧ h' = pv (opn g (L + 1) (nI kd)) (a + 1) true ty else bdP h0 r h') := by
  refine jM_of (by decide) hw (Nat.le_of_ble_eq_true rfl) ?_
  intro X C hl hR hnL hrt hE
  subst hl
  have C : jC X w cX5_beginFactor RX5 := C
  have sa := K.2.2.2.1
  obtain ⟨hr, ht, hd⟩ := xT_g T K.1
  have hp := pek_le ht a
  have han : a < n := pek_gt (t := t) (c := 0) (by omega)
  show J X w (pv g a true ty) 0 [(0, .ref (jad w 70))] []
  refine bF_low hw C hR T hn (by omega) (by omega) (by omega) K ?_
  have ne : ∀ m : Nat, m < 128 → pek t n a ≠ m → ¬ nI (pek t n a) = nI m := fun m hm z y => z ((nI_eq (by omega) (by omega)).mp y)
  have fin : J X w (pv g a true ty) 115 [(0, .ref (jad w 70)), (1, .int 1)] [.int (nI kd), .ref (jad w 70)] := by
    by_cases ok : L + 1 < 9
    · skip
      refine k_callV (k := 70) (ci := 5) (As := [.int (nI kd)]) C mX5_179 (r_opened hw hr K.2.1 (by omega) (nI kd)) jCl5.1 (by first | decide | omega) (by first | assumption | rfl) rfl rfl (Nat.le_of_ble_eq_true rfl) (jroom hR (by first | decide | omega) (by decide)) dX5_beginFactor_115 ?_
      rintro v9 h9 ⟨rfl, rfl⟩
      rw [if_pos ⟨rfl, ok⟩]
      refine k_aload_n C dX5_beginFactor_118 rfl ?_
      refine j_dup C dX5_beginFactor_119 rfl ?_
      refine j_geti C fX5_113 rfl (by first | decide | omega) (by first | assumption | rfl) dX5_beginFactor_120 ?_
      refine j_iconst (v := 1) C dX5_beginFactor_123 (by decide) ?_
      refine j_iadd C dX5_beginFactor_124 ?_
      rw [pv_4, nI_1]
      refine j_puti C fX5_113 rfl rfl (by first | decide | omega) (by first | assumption | rfl) dX5_beginFactor_125 ?_
      refine jeqh pv_at ?_
      refine j_iconst (v := 0) C dX5_beginFactor_128 (by decide) ?_
      exact j_zret C hrt (rfl) hE dX5_beginFactor_129 (by rw [if_pos ok]; exact ⟨rfl, rfl⟩)
    · skip
      refine k_callV (k := 70) (ci := 5) (As := [.int (nI kd)]) C mX5_179 (r_opened hw hr K.2.1 (by omega) (nI kd)) jCl5.1 (by first | decide | omega) (by first | assumption | rfl) rfl rfl (Nat.le_of_ble_eq_true rfl) (jroom hR (by first | decide | omega) (by decide)) dX5_beginFactor_115 ?_
      rintro v9 h9 ⟨rfl, rfl⟩
      rw [if_neg (fun z => ok z.2)]
      refine k_aload_n C dX5_beginFactor_118 rfl ?_
      refine j_dup C dX5_beginFactor_119 rfl ?_
      refine j_geti C fX5_113 rfl (by first | decide | omega) (by first | assumption | rfl) dX5_beginFactor_120 ?_
      refine j_iconst (v := 1) C dX5_beginFactor_123 (by decide) ?_
      refine j_iadd C dX5_beginFactor_124 ?_
      rw [pv_4, nI_1]
      refine j_puti C fX5_113 rfl rfl (by first | decide | omega) (by first | assumption | rfl) dX5_beginFactor_125 ?_
      refine jeqh pv_at ?_
      refine j_iconst (v := 0) C dX5_beginFactor_128 (by decide) ?_
      exact j_zret C hrt (rfl) hE dX5_beginFactor_129 (by rw [if_neg ok]; exact ⟨false, _, _, _, rfl, rfl, by omega, K.1, s, K.2.2.1, by omega⟩)
  rcases hkd with ⟨hc, rfl⟩ | ⟨hc, rfl⟩ | ⟨hc, rfl⟩
  · have n1 : nI (pek t n a) = 40 := by rw [hc]; rfl
    refine k_aload_n C dX5_beginFactor_28 rfl ?_
    refine k_callV (k := 70) (ci := 5) (As := []) C mX5_123 (r_look hw hr ht (by omega)) jCl5.1 (by first | decide | omega) (by first | assumption | rfl) rfl rfl (Nat.le_of_ble_eq_true rfl) (jroom hR (by first | decide | omega) (by decide)) dX5_beginFactor_29 ?_
    rintro v9 h9 ⟨rfl, rfl⟩
    refine j_bipush (v := 40) C dX5_beginFactor_32 (by decide) ?_
    refine j_icmp_eq C 55 dX5_beginFactor_34 (by decide) (fun c34 => ?_) (fun c34 => ?_)
    · refine j_iconst (v := 1) C dX5_beginFactor_55 (by decide) ?_
      refine j_goto C 60 dX5_beginFactor_56 (by decide) ?_
      refine k_istore_n C dX5_beginFactor_60 (by rw [hnL]; decide) ?_
      refine k_iload_n C dX5_beginFactor_61 rfl ?_
      refine j_if_ne C 87 dX5_beginFactor_62 (by decide) (fun c62 => ?_) (fun c62 => ?_)
      · refine k_aload_n C dX5_beginFactor_87 rfl ?_
        refine k_aload_n C dX5_beginFactor_88 rfl ?_
        refine k_callV (k := 70) (ci := 5) (As := []) C mX5_123 (r_look hw hr ht (by omega)) jCl5.1 (by first | decide | omega) (by first | assumption | rfl) rfl rfl (Nat.le_of_ble_eq_true rfl) (jroom hR (by first | decide | omega) (by decide)) dX5_beginFactor_89 ?_
        rintro v9 h9 ⟨rfl, rfl⟩
        refine j_bipush (v := 40) C dX5_beginFactor_92 (by decide) ?_
        refine j_icmp_ne C 101 dX5_beginFactor_94 (by decide) (fun c94 => ?_) (fun c94 => ?_)
        · exact absurd n1 c94 -- stop
        · refine j_iconst (v := 1) C dX5_beginFactor_97 (by decide) ?_
          refine j_goto C 115 dX5_beginFactor_98 (by decide) ?_
          exact fin
      · exact absurd (by first | exact c62 | exact Classical.not_not.mp c62) (by decide) -- stop
    · exact absurd n1 c34 -- stop
  · have n1 : nI (pek t n a) = 123 := by rw [hc]; rfl
    have n2 : ¬ nI (pek t n a) = 40 := by rw [hc]; decide
    refine k_aload_n C dX5_beginFactor_28 rfl ?_
    refine k_callV (k := 70) (ci := 5) (As := []) C mX5_123 (r_look hw hr ht (by omega)) jCl5.1 (by first | decide | omega) (by first | assumption | rfl) rfl rfl (Nat.le_of_ble_eq_true rfl) (jroom hR (by first | decide | omega) (by decide)) dX5_beginFactor_29 ?_
    rintro v9 h9 ⟨rfl, rfl⟩
    refine j_bipush (v := 40) C dX5_beginFactor_32 (by decide) ?_
    refine j_icmp_eq C 55 dX5_beginFactor_34 (by decide) (fun c34 => ?_) (fun c34 => ?_)
    · exact absurd (by first | exact c34 | exact Classical.not_not.mp c34) n2 -- stop
    · refine k_aload_n C dX5_beginFactor_37 rfl ?_
      refine k_callV (k := 70) (ci := 5) (As := []) C mX5_123 (r_look hw hr ht (by omega)) jCl5.1 (by first | decide | omega) (by first | assumption | rfl) rfl rfl (Nat.le_of_ble_eq_true rfl) (jroom hR (by first | decide | omega) (by decide)) dX5_beginFactor_38 ?_
      rintro v9 h9 ⟨rfl, rfl⟩
      refine j_bipush (v := 123) C dX5_beginFactor_41 (by decide) ?_
      refine j_icmp_eq C 55 dX5_beginFactor_43 (by decide) (fun c43 => ?_) (fun c43 => ?_)
      · refine j_iconst (v := 1) C dX5_beginFactor_55 (by decide) ?_
        refine j_goto C 60 dX5_beginFactor_56 (by decide) ?_
        refine k_istore_n C dX5_beginFactor_60 (by rw [hnL]; decide) ?_
        refine k_iload_n C dX5_beginFactor_61 rfl ?_
        refine j_if_ne C 87 dX5_beginFactor_62 (by decide) (fun c62 => ?_) (fun c62 => ?_)
        · refine k_aload_n C dX5_beginFactor_87 rfl ?_
          refine k_aload_n C dX5_beginFactor_88 rfl ?_
          refine k_callV (k := 70) (ci := 5) (As := []) C mX5_123 (r_look hw hr ht (by omega)) jCl5.1 (by first | decide | omega) (by first | assumption | rfl) rfl rfl (Nat.le_of_ble_eq_true rfl) (jroom hR (by first | decide | omega) (by decide)) dX5_beginFactor_89 ?_
          rintro v9 h9 ⟨rfl, rfl⟩
          refine j_bipush (v := 40) C dX5_beginFactor_92 (by decide) ?_
          refine j_icmp_ne C 101 dX5_beginFactor_94 (by decide) (fun c94 => ?_) (fun c94 => ?_)
          · refine k_aload_n C dX5_beginFactor_101 rfl ?_
            refine k_callV (k := 70) (ci := 5) (As := []) C mX5_123 (r_look hw hr ht (by omega)) jCl5.1 (by first | decide | omega) (by first | assumption | rfl) rfl rfl (Nat.le_of_ble_eq_true rfl) (jroom hR (by first | decide | omega) (by decide)) dX5_beginFactor_102 ?_
            rintro v9 h9 ⟨rfl, rfl⟩
            refine j_bipush (v := 123) C dX5_beginFactor_105 (by decide) ?_
            refine j_icmp_ne C 114 dX5_beginFactor_107 (by decide) (fun c107 => ?_) (fun c107 => ?_)
            · exact absurd n1 c107 -- stop
            · refine j_iconst (v := 2) C dX5_beginFactor_110 (by decide) ?_
              refine j_goto C 115 dX5_beginFactor_111 (by decide) ?_
              exact fin
          · exact absurd (by first | exact c94 | exact Classical.not_not.mp c94) n2 -- stop
        · exact absurd (by first | exact c62 | exact Classical.not_not.mp c62) (by decide) -- stop
      · exact absurd n1 c43 -- stop
  · have n1 : nI (pek t n a) = 91 := by rw [hc]; rfl
    have n2 : ¬ nI (pek t n a) = 40 := by rw [hc]; decide
    have n3 : ¬ nI (pek t n a) = 123 := by rw [hc]; decide
    refine k_aload_n C dX5_beginFactor_28 rfl ?_
    refine k_callV (k := 70) (ci := 5) (As := []) C mX5_123 (r_look hw hr ht (by omega)) jCl5.1 (by first | decide | omega) (by first | assumption | rfl) rfl rfl (Nat.le_of_ble_eq_true rfl) (jroom hR (by first | decide | omega) (by decide)) dX5_beginFactor_29 ?_
    rintro v9 h9 ⟨rfl, rfl⟩
    refine j_bipush (v := 40) C dX5_beginFactor_32 (by decide) ?_
    refine j_icmp_eq C 55 dX5_beginFactor_34 (by decide) (fun c34 => ?_) (fun c34 => ?_)
    · exact absurd (by first | exact c34 | exact Classical.not_not.mp c34) n2 -- stop
    · refine k_aload_n C dX5_beginFactor_37 rfl ?_
      refine k_callV (k := 70) (ci := 5) (As := []) C mX5_123 (r_look hw hr ht (by omega)) jCl5.1 (by first | decide | omega) (by first | assumption | rfl) rfl rfl (Nat.le_of_ble_eq_true rfl) (jroom hR (by first | decide | omega) (by decide)) dX5_beginFactor_38 ?_
      rintro v9 h9 ⟨rfl, rfl⟩
      refine j_bipush (v := 123) C dX5_beginFactor_41 (by decide) ?_
      refine j_icmp_eq C 55 dX5_beginFactor_43 (by decide) (fun c43 => ?_) (fun c43 => ?_)
      · exact absurd (by first | exact c43 | exact Classical.not_not.mp c43) n3 -- stop
      · refine k_aload_n C dX5_beginFactor_46 rfl ?_
        refine k_callV (k := 70) (ci := 5) (As := []) C mX5_123 (r_look hw hr ht (by omega)) jCl5.1 (by first | decide | omega) (by first | assumption | rfl) rfl rfl (Nat.le_of_ble_eq_true rfl) (jroom hR (by first | decide | omega) (by decide)) dX5_beginFactor_47 ?_
        rintro v9 h9 ⟨rfl, rfl⟩
        refine j_bipush (v := 91) C dX5_beginFactor_50 (by decide) ?_
        refine j_icmp_ne C 59 dX5_beginFactor_52 (by decide) (fun c52 => ?_) (fun c52 => ?_)
        · exact absurd n1 c52 -- stop
        · refine j_iconst (v := 1) C dX5_beginFactor_55 (by decide) ?_
          refine j_goto C 60 dX5_beginFactor_56 (by decide) ?_
          refine k_istore_n C dX5_beginFactor_60 (by rw [hnL]; decide) ?_
          refine k_iload_n C dX5_beginFactor_61 rfl ?_
          refine j_if_ne C 87 dX5_beginFactor_62 (by decide) (fun c62 => ?_) (fun c62 => ?_)
          · refine k_aload_n C dX5_beginFactor_87 rfl ?_
            refine k_aload_n C dX5_beginFactor_88 rfl ?_
            refine k_callV (k := 70) (ci := 5) (As := []) C mX5_123 (r_look hw hr ht (by omega)) jCl5.1 (by first | decide | omega) (by first | assumption | rfl) rfl rfl (Nat.le_of_ble_eq_true rfl) (jroom hR (by first | decide | omega) (by decide)) dX5_beginFactor_89 ?_
            rintro v9 h9 ⟨rfl, rfl⟩
            refine j_bipush (v := 40) C dX5_beginFactor_92 (by decide) ?_
            refine j_icmp_ne C 101 dX5_beginFactor_94 (by decide) (fun c94 => ?_) (fun c94 => ?_)
            · refine k_aload_n C dX5_beginFactor_101 rfl ?_
              refine k_callV (k := 70) (ci := 5) (As := []) C mX5_123 (r_look hw hr ht (by omega)) jCl5.1 (by first | decide | omega) (by first | assumption | rfl) rfl rfl (Nat.le_of_ble_eq_true rfl) (jroom hR (by first | decide | omega) (by decide)) dX5_beginFactor_102 ?_
              rintro v9 h9 ⟨rfl, rfl⟩
              refine j_bipush (v := 123) C dX5_beginFactor_105 (by decide) ?_
              refine j_icmp_ne C 114 dX5_beginFactor_107 (by decide) (fun c107 => ?_) (fun c107 => ?_)
              · refine j_iconst (v := 3) C dX5_beginFactor_114 (by decide) ?_
                exact fin
              · exact absurd (by first | exact c107 | exact Classical.not_not.mp c107) n3 -- stop
            · exact absurd (by first | exact c94 | exact Classical.not_not.mp c94) n2 -- stop
          · exact absurd (by first | exact c62 | exact Classical.not_not.mp c62) (by decide) -- stop
def bcP (h0 g : jH) (t : Nat → Nat) (n a L s : Nat) (dc ty : Bool) (tb : List HD) (r : Option Value) (h' : jH) : Prop := match clP t n a with
  | none => bdP h0 r h'
  | some z => if L + 1 < 9 then (if pek t n z.2.2 = 41 then r = some (.int 1) ∧ h' = pv (ecR dc (rcR g (L + 1) (nI (26 * z.1 + z.2.1))) s (L + 1) (nI (26 * z.1 + z.2.1)) (bI ((lix tb z.1 (nI z.2.1) tb.length).isSome && ta (ctI tb (lix tb z.1 (nI z.2.1) tb.length)) 0 == 2))) (z.2.2 + 1) true ((ty && (dc || (lix tb z.1 (nI z.2.1) tb.length).isSome)) && (dc || ((lix tb z.1 (nI z.2.1) tb.length).isSome && decide (0 = nTk (ctI tb (lix tb z.1 (nI z.2.1) tb.length)))))) else r = some (.int 0) ∧ h' = pv (rcR g (L + 1) (nI (26 * z.1 + z.2.1))) z.2.2 true (ty && (dc || (lix tb z.1 (nI z.2.1) tb.length).isSome))) else bdP h0 r h'
theorem clP_le {z : Nat × Nat × Nat} (h : clP t n a = some z) : z.1 ≤ 6 ∧ z.2.1 < 26 ∧ a + 2 ≤ z.2.2 ∧ z.2.2 ≤ n := by
  unfold clP at h
  split at h
  · next c1 =>
    split at h
    · next c2 =>
      simp only [Option.some.injEq] at h
      rw [← h]
      have := pek_in c2 (by decide)
      dsimp only
      omega
    · cases h
  · split at h
    · next c1 =>
      split at h
      · next c2 =>
        simp only [Option.some.injEq] at h
        rw [← h]
        have := pek_in c2.2.2 (by decide)
        dsimp only
        omega
      · cases h
    · cases h
theorem r_bF_call (hw : jok w) (T : xT h0 t n dc) (S : xS h0 tb x sg0) (hn : n ≤ 120) (han : a ≤ n) (hL : L ≤ 8) (hd9 : ¬ (48 ≤ pek t n a ∧ pek t n a ≤ 57)) (h36 : pek t n a ≠ 36) (h40 : pek t n a ≠ 40) (h123 : pek t n a ≠ 123) (h91 : pek t n a ≠ 91) (K : xK h0 g dc H L c a q s ty) : jM l w yX5_beginFactor cX5_beginFactor 3 (some .boolean) 4 [.ref (jad w 70)] (pv g a true ty) (bcP h0 g t n a L s dc ty tb) := by
  refine jM_of (by decide) hw (Nat.le_of_ble_eq_true rfl) ?_
  intro X C hl hR hnL hrt hE
  subst hl
  have C : jC X w cX5_beginFactor RX5 := C
  have sa := K.2.2.2.1
  obtain ⟨hr, ht, hd⟩ := xT_g T K.1
  obtain ⟨i22, hx6, N, -, -, -, -⟩ := xS_g S K.1
  have hp := pek_le ht a
  show J X w (pv g a true ty) 0 [(0, .ref (jad w 70))] []
  refine bF_low hw C hR T hn han hd9 h36 K ?_
  have ne : ∀ m : Nat, m < 128 → pek t n a ≠ m → ¬ nI (pek t n a) = nI m := fun m hm z y => z ((nI_eq (by omega) (by omega)).mp y)
  have n1 := ne 40 (by decide) h40
  have n2 := ne 123 (by decide) h123
  have n3 := ne 91 (by decide) h91
  have mid : ∀ (v9 : Option Value) (h9 : jH), rcP h0 g t n a L dc ty tb v9 h9 → J X w h9 69 [(0, .ref (jad w 70)), (1, .int 0)] (jcons v9 []) := by
    intro v9 h9 p9
    have bad : ∀ (g' : jH) (a' : Nat) (ty' : Bool), a' ≤ 200 → xZ h0 g' → (bcP h0 g t n a L s dc ty tb = fun r h' => bdP h0 r h') → v9 = some (.int 0) → h9 = pv g' a' false ty' → J X w h9 69 [(0, .ref (jad w 70)), (1, .int 0)] (jcons v9 []) := by
      intro g' a' ty' ha' hz hpo e1 e2
      rw [hpo] at hE
      subst e1 e2
      refine k_istore_n C dX5_beginFactor_69 (by rw [hnL]; decide) ?_
      refine k_iload_n C dX5_beginFactor_70 rfl ?_
      refine j_if_eq C 85 dX5_beginFactor_71 (by decide) (fun c71 => ?_) (fun c71 => ?_)
      · refine k_iload_n C dX5_beginFactor_85 rfl ?_
        exact j_zret C hrt (rfl) hE dX5_beginFactor_86 (⟨false, _, _, _, rfl, rfl, ha', hz⟩)
      · exact absurd rfl c71 -- stop
    unfold rcP at p9
    cases hcl : clP t n a with
    | none =>
      rw [hcl] at p9
      obtain ⟨g', a', ty', p1, p2, p3, p4⟩ := p9
      exact bad g' a' ty' p3 p4 (by funext r h'; unfold bcP; rw [hcl]) p1 p2
    | some z =>
      rw [hcl] at p9
      simp only at p9
      obtain ⟨z1, z2, z3, z4⟩ := clP_le hcl
      by_cases ok : L + 1 < 9
      · rw [if_pos ok] at p9
        obtain ⟨p1, p2⟩ := p9
        subst p1 p2
        by_cases e41 : pek t n z.2.2 = 41
        · have hpo : bcP h0 g t n a L s dc ty tb = fun r h' => r = some (.int 1) ∧ h' = pv (ecR dc (rcR g (L + 1) (nI (26 * z.1 + z.2.1))) s (L + 1) (nI (26 * z.1 + z.2.1)) (bI ((lix tb z.1 (nI z.2.1) tb.length).isSome && ta (ctI tb (lix tb z.1 (nI z.2.1) tb.length)) 0 == 2))) (z.2.2 + 1) true ((ty && (dc || (lix tb z.1 (nI z.2.1) tb.length).isSome)) && (dc || ((lix tb z.1 (nI z.2.1) tb.length).isSome && decide (0 = nTk (ctI tb (lix tb z.1 (nI z.2.1) tb.length)))))) := by
            funext r h'; unfold bcP; rw [hcl]; simp only; rw [if_pos ok, if_pos e41]
          rw [hpo] at hE
          have b41 : (pek t n z.2.2 == 41) = true := by simp [e41]
          rw [b41, if_pos e41]
          have hr3 : (rcR g (L + 1) (nI (26 * z.1 + z.2.1))).2.1 70 = rMap := hr
          have N3 : rIt (rcR g (L + 1) (nI (26 * z.1 + z.2.1))) 6 tb := by
            obtain ⟨⟨b1, b2, b3⟩, b4⟩ := N
            refine ⟨⟨by rw [rcR_o (by omega) (by omega)]; exact b1, b2, fun i hi => ?_⟩, fun i hi => ?_⟩
            · rw [rcR_o (by omega) (by omega), rcR_o (by omega) (by omega)]; exact b3 i hi
            · obtain ⟨d1, d2, d3, d4⟩ := b4 i hi
              exact ⟨by rw [rcR_o (by omega) (by omega)]; exact d1, by rw [rcR_o (by omega) (by omega)]; exact d2, fun q hq => by rw [rcR_o (by omega) (by omega)]; exact d3 q hq, by rw [rcR_o (by omega) (by omega)]; exact d4⟩
          refine k_istore_n C dX5_beginFactor_69 (by rw [hnL]; decide) ?_
          refine k_iload_n C dX5_beginFactor_70 rfl ?_
          refine j_if_eq C 85 dX5_beginFactor_71 (by decide) (fun c71 => ?_) (fun c71 => ?_)
          · exact absurd c71 (by decide) -- stop
          · refine k_aload_n C dX5_beginFactor_74 rfl ?_
            refine j_geti C fX5_116 rfl (by first | decide | omega) (by first | assumption | rfl) dX5_beginFactor_75 ?_
            refine j_if_eq C 85 dX5_beginFactor_78 (by decide) (fun c78 => ?_) (fun c78 => ?_)
            · exact absurd ((show (pv (rcR g (L + 1) (nI (26 * z.1 + z.2.1))) (z.2.2 + 1) true (ty && (dc || (lix tb z.1 (nI z.2.1) tb.length).isSome))).1 70 5 = 1 from pv_5).symm.trans c78) (by decide) -- stop
            · refine k_aload_n C dX5_beginFactor_81 rfl ?_
              refine k_callV (k := 70) (ci := 5) (As := []) C mX5_200 (r_endCall hw hr3 (by rw [rcR_o (by omega) (by omega)]; exact hd) (by rw [rcR_o (by omega) (by omega)]; exact K.2.2.1) (by omega) N3 (by rw [rcR_p (by omega), opn_23]) (by omega) rcR_91 z1 z2 (k := 0) (by rw [rcR_p (by omega), opn_86]; rfl) (by decide)) jCl5.1 (by first | decide | omega) (by first | assumption | rfl) rfl rfl (Nat.le_of_ble_eq_true rfl) (jroom hR (by first | decide | omega) (by decide)) dX5_beginFactor_82 ?_
              rintro v9 h9 ⟨rfl, rfl⟩
              refine k_iload_n C dX5_beginFactor_85 rfl ?_
              exact j_zret C hrt (rfl) hE dX5_beginFactor_86 (⟨rfl, rfl⟩)
        · have hpo : bcP h0 g t n a L s dc ty tb = fun r h' => r = some (.int 0) ∧ h' = pv (rcR g (L + 1) (nI (26 * z.1 + z.2.1))) z.2.2 true (ty && (dc || (lix tb z.1 (nI z.2.1) tb.length).isSome)) := by
            funext r h'; unfold bcP; rw [hcl]; simp only; rw [if_pos ok, if_neg e41]
          rw [hpo] at hE
          have b41 : (pek t n z.2.2 == 41) = false := by simp [e41]
          rw [b41, if_neg e41]
          refine k_istore_n C dX5_beginFactor_69 (by rw [hnL]; decide) ?_
          refine k_iload_n C dX5_beginFactor_70 rfl ?_
          refine j_if_eq C 85 dX5_beginFactor_71 (by decide) (fun c71 => ?_) (fun c71 => ?_)
          · refine k_iload_n C dX5_beginFactor_85 rfl ?_
            exact j_zret C hrt (rfl) hE dX5_beginFactor_86 (⟨rfl, rfl⟩)
          · exact absurd rfl c71 -- stop
      · rw [if_neg ok] at p9
        obtain ⟨g', a', ty', p1, p2, p3, p4⟩ := p9
        exact bad g' a' ty' p3 p4 (by funext r h'; unfold bcP; rw [hcl]; simp only; rw [if_neg ok]) p1 p2
  refine k_aload_n C dX5_beginFactor_28 rfl ?_
  refine k_callV (k := 70) (ci := 5) (As := []) C mX5_123 (r_look hw hr ht (by omega)) jCl5.1 (by first | decide | omega) (by first | assumption | rfl) rfl rfl (Nat.le_of_ble_eq_true rfl) (jroom hR (by first | decide | omega) (by decide)) dX5_beginFactor_29 ?_
  rintro v9 h9 ⟨rfl, rfl⟩
  refine j_bipush (v := 40) C dX5_beginFactor_32 (by decide) ?_
  refine j_icmp_eq C 55 dX5_beginFactor_34 (by decide) (fun c34 => ?_) (fun c34 => ?_)
  · exact absurd (by first | exact c34 | exact Classical.not_not.mp c34) n1 -- stop
  · refine k_aload_n C dX5_beginFactor_37 rfl ?_
    refine k_callV (k := 70) (ci := 5) (As := []) C mX5_123 (r_look hw hr ht (by omega)) jCl5.1 (by first | decide | omega) (by first | assumption | rfl) rfl rfl (Nat.le_of_ble_eq_true rfl) (jroom hR (by first | decide | omega) (by decide)) dX5_beginFactor_38 ?_
    rintro v9 h9 ⟨rfl, rfl⟩
    refine j_bipush (v := 123) C dX5_beginFactor_41 (by decide) ?_
    refine j_icmp_eq C 55 dX5_beginFactor_43 (by decide) (fun c43 => ?_) (fun c43 => ?_)
    · exact absurd (by first | exact c43 | exact Classical.not_not.mp c43) n2 -- stop
    · refine k_aload_n C dX5_beginFactor_46 rfl ?_
      refine k_callV (k := 70) (ci := 5) (As := []) C mX5_123 (r_look hw hr ht (by omega)) jCl5.1 (by first | decide | omega) (by first | assumption | rfl) rfl rfl (Nat.le_of_ble_eq_true rfl) (jroom hR (by first | decide | omega) (by decide)) dX5_beginFactor_47 ?_
      rintro v9 h9 ⟨rfl, rfl⟩
      refine j_bipush (v := 91) C dX5_beginFactor_50 (by decide) ?_
      refine j_icmp_ne C 59 dX5_beginFactor_52 (by decide) (fun c52 => ?_) (fun c52 => ?_)
      · refine j_iconst (v := 0) C dX5_beginFactor_59 (by decide) ?_
        refine k_istore_n C dX5_beginFactor_60 (by rw [hnL]; decide) ?_
        refine k_iload_n C dX5_beginFactor_61 rfl ?_
        refine j_if_ne C 87 dX5_beginFactor_62 (by decide) (fun c62 => ?_) (fun c62 => ?_)
        · exact absurd rfl c62 -- stop
        · refine k_aload_n C dX5_beginFactor_65 rfl ?_
          refine k_callV (k := 70) (ci := 5) (As := []) C mX5_197 (r_readCall hw T S hn han hL K) jCl5.1 (by decide) rfl rfl rfl (Nat.le_of_ble_eq_true rfl) (jroom hR (by omega) (by decide)) dX5_beginFactor_66 ?_
          exact mid
      · exact absurd (by first | exact c52 | exact Classical.not_not.mp c52) n3 -- stop
end XD
