def xW (h0 g1 g : jH) (dc : Bool) (H : Nat → Prop) (L c a : Nat) (q : TA) (f : CL) (s : Nat) (ty ip : Bool) : Prop := xK h0 g dc H L c a (app q f) s ty ∧ lF L g1 g ∧ g.1 70 33 = bI ip ∧ (dc = false → ∀ y, tyq q f = some y → (y = 1 ∨ y = 2) ∧ ip = (y == 2))
def xZ (h0 g : jH) : Prop := xF h0 g ∧ ∃ s, g.1 70 21 = nI s ∧ s ≤ 126
def dig (t : Nat → Nat) (n a : Nat) : Prop := 48 ≤ pek t n a ∧ pek t n a ≤ 57
/-- one sign written down, a number or a pair at hand -/
def leR (dc : Bool) (g : jH) (s : Nat) (x y ip : Int32) : jH := (up2 (emD dc (up2 g.1 70 33 ip, g.2) s x y).1 70 33 ip, (emD dc (up2 g.1 70 33 ip, g.2) s x y).2)
/-- what stays: the item that is read, the heads -/
def xS (h0 : jH) (tb : List HD) (x sg0 : Nat) : Prop := h0.1 70 22 = nI (36 + x) ∧ x < 6 ∧ rIt h0 6 tb ∧ rSg h0 (36 + x) sg0 ∧ (∀ k, ta sg0 k ≠ 3) ∧ sgn sg0 ∧ ∀ i (hi : i < tb.length), (∀ k, ta (tb[i]).2.2.1 k ≠ 3) ∧ sgn (tb[i]).2.2.1 ∧ (ta (tb[i]).2.2.1 0 = 1 ∨ ta (tb[i]).2.2.1 0 = 2)
section X8
variable {l : Launch} {w : jW} {h0 g1 gE g g' : jH} {t : Nat → Nat} {n : Nat} {dc gd ty ip : Bool} {H : Nat → Prop} {L c a s : Nat} {q qs : TA} {f f2 : CL} {e : List Ev} {tb : List HD} {x sg0 : Nat}
theorem xS_g (S : xS h0 tb x sg0) (F : xF h0 g) : xS g tb x sg0 := by
  obtain ⟨a1, a2, ⟨⟨b1, b2, b3⟩, b4⟩, ⟨c1, c2, c3⟩, a5⟩ := S
  refine ⟨by rw [F.2 _ _ (by omega)]; exact a1, a2, ⟨⟨by rw [F.2 _ _ (by omega)]; exact b1, b2, fun i hi => ?_⟩, fun i hi => ?_⟩, ⟨by rw [F.2 _ _ (by omega)]; exact c1, fun q hq => by rw [F.2 _ _ (by omega)]; exact c2 q hq, by rw [F.2 _ _ (by omega)]; exact c3⟩, a5⟩
  · obtain ⟨d1, d2, d3⟩ := b3 i hi
    exact ⟨by rw [F.2 _ _ (by omega)]; exact d1, by rw [F.2 _ _ (by omega)]; exact d2, d3⟩
  · obtain ⟨d1, d2, d3, d4⟩ := b4 i hi
    exact ⟨by rw [F.2 _ _ (by omega)]; exact d1, by rw [F.2 _ _ (by omega)]; exact d2, fun q hq => by rw [F.2 _ _ (by omega)]; exact d3 q hq, by rw [F.2 _ _ (by omega)]; exact d4⟩
theorem xE_leaf {k o y a' : Nat} (ha : a + 1 ≤ a') (hk : k ≤ 2) (hf : ∀ bs hd, f bs hd = some (y, [(k, o, hd, 0)], 0)) (E : xE g dc H c a q s ty) (hg : dc = false → g'.1 70 31 = g.1 70 31 ∧ g'.1 70 32 = g.1 70 32 ∧ (∀ k j, 82 ≤ k → k ≤ 84 → j < 780 + s → g'.1 k j = g.1 k j) ∧ g'.1 82 (780 + s) = nI k ∧ g'.1 83 (780 + s) = nI o) : xE g' dc H c a' (app q f) (sD dc s) ty := by
  refine ⟨by have := E.1; unfold sD; split <;> omega, fun hdc => ?_⟩
  have E2 := E.2 hdc
  obtain ⟨i1, i2, i3, i4, i5⟩ := hg hdc
  subst hdc
  unfold app
  cases q with
  | none => exact E2
  | some z =>
    simp only [hf]
    obtain ⟨e1, e2, e3, e4, e5, e6, e7⟩ := E2
    have hk3 : k = 0 ∨ k = 1 ∨ k = 2 := by omega
    rw [e4] at i3 i4 i5
    refine ⟨e1, by rw [i1]; exact e2, by rw [i2, e3]; congr 1; omega, by rw [e4]; simp [sD, rpos_app, rpos, krf]; omega, by omega, by omega, ?_⟩
    refine rR_emit (fun z => by rcases hk3 with rfl | rfl | rfl <;> simp at z) ?_ ?_ (fun z => by rcases hk3 with rfl | rfl | rfl <;> simp at z) (rR_keep i3 e7)
    · rw [i4]; rcases hk3 with rfl | rfl | rfl <;> rfl
    · intro _; rw [i5]; rcases hk3 with rfl | rfl | rfl <;> rfl
theorem leR_o {k j : Nat} {u v i : Int32} (h : ¬ (82 ≤ k ∧ k ≤ 84 ∧ j = 780 + s)) (h2 : ¬ (k = 70 ∧ (j = 21 ∨ j = 33))) : (leR dc g s u v i).1 k j = g.1 k j := by
  show up2 (emD dc (up2 g.1 70 33 i, g.2) s u v).1 70 33 i k j = _
  rw [up2_n (by omega), emD_o (by omega) (by omega)]
  dsimp only
  rw [up2_n (by omega)]
theorem leR_33 {u v i : Int32} : (leR dc g s u v i).1 70 33 = i := by unfold leR; dsimp only; rw [up2_s]
theorem leR_21 {u v i : Int32} (hs : g.1 70 21 = nI s) : (leR dc g s u v i).1 70 21 = nI (sD dc s) := by
  show up2 (emD dc (up2 g.1 70 33 i, g.2) s u v).1 70 33 i 70 21 = _
  rw [up2_n (by omega)]
  exact emD_21 (by dsimp only; rw [up2_n (by omega)]; exact hs)
theorem leR_xF {u v i : Int32} (F : xF h0 g) : xF h0 (leR dc g s u v i) := xF_up (xF_emD (xF_up F (by omega))) (by omega)
theorem leR_lF {u v i : Int32} (F : lF L g1 g) : lF L g1 (leR dc g s u v i) := lF_up (lF_emD (lF_up F (by omega))) (by omega)
theorem xW_leaf {k o y a' : Nat} (ha : a + 1 ≤ a') (hk : k ≤ 2) (hy : y = 1 ∨ y = 2) (hf : ∀ bs hd, f bs hd = some (y, [(k, o, hd, 0)], 0)) (K : xK h0 g dc H L c a q s ty) : xW h0 g (leR dc g s (nI k) (nI o) (bI (y == 2))) dc H L c a' q f (sD dc s) ty (y == 2) := by
  obtain ⟨F, o, sg, E⟩ := K
  refine ⟨⟨leR_xF F, by rw [leR_o (by omega) (by omega)]; exact o, leR_21 sg, xE_leaf ha hk hf E ?_⟩, leR_lF lF_rf, leR_33, fun _ y' hy' => ?_⟩
  · intro hdc
    subst hdc
    refine ⟨leR_o (by omega) (by omega), leR_o (by omega) (by omega), fun k j x y z => leR_o (by omega) (by omega), ?_, ?_⟩
    · unfold leR; dsimp only; rw [up2_n (by omega)]; exact emD_82
    · unfold leR; dsimp only; rw [up2_n (by omega)]; exact emD_83
  · unfold tyq at hy'
    cases q with
    | none => cases hy'
    | some z => simp only [hf, Option.some.injEq] at hy'; subst hy'; exact ⟨hy, rfl⟩
theorem xZ_leaf {u v i : Int32} (F : xF h0 g) (hs : g.1 70 21 = nI s) (h : s ≤ 125) : xZ h0 (leR dc g s u v i) := ⟨leR_xF F, sD dc s, leR_21 hs, by have := sD_le (dc := dc) (s := s); omega⟩
theorem leR_eq {u v : Int32} (i : Int32) : ((up2 (emD dc g s u v).1 70 33 i, (emD dc g s u v).2) : jH) = leR dc g s u v i := by
  refine Prod.ext ?_ (by unfold leR; rw [emD_ref, emD_ref])
  funext k j
  unfold leR
  dsimp only
  by_cases c : k = 70 ∧ j = 33
  · rw [c.1, c.2, up2_s, up2_s]
  · rw [up2_n c, up2_n c]
    unfold emD
    split
    · dsimp only; rw [up2_n c]
    · unfold emR
      dsimp only
      simp only [up2]
      split <;> simp_all
theorem nmb_s {m b v : Nat} : nmb t n (m + 1) b v = if 48 ≤ pek t n b ∧ pek t n b ≤ 57 then nmb t n m (b + 1) (10 * v + (pek t n b - 48)) else (b, v) := rfl
theorem r_readNumber (hw : jok w) (T : xT h0 t n dc) (hn : n ≤ 120) (hd9 : dig t n a) (K : xK h0 g dc H L c a q s ty) : jM l w yX5_readNumber cX5_readNumber 3 none 2 [.ref (jad w 70)] (pv g a true ty) (fun r h' => r = none ∧ if 48 ≤ pek t n (nmb t n 4 a 0).1 ∧ pek t n (nmb t n 4 a 0).1 ≤ 57 then ∃ g' a' ty', h' = pv g' a' false ty' ∧ a' ≤ 200 ∧ xZ h0 g' else h' = pv (leR dc g s 0 (nI (nmb t n 4 a 0).2) 0) (nmb t n 4 a 0).1 true ty) := by
  refine jM_of (by decide) hw (Nat.le_of_ble_eq_true rfl) ?_
  intro X C hl hR hnL hrt hE
  subst hl
  have C : jC X w cX5_readNumber RX5 := C
  have sa := K.2.2.2.1
  obtain ⟨hr, ht, hd⟩ := xT_g T K.1
  have han : a < n := pek_gt (t := t) (c := 0) (by have := hd9.1; omega)
  have fin : ∀ (b : Nat) (gd : Bool) (v : Int32) (i : Int32), b ≤ 200 → (gd = false → dig t n (nmb t n 4 a 0).1) → (gd = true → ¬ dig t n (nmb t n 4 a 0).1 ∧ b = (nmb t n 4 a 0).1 ∧ v = nI (nmb t n 4 a 0).2) → J X w (pv g b gd ty) 61 [(0, .ref (jad w 70)), (1, .int v), (2, .int i)] [] := by
    intro b gd v i hb h1 h2
    refine k_aload_n C dX5_readNumber_61 rfl ?_
    refine j_iconst (v := 0) C dX5_readNumber_62 (by decide) ?_
    refine k_iload_n C dX5_readNumber_63 rfl ?_
    refine k_callV (k := 70) (ci := 5) (As := [.int 0, .int v]) C mX5_158 (r_emit hw hr hd K.2.2.1 (by omega) 0 v) jCl5.1 (by first | decide | omega) (by first | assumption | rfl) rfl rfl (Nat.le_of_ble_eq_true rfl) (jroom hR (by first | decide | omega) (by decide)) dX5_readNumber_64 ?_
    rintro v9 h9 ⟨rfl, rfl⟩
    refine k_aload_n C dX5_readNumber_67 rfl ?_
    refine j_iconst (v := 0) C dX5_readNumber_68 (by decide) ?_
    refine j_putz C fX5_162 rfl rfl (by first | decide | assumption) (by first | decide | omega) (by first | assumption | rfl) dX5_readNumber_69 ?_
    refine jeqh (show _ = pv (leR dc g s 0 v 0) b gd ty from by rw [pv_put (by omega), leR_eq]) ?_
    exact j_vret C hrt hE dX5_readNumber_72 (⟨rfl, by cases gd; (rw [if_pos (show 48 ≤ pek t n (nmb t n 4 a 0).1 ∧ pek t n (nmb t n 4 a 0).1 ≤ 57 from h1 rfl)]; exact ⟨_, _, _, rfl, hb, xZ_leaf K.1 K.2.2.1 (by omega)⟩); (rw [if_neg (show ¬ (48 ≤ pek t n (nmb t n 4 a 0).1 ∧ pek t n (nmb t n 4 a 0).1 ≤ 57) from (h2 rfl).1), (h2 rfl).2.1, (h2 rfl).2.2])⟩)
  have loop : ∀ (m b v : Nat), m ≤ 4 → b ≤ n → nmb t n m b v = nmb t n 4 a 0 → J X w (pv g b true ty) 4 [(0, .ref (jad w 70)), (1, .int (nI v)), (2, .int (nI (4 - m)))] [] := by
    intro m
    induction m with
    | zero =>
      intro b v hm hb e
      have e1 : (nmb t n 4 a 0).1 = b := by rw [← e]; rfl
      have e2 : (nmb t n 4 a 0).2 = v := by rw [← e]; rfl
      by_cases hdb : dig t n b
      · have bd : decide (48 ≤ pek t n b ∧ pek t n b ≤ 57) = true := decide_eq_true hdb
        refine k_aload_n C dX5_readNumber_4 rfl ?_
        refine k_callV (k := 70) (ci := 5) (As := []) C mX5_154 (r_isDigit hw hr ht (by omega)) jCl5.1 (by first | decide | omega) (by first | assumption | rfl) rfl rfl (Nat.le_of_ble_eq_true rfl) (jroom hR (by first | decide | omega) (by decide)) dX5_readNumber_5 ?_
        rintro v9 h9 ⟨rfl, rfl⟩
        rw [bd]
        refine j_if_eq C 61 dX5_readNumber_8 (by decide) (fun c8 => ?_) (fun c8 => ?_)
        · exact absurd c8 (by decide) -- stop
        · refine k_aload_n C dX5_readNumber_11 rfl ?_
          refine j_geti C fX5_116 rfl (by first | decide | omega) (by first | assumption | rfl) dX5_readNumber_12 ?_
          refine j_if_eq C 61 dX5_readNumber_15 (by decide) (fun c15 => ?_) (fun c15 => ?_)
          · exact absurd ((show (pv g b true ty).1 70 5 = 1 from pv_5).symm.trans c15) (by decide) -- stop
          · refine k_aload_n C dX5_readNumber_18 rfl ?_
            refine k_iload_n C dX5_readNumber_19 rfl ?_
            refine j_iconst (v := 4) C dX5_readNumber_20 (by decide) ?_
            refine j_icmp_ge C 28 dX5_readNumber_21 (by decide) (fun c21 => ?_) (fun c21 => ?_)
            · refine j_iconst (v := 0) C dX5_readNumber_28 (by decide) ?_
              refine k_callV (k := 70) (ci := 5) (As := [.int (bI false)]) C mX5_131 (r_must hw false) jCl5.1 (by first | decide | omega) (by first | assumption | rfl) rfl rfl (Nat.le_of_ble_eq_true rfl) (jroom hR (by first | decide | omega) (by decide)) dX5_readNumber_29 ?_
              rintro v9 h9 ⟨rfl, rfl⟩
              rw [Bool.and_false]
              refine j_bipush (v := 10) C dX5_readNumber_32 (by decide) ?_
              refine k_iload_n C dX5_readNumber_34 rfl ?_
              refine j_imul C dX5_readNumber_35 ?_
              refine k_aload_n C dX5_readNumber_36 rfl ?_
              refine k_callV (k := 70) (ci := 5) (As := []) C mX5_123 (r_look hw hr ht (by omega)) jCl5.1 (by first | decide | omega) (by first | assumption | rfl) rfl rfl (Nat.le_of_ble_eq_true rfl) (jroom hR (by first | decide | omega) (by decide)) dX5_readNumber_37 ?_
              rintro v9 h9 ⟨rfl, rfl⟩
              refine j_iadd C dX5_readNumber_40 ?_
              refine j_bipush (v := 48) C dX5_readNumber_41 (by decide) ?_
              refine j_isub C dX5_readNumber_43 ?_
              refine k_istore_n C dX5_readNumber_44 (by rw [hnL]; decide) ?_
              refine k_iinc C dX5_readNumber_45 rfl rfl (by rw [hnL]; decide) ?_
              refine k_aload_n C dX5_readNumber_48 rfl ?_
              refine j_dup C dX5_readNumber_49 rfl ?_
              refine j_geti C fX5_113 rfl (by first | decide | omega) (by first | assumption | rfl) dX5_readNumber_50 ?_
              refine j_iconst (v := 1) C dX5_readNumber_53 (by decide) ?_
              refine j_iadd C dX5_readNumber_54 ?_
              rw [pv_4, nI_1]
              refine j_puti C fX5_113 rfl rfl (by first | decide | omega) (by first | assumption | rfl) dX5_readNumber_55 ?_
              refine jeqh pv_at ?_
              refine j_goto C 4 dX5_readNumber_58 (by decide) ?_
              refine k_aload_n C dX5_readNumber_4 rfl ?_
              refine k_callV (k := 70) (ci := 5) (As := []) C mX5_154 (r_isDigit hw hr ht (a := b + 1) (gd := false) (ty := ty) (by omega)) jCl5.1 (by decide) rfl rfl rfl (Nat.le_of_ble_eq_true rfl) (jroom hR (by omega) (by decide)) dX5_readNumber_5 ?_
              rintro v9 h9 ⟨rfl, rfl⟩
              refine j_if_eq C 61 dX5_readNumber_8 (by decide) (fun _ => fin (b + 1) false _ _ (by omega) (fun _ => by rw [e1]; exact hdb) (fun z => by cases z)) (fun _ => ?_)
              refine k_aload_n C dX5_readNumber_11 rfl ?_
              refine j_geti C fX5_116 rfl (by decide) rfl dX5_readNumber_12 ?_
              exact j_if_eq C 61 dX5_readNumber_15 (by decide) (fun _ => fin (b + 1) false _ _ (by omega) (fun _ => by rw [e1]; exact hdb) (fun z => by cases z)) (fun c => absurd (show (pv g (b + 1) false ty).1 70 5 = 0 from pv_5) c)
            · exact absurd (show (4 : Int32) ≤ nI (4 - 0) by decide) c21 -- stop
      · have bd : decide (48 ≤ pek t n b ∧ pek t n b ≤ 57) = false := decide_eq_false hdb
        refine k_aload_n C dX5_readNumber_4 rfl ?_
        refine k_callV (k := 70) (ci := 5) (As := []) C mX5_154 (r_isDigit hw hr ht (by omega)) jCl5.1 (by first | decide | omega) (by first | assumption | rfl) rfl rfl (Nat.le_of_ble_eq_true rfl) (jroom hR (by first | decide | omega) (by decide)) dX5_readNumber_5 ?_
        rintro v9 h9 ⟨rfl, rfl⟩
        rw [bd]
        refine j_if_eq C 61 dX5_readNumber_8 (by decide) (fun c8 => ?_) (fun c8 => ?_)
        · exact fin b true _ _ (by omega) (fun z => by cases z) (fun _ => ⟨by rw [e1]; exact hdb, e1.symm, by rw [e2]⟩)
        · exact absurd rfl c8 -- stop
    | succ m ih =>
      intro b v hm hb e
      by_cases hdb : dig t n b
      · have bd : decide (48 ≤ pek t n b ∧ pek t n b ≤ 57) = true := decide_eq_true hdb
        have hbn : b < n := pek_gt (t := t) (c := 0) (by have := hdb.1; omega)
        have hp := pek_le ht b
        rw [nmb_s, if_pos (show 48 ≤ pek t n b ∧ pek t n b ≤ 57 from hdb)] at e
        have ek : nI (4 - (m + 1)) + Int32.ofInt 1 = nI (4 - m) := by rw [show 4 - m = 4 - (m + 1) + 1 by omega]; exact nI_1 _
        have ev : (10 : Int32) * nI v + nI (pek t n b) - 48 = nI (10 * v + (pek t n b - 48)) := by
          rw [show (10 : Int32) = nI 10 from rfl, pk_mul, nI_add, show (48 : Int32) = nI 48 from rfl, pk_sub (by have := hdb.1; omega)]
          congr 1
          have := hdb.1
          omega
        refine k_aload_n C dX5_readNumber_4 rfl ?_
        refine k_callV (k := 70) (ci := 5) (As := []) C mX5_154 (r_isDigit hw hr ht (by omega)) jCl5.1 (by first | decide | omega) (by first | assumption | rfl) rfl rfl (Nat.le_of_ble_eq_true rfl) (jroom hR (by first | decide | omega) (by decide)) dX5_readNumber_5 ?_
        rintro v9 h9 ⟨rfl, rfl⟩
        rw [bd]
        refine j_if_eq C 61 dX5_readNumber_8 (by decide) (fun c8 => ?_) (fun c8 => ?_)
        · exact absurd c8 (by decide) -- stop
        · refine k_aload_n C dX5_readNumber_11 rfl ?_
          refine j_geti C fX5_116 rfl (by first | decide | omega) (by first | assumption | rfl) dX5_readNumber_12 ?_
          refine j_if_eq C 61 dX5_readNumber_15 (by decide) (fun c15 => ?_) (fun c15 => ?_)
          · exact absurd ((show (pv g b true ty).1 70 5 = 1 from pv_5).symm.trans c15) (by decide) -- stop
          · refine k_aload_n C dX5_readNumber_18 rfl ?_
            refine k_iload_n C dX5_readNumber_19 rfl ?_
            refine j_iconst (v := 4) C dX5_readNumber_20 (by decide) ?_
            refine j_icmp_ge C 28 dX5_readNumber_21 (by decide) (fun c21 => ?_) (fun c21 => ?_)
            · exact absurd c21 (nI_ge (a := 4 - (m + 1)) (b := 4) (by omega) (by omega)) -- stop
            · refine j_iconst (v := 1) C dX5_readNumber_24 (by decide) ?_
              refine j_goto C 29 dX5_readNumber_25 (by decide) ?_
              refine k_callV (k := 70) (ci := 5) (As := [.int (bI true)]) C mX5_131 (r_must hw true) jCl5.1 (by first | decide | omega) (by first | assumption | rfl) rfl rfl (Nat.le_of_ble_eq_true rfl) (jroom hR (by first | decide | omega) (by decide)) dX5_readNumber_29 ?_
              rintro v9 h9 ⟨rfl, rfl⟩
              rw [Bool.and_true]
              refine j_bipush (v := 10) C dX5_readNumber_32 (by decide) ?_
              refine k_iload_n C dX5_readNumber_34 rfl ?_
              refine j_imul C dX5_readNumber_35 ?_
              refine k_aload_n C dX5_readNumber_36 rfl ?_
              refine k_callV (k := 70) (ci := 5) (As := []) C mX5_123 (r_look hw hr ht (by omega)) jCl5.1 (by first | decide | omega) (by first | assumption | rfl) rfl rfl (Nat.le_of_ble_eq_true rfl) (jroom hR (by first | decide | omega) (by decide)) dX5_readNumber_37 ?_
              rintro v9 h9 ⟨rfl, rfl⟩
              refine j_iadd C dX5_readNumber_40 ?_
              refine j_bipush (v := 48) C dX5_readNumber_41 (by decide) ?_
              refine j_isub C dX5_readNumber_43 ?_
              rw [ev]
              refine k_istore_n C dX5_readNumber_44 (by rw [hnL]; decide) ?_
              refine k_iinc C dX5_readNumber_45 rfl rfl (by rw [hnL]; decide) ?_
              refine k_aload_n C dX5_readNumber_48 rfl ?_
              refine j_dup C dX5_readNumber_49 rfl ?_
              refine j_geti C fX5_113 rfl (by first | decide | omega) (by first | assumption | rfl) dX5_readNumber_50 ?_
              refine j_iconst (v := 1) C dX5_readNumber_53 (by decide) ?_
              refine j_iadd C dX5_readNumber_54 ?_
              rw [pv_4, nI_1]
              refine j_puti C fX5_113 rfl rfl (by first | decide | omega) (by first | assumption | rfl) dX5_readNumber_55 ?_
              refine jeqh pv_at ?_
              refine j_goto C 4 dX5_readNumber_58 (by decide) ?_
              rw [ek]
              exact ih (b + 1) _ (by omega) (by omega) e
      · have bd : decide (48 ≤ pek t n b ∧ pek t n b ≤ 57) = false := decide_eq_false hdb
        rw [nmb_s, if_neg (show ¬ (48 ≤ pek t n b ∧ pek t n b ≤ 57) from hdb)] at e
        have e1 : (nmb t n 4 a 0).1 = b := by rw [← e]
        have e2 : (nmb t n 4 a 0).2 = v := by rw [← e]
        refine k_aload_n C dX5_readNumber_4 rfl ?_
        refine k_callV (k := 70) (ci := 5) (As := []) C mX5_154 (r_isDigit hw hr ht (by omega)) jCl5.1 (by first | decide | omega) (by first | assumption | rfl) rfl rfl (Nat.le_of_ble_eq_true rfl) (jroom hR (by first | decide | omega) (by decide)) dX5_readNumber_5 ?_
        rintro v9 h9 ⟨rfl, rfl⟩
        rw [bd]
        refine j_if_eq C 61 dX5_readNumber_8 (by decide) (fun c8 => ?_) (fun c8 => ?_)
        · exact fin b true _ _ (by omega) (fun z => by cases z) (fun _ => ⟨by rw [e1]; exact hdb, e1.symm, by rw [e2]⟩)
        · exact absurd rfl c8 -- stop
  show J X w (pv g a true ty) 0 [(0, .ref (jad w 70))] []
  refine j_iconst (v := 0) C dX5_readNumber_0 (by decide) ?_
  refine k_istore_n C dX5_readNumber_1 (by rw [hnL]; decide) ?_
  refine j_iconst (v := 0) C dX5_readNumber_2 (by decide) ?_
  refine k_istore_n C dX5_readNumber_3 (by rw [hnL]; decide) ?_
  exact loop 4 a 0 (by omega) (by omega) rfl
end X8
