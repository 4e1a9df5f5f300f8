section RDC
variable {X : jX} {w : jW} {h : jH} {cc : ByteArray} {own : String} {pc : Nat} {lv : List (Nat × Value)} {r : List Value}
theorem k_astoreN (C : jC X w cc own) {i : Nat} (d : decode cc pc = .ok (.astore i, 2)) (hn : i < (jXc X).maxLocals) (k : J X w h (pc + 2) (jsv lv i .null) r) : J X w h pc lv (.null :: r) := j_astoreN C d hn rfl (j_mono (jsv_in _ _ _) k)
theorem k_aloadN (C : jC X w cc own) {i : Nat} (d : decode cc pc = .ok (.aload i, 2)) (hq : jlk lv i = some .null) (k : J X w h (pc + 2) lv (.null :: r)) : J X w h pc lv r := by
  obtain ⟨q, hq⟩ := jlk_at _ _ _ hq
  exact j_aloadN C q d hq k
end RDC
section RDD
variable {l : Launch} {w : jW} {h0 h : jH} {u : Nat} {t : Nat → Nat} {n : Nat} {hs : List (Nat × Nat × Nat)} {me sg bs : Nat} {a a' : Nat} {md md' : cMd} {r : Option Value} {dp d : Nat} {sub : Nat → PR}
theorem oI_0 : oI 0 = -1 := rfl
theorem oI_p {o : Nat} (h : 0 < o) : oI o = nI (o - 1) := by
  unfold oI
  rw [show (1 : Int32) = nI 1 from rfl, pk_sub h]
theorem oAt_mono {b : Bool} {a1 a2 : Nat} (h : (md = none → a1 = n)) (hmd : (oAt b n a1 a2 md).2 = none) (hb : b = true) : md = none := by rw [hb] at hmd; exact hmd
theorem c_readCall (hw : jok w) (hS : cS h0 u t n hs me sg) (hd : 2 ≤ d) (hE' : cSub l w h0 u n me dp d sub) {o : Nat} (ho : o ≤ 6) (hc : cAt h0 h u n a md) (hb : cBd a md) : jM l w yX0_readCall cX0_readCall 6 (some .int) (d + 2) [.ref (jad w 13), .int (oI o), .int (nI dp)] h (fun r h' => ∃ a' md', cAt h0 h' u n a' md' ∧ cRel me bs md (if (97 ≤ pek t n a ∧ pek t n a ≤ 122) ∧ pek t n (a + 1) = 40 then pCall t n hs sub o (pek t n a - 97) (a + 2) else none) a' md' r) := by
  refine jM_of (by decide) hw (Nat.le_of_ble_eq_true rfl) ?_
  intro X C hl hR hnL hrt hE
  subst hl
  have C : jC X w cX0_readCall RX0 := C
  have hn := cS_n hS
  obtain ⟨k3, k4, k5, k6, k7⟩ := jk_unit u hS.u7
  have hme : me < 6 := hS.2.2.2.2.1
  obtain ⟨m, hm9⟩ : ∃ m, m = if 97 ≤ pek t n a ∧ pek t n a ≤ 122 then pek t n a - 97 else 0 := ⟨_, rfl⟩
  have hm26 : m < 26 := by rw [hm9]; split <;> omega
  obtain ⟨⟨a1, md1⟩, e1⟩ : ∃ p : Nat × cMd, p = oAt (decide (97 ≤ pek t n a ∧ pek t n a ≤ 122)) n a (a + 1) md := ⟨_, rfl⟩
  obtain ⟨⟨a2, md2⟩, e2⟩ : ∃ p : Nat × cMd, p = oAt (pek t n a1 == 40) n a1 (a1 + 1) md1 := ⟨_, rfl⟩
  have hb1 : cBd a1 md1 := by have := cBd_at (n := n) (b := decide (97 ≤ pek t n a ∧ pek t n a ≤ 122)) (a2 := a + 1) hb (by omega); rw [← e1] at this; exact this
  have hb2 : cBd a2 md2 := by have := cBd_at (n := n) (b := (pek t n a1 == 40)) (a2 := a1 + 1) hb1 (by omega); rw [← e2] at this; exact this
  have h1a : 1 ≤ a2 ∨ md2 = none := by
    unfold oAt at e2
    split at e2
    · cases e2; exact Or.inl (by omega)
    · cases e2; exact Or.inr rfl
  have hmn : md = none → a = n := fun e => by subst e; exact hc.2.1
  have han := hc.1
  have fin : ∀ {cs : Option Nat} {a3 : Nat} {md3 : cMd}, cs = lkp hs o m → a3 ≤ n → gRel me bs md2 (cs.getD 0) (argR t n sub cs a2) a3 md3 → _ := fun hcs ha3 hg => callRel (me := me) (bs := bs) hn hme ho hE'.1 hE'.2.1 hb hmn han ha3 hm9 hcs e1 e2 hg
  have opN : o = 0 → nI me * 26 + nI m = nI (opX me o m) := fun e => by
    rw [show (26 : Int32) = nI 26 from rfl, pk_mul, nI_add, opX, if_pos e]
  have opP : ¬ o = 0 → oI o * 26 + nI m = nI (opX me o m) := fun e => by
    rw [oI_p (by omega), show (26 : Int32) = nI 26 from rfl, pk_mul, nI_add, opX, if_neg e]
  have o1 : oI o = -1 ↔ o = 0 := by rw [← oI_0]; exact oI_eq (by omega) (by omega)
  have restN : ∀ h : jH, lkp hs o m = none → cAt h0 h u n a1 md1 → J X w h 18 [(0, .ref (jad w 13)), (1, .int (oI o)), (2, .int (nI dp)), (3, .int (nI m))] [.null] := by
    intro h hl0 hc
    refine k_astoreN C dX0_readCall_18 (by rw [hnL]; decide) ?_
    refine k_aloadN C dX0_readCall_20 rfl ?_
    refine j_ifnonnullN C dX0_readCall_22 ?_
    refine j_iconst (v := 0) C dX0_readCall_25 (by decide) ?_
    refine j_goto C 34 dX0_readCall_26 (by decide) ?_
    refine k_istore C dX0_readCall_34 (by rw [hnL]; decide) ?_
    refine k_aload_n C dX0_readCall_36 rfl ?_
    refine j_bipush (v := 40) C dX0_readCall_37 (by decide) ?_
    refine k_callV (k := 13) (ci := 0) (As := [.int (nI 40)]) C mX0_68 (t_take hw hS hc (ch := 40) (by decide) (by decide)) jCl0.1 (by first | decide | omega) (by first | assumption | rfl) rfl rfl (Nat.le_of_ble_eq_true rfl) (jroom hR (by first | decide | omega) (by decide)) dX0_readCall_39 ?_
    rintro v9 h9 ⟨rfl, hc⟩
    rw [← e2] at hc
    refine k_aload_n C dX0_readCall_42 rfl ?_
    refine k_iload C dX0_readCall_43 rfl ?_
    refine k_iload_n C dX0_readCall_45 rfl ?_
    refine k_callV (k := 13) (ci := 0) (As := [.int (nI 0), .int (nI dp)]) C mX0_176 (c_readArguments (bs := bs) (cs := none) hw hS hd hE' (by decide) h1a hc hb2) jCl0.1 (by first | decide | omega) (by first | assumption | rfl) rfl rfl (Nat.le_of_ble_eq_true rfl) (jroom hR (by first | decide | omega) (by decide)) dX0_readCall_46 ?_
    rintro v9 h9 ⟨rfl, a3, md3, hc, hg⟩
    have ha3 := hc.1
    obtain ⟨f1, -⟩ := fin (cs := none) hl0.symm ha3 hg
    refine k_aload_n C dX0_readCall_49 rfl ?_
    refine j_bipush (v := 41) C dX0_readCall_50 (by decide) ?_
    refine k_callV (k := 13) (ci := 0) (As := [.int (nI 41)]) C mX0_68 (t_take hw hS hc (ch := 41) (by decide) (by decide)) jCl0.1 (by first | decide | omega) (by first | assumption | rfl) rfl rfl (Nat.le_of_ble_eq_true rfl) (jroom hR (by first | decide | omega) (by decide)) dX0_readCall_52 ?_
    rintro v9 h9 ⟨rfl, hc⟩
    refine k_aload_n C dX0_readCall_55 rfl ?_
    refine j_getr C fX0_22 rfl (by first | decide | omega) (by first | assumption | rfl) (cAt_un hS hc) dX0_readCall_56 ?_
    refine j_bipush (v := 12) C dX0_readCall_59 (by decide) ?_
    refine k_iload_n C dX0_readCall_61 rfl ?_
    refine j_iconst (v := -1) C dX0_readCall_62 (by decide) ?_
    refine j_icmp_ne C 76 dX0_readCall_63 (by decide) (fun c63 => ?_) (fun c63 => ?_)
    · rw [o1] at c63
      refine k_iload_n C dX0_readCall_76 rfl ?_
      refine j_bipush (v := 26) C dX0_readCall_77 (by decide) ?_
      refine j_imul C dX0_readCall_79 ?_
      refine k_iload_n C dX0_readCall_80 rfl ?_
      refine j_iadd C dX0_readCall_81 ?_
      first | rw [opN c63] | rw [opP c63]
      refine k_callV (k := ub u) (ci := 3) (As := [.int (nI 12), .int (nI (opX me o m))]) C mX0_131 (t_emit hw hS hc (nI 12) (nI (opX me o m))) jCl3.1 (by omega) k3 rfl rfl (Nat.le_of_ble_eq_true rfl) (jroom hR (by omega) (by decide)) dX0_readCall_82 ?_
      rintro v9 h9 ⟨⟨c9, -, rfl, -⟩, hc⟩
      refine j_pop C dX0_readCall_85 rfl ?_
      refine k_aloadN C dX0_readCall_86 rfl ?_
      refine j_ifnonnullN C dX0_readCall_88 ?_
      refine k_aload_n C dX0_readCall_91 rfl ?_
      refine j_iconst (v := 1) C dX0_readCall_92 (by decide) ?_
      refine j_putz C fX0_38 rfl rfl (by first | decide | assumption) (by first | decide | omega) (by first | assumption | rfl) dX0_readCall_93 ?_
      refine j_iconst (v := 1) C dX0_readCall_96 (by decide) ?_
      exact j_iret C hrt hE dX0_readCall_97 ⟨_, _, cAt_bad hS hc, f1 rfl⟩
    · rw [o1] at c63
      refine k_aload_n C dX0_readCall_66 rfl ?_
      refine j_getr C fX0_22 rfl (by first | decide | omega) (by first | assumption | rfl) (cAt_un hS hc) dX0_readCall_67 ?_
      refine j_geti C fX0_61 rfl (by omega) k3 dX0_readCall_70 ?_
      rw [cAt_me hS hc]
      refine j_goto C 77 dX0_readCall_73 (by decide) ?_
      refine j_bipush (v := 26) C dX0_readCall_77 (by decide) ?_
      refine j_imul C dX0_readCall_79 ?_
      refine k_iload_n C dX0_readCall_80 rfl ?_
      refine j_iadd C dX0_readCall_81 ?_
      first | rw [opN c63] | rw [opP c63]
      refine k_callV (k := ub u) (ci := 3) (As := [.int (nI 12), .int (nI (opX me o m))]) C mX0_131 (t_emit hw hS hc (nI 12) (nI (opX me o m))) jCl3.1 (by omega) k3 rfl rfl (Nat.le_of_ble_eq_true rfl) (jroom hR (by omega) (by decide)) dX0_readCall_82 ?_
      rintro v9 h9 ⟨⟨c9, -, rfl, -⟩, hc⟩
      refine j_pop C dX0_readCall_85 rfl ?_
      refine k_aloadN C dX0_readCall_86 rfl ?_
      refine j_ifnonnullN C dX0_readCall_88 ?_
      refine k_aload_n C dX0_readCall_91 rfl ?_
      refine j_iconst (v := 1) C dX0_readCall_92 (by decide) ?_
      refine j_putz C fX0_38 rfl rfl (by first | decide | assumption) (by first | decide | omega) (by first | assumption | rfl) dX0_readCall_93 ?_
      refine j_iconst (v := 1) C dX0_readCall_96 (by decide) ?_
      exact j_iret C hrt hE dX0_readCall_97 ⟨_, _, cAt_bad hS hc, f1 rfl⟩
  have restR : ∀ (h : jH) (i s : Nat), i < 6 → lkp hs o m = some s → s < 256 → h.1 (ub u + 3 + i) 2 = nI s → cAt h0 h u n a1 md1 → J X w h 18 [(0, .ref (jad w 13)), (1, .int (oI o)), (2, .int (nI dp)), (3, .int (nI m))] [.ref (jad w (ub u + 3 + i))] := by
    intro h i s hi hl0 hs9 hsg hc
    have k8 := k7 i hi
    refine k_astore C dX0_readCall_18 (by rw [hnL]; decide) ?_
    refine k_aload C dX0_readCall_20 rfl ?_
    refine j_ifnonnull C 29 dX0_readCall_22 (by decide) ?_
    refine k_aload C dX0_readCall_29 rfl ?_
    refine j_geti C fX0_94 rfl (by first | decide | omega) (by first | assumption | rfl) dX0_readCall_31 ?_
    rw [hsg]
    refine k_istore C dX0_readCall_34 (by rw [hnL]; decide) ?_
    refine k_aload_n C dX0_readCall_36 rfl ?_
    refine j_bipush (v := 40) C dX0_readCall_37 (by decide) ?_
    refine k_callV (k := 13) (ci := 0) (As := [.int (nI 40)]) C mX0_68 (t_take hw hS hc (ch := 40) (by decide) (by decide)) jCl0.1 (by first | decide | omega) (by first | assumption | rfl) rfl rfl (Nat.le_of_ble_eq_true rfl) (jroom hR (by first | decide | omega) (by decide)) dX0_readCall_39 ?_
    rintro v9 h9 ⟨rfl, hc⟩
    rw [← e2] at hc
    refine k_aload_n C dX0_readCall_42 rfl ?_
    refine k_iload C dX0_readCall_43 rfl ?_
    refine k_iload_n C dX0_readCall_45 rfl ?_
    refine k_callV (k := 13) (ci := 0) (As := [.int (nI s), .int (nI dp)]) C mX0_176 (c_readArguments (bs := bs) (cs := some s) hw hS hd hE' hs9 h1a hc hb2) jCl0.1 (by first | decide | omega) (by first | assumption | rfl) rfl rfl (Nat.le_of_ble_eq_true rfl) (jroom hR (by first | decide | omega) (by decide)) dX0_readCall_46 ?_
    rintro v9 h9 ⟨rfl, a3, md3, hc, hg⟩
    have ha3 := hc.1
    obtain ⟨-, f2⟩ := fin (cs := some s) hl0.symm ha3 hg
    refine k_aload_n C dX0_readCall_49 rfl ?_
    refine j_bipush (v := 41) C dX0_readCall_50 (by decide) ?_
    refine k_callV (k := 13) (ci := 0) (As := [.int (nI 41)]) C mX0_68 (t_take hw hS hc (ch := 41) (by decide) (by decide)) jCl0.1 (by first | decide | omega) (by first | assumption | rfl) rfl rfl (Nat.le_of_ble_eq_true rfl) (jroom hR (by first | decide | omega) (by decide)) dX0_readCall_52 ?_
    rintro v9 h9 ⟨rfl, hc⟩
    refine k_aload_n C dX0_readCall_55 rfl ?_
    refine j_getr C fX0_22 rfl (by first | decide | omega) (by first | assumption | rfl) (cAt_un hS hc) dX0_readCall_56 ?_
    refine j_bipush (v := 12) C dX0_readCall_59 (by decide) ?_
    refine k_iload_n C dX0_readCall_61 rfl ?_
    refine j_iconst (v := -1) C dX0_readCall_62 (by decide) ?_
    refine j_icmp_ne C 76 dX0_readCall_63 (by decide) (fun c63 => ?_) (fun c63 => ?_)
    · rw [o1] at c63
      refine k_iload_n C dX0_readCall_76 rfl ?_
      refine j_bipush (v := 26) C dX0_readCall_77 (by decide) ?_
      refine j_imul C dX0_readCall_79 ?_
      refine k_iload_n C dX0_readCall_80 rfl ?_
      refine j_iadd C dX0_readCall_81 ?_
      first | rw [opN c63] | rw [opP c63]
      refine k_callV (k := ub u) (ci := 3) (As := [.int (nI 12), .int (nI (opX me o m))]) C mX0_131 (t_emit hw hS hc (nI 12) (nI (opX me o m))) jCl3.1 (by omega) k3 rfl rfl (Nat.le_of_ble_eq_true rfl) (jroom hR (by omega) (by decide)) dX0_readCall_82 ?_
      rintro v9 h9 ⟨⟨c9, -, rfl, -⟩, hc⟩
      refine j_pop C dX0_readCall_85 rfl ?_
      refine k_aload C dX0_readCall_86 rfl ?_
      refine j_ifnonnull C 98 dX0_readCall_88 (by decide) ?_
      refine k_iload C dX0_readCall_98 rfl ?_
      refine j_iconst (v := 0) C dX0_readCall_100 (by decide) ?_
      refine k_callS (As := [.int (nI s), .int (nI 0)]) C mX0_120 (m_typeAt hw hs9 (k := 0) (by omega)) rfl rfl (Nat.le_of_ble_eq_true rfl) (jroom hR (by first | decide | omega) (by decide)) dX0_readCall_101 ?_
      rintro v9 h9 ⟨rfl, rfl⟩
      exact j_iret C hrt hE dX0_readCall_104 ⟨_, _, hc, f2 s rfl⟩
    · rw [o1] at c63
      refine k_aload_n C dX0_readCall_66 rfl ?_
      refine j_getr C fX0_22 rfl (by first | decide | omega) (by first | assumption | rfl) (cAt_un hS hc) dX0_readCall_67 ?_
      refine j_geti C fX0_61 rfl (by omega) k3 dX0_readCall_70 ?_
      rw [cAt_me hS hc]
      refine j_goto C 77 dX0_readCall_73 (by decide) ?_
      refine j_bipush (v := 26) C dX0_readCall_77 (by decide) ?_
      refine j_imul C dX0_readCall_79 ?_
      refine k_iload_n C dX0_readCall_80 rfl ?_
      refine j_iadd C dX0_readCall_81 ?_
      first | rw [opN c63] | rw [opP c63]
      refine k_callV (k := ub u) (ci := 3) (As := [.int (nI 12), .int (nI (opX me o m))]) C mX0_131 (t_emit hw hS hc (nI 12) (nI (opX me o m))) jCl3.1 (by omega) k3 rfl rfl (Nat.le_of_ble_eq_true rfl) (jroom hR (by omega) (by decide)) dX0_readCall_82 ?_
      rintro v9 h9 ⟨⟨c9, -, rfl, -⟩, hc⟩
      refine j_pop C dX0_readCall_85 rfl ?_
      refine k_aload C dX0_readCall_86 rfl ?_
      refine j_ifnonnull C 98 dX0_readCall_88 (by decide) ?_
      refine k_iload C dX0_readCall_98 rfl ?_
      refine j_iconst (v := 0) C dX0_readCall_100 (by decide) ?_
      refine k_callS (As := [.int (nI s), .int (nI 0)]) C mX0_120 (m_typeAt hw hs9 (k := 0) (by omega)) rfl rfl (Nat.le_of_ble_eq_true rfl) (jroom hR (by first | decide | omega) (by decide)) dX0_readCall_101 ?_
      rintro v9 h9 ⟨rfl, rfl⟩
      exact j_iret C hrt hE dX0_readCall_104 ⟨_, _, hc, f2 s rfl⟩
  show J X w h 0 [(0, .ref (jad w 13)), (1, .int (oI o)), (2, .int (nI dp))] []
  refine k_aload_n C dX0_readCall_0 rfl ?_
  refine j_bipush (v := 97) C dX0_readCall_1 (by decide) ?_
  refine j_bipush (v := 122) C dX0_readCall_3 (by decide) ?_
  refine k_callV (k := 13) (ci := 0) (As := [.int (nI 97), .int (nI 122)]) C mX0_57 (t_readAmong hw hS hc (lo := 97) (hi := 122) (by omega) (by omega) (by omega)) jCl0.1 (by first | decide | omega) (by first | assumption | rfl) rfl rfl (Nat.le_of_ble_eq_true rfl) (jroom hR (by first | decide | omega) (by decide)) dX0_readCall_5 ?_
  rintro v9 h9 ⟨rfl, hc⟩
  rw [← e1] at hc
  rw [← hm9]
  refine k_istore_n C dX0_readCall_8 (by rw [hnL]; decide) ?_
  refine k_aload_n C dX0_readCall_9 rfl ?_
  refine j_getr C fX0_22 rfl (by first | decide | omega) (by first | assumption | rfl) (cAt_un hS hc) dX0_readCall_10 ?_
  refine k_iload_n C dX0_readCall_13 rfl ?_
  refine k_iload_n C dX0_readCall_14 rfl ?_
  refine k_callV (k := ub u) (ci := 3) (As := [.int (oI o), .int (nI m)]) C mX0_87 (t_find hw hS hc ho hm26) jCl3.1 (by omega) k3 rfl rfl (Nat.le_of_ble_eq_true rfl) (jroom hR (by omega) (by decide)) dX0_readCall_15 ?_
  rintro v9 h9 ⟨rfl, (⟨hl0, rfl⟩ | ⟨i, s, hi, hl0, hs9, hsg, rfl⟩)⟩
  · exact restN _ hl0 hc
  · exact restR _ i s hi hl0 hs9 hsg hc
end RDD
