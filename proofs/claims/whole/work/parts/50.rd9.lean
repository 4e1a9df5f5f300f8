/-- what readArguments has done -/
def gRel (me bs : Nat) (md : cMd) (s : Nat) (R : Option (Nat × Nat × (Nat → Nat → TA))) (a' : Nat) (md' : cMd) : Prop := match md, R with
  | none, _ => md' = none
  | some _, none => md' = none
  | some none, some p => a' = p.1 ∧ md' = some none
  | some (some z), some p => a' = p.1 ∧ match p.2.2 bs z.2.1 with
    | none => md' = some none
    | some v => if ta s (p.2.1 + 1) = 0 then ∃ F' : Nat → Int32, md' = some (some (z.1 + cpos v.1, z.2.1, max z.2.2.1 v.2.1, F')) ∧ (∀ p, p < z.1 → F' p = z.2.2.2 p) ∧ ∀ P : Nat → Nat, P bs = z.1 → cmp P bs v.1 → Rep F' me P bs v.1 else md' = some none
theorem j_drop {X : jX} {w : jW} {h : jH} {pc : Nat} {lv ex : List (Nat × Value)} {r : List Value} (k : J X w h pc lv r) : J X w h pc (lv ++ ex) r := j_mono (fun q hq => List.mem_append_left _ hq) k
section RDA
variable {l : Launch} {w : jW} {h0 h : jH} {u : Nat} {t : Nat → Nat} {n : Nat} {hs : List (Nat × Nat × Nat)} {me sg bs : Nat} {a a' : Nat} {md md' : cMd} {r : Option Value} {dp d : Nat} {sub : Nat → PR}
theorem gFin {cs : Option Nat} {q : Nat → Nat → TA} {k a1 : Nat} {mk : cMd} {wd : Int32} (hn : n ≤ 120) (ha1 : a1 ≤ n) (hbk : cBd a1 mk) (hm : md ≠ none) (hA : aRel me bs md q mk wd) : gRel me bs md (cs.getD 0) (some (a1, k, q)) a1 (oRl wd.toNatClampNeg (oNd 0 (nI (ta (cs.getD 0) (k + 1))) mk)) := by
  have ht := ta_le (cs.getD 0) (k + 1)
  rcases md with _ | _ | z
  · exact absurd rfl hm
  · have : mk = some none := hA
    subst this
    exact ⟨rfl, by rw [oNd_bad]; rfl⟩
  · refine ⟨rfl, ?_⟩
    unfold aRel at hA
    simp only at hA
    show (match q bs z.2.1 with
      | none => _
      | some v => _)
    rcases hq : q bs z.2.1 with _ | ⟨e, m, hc⟩
    · rw [hq] at hA
      have : mk = some none := hA
      subst this
      show oRl _ (oNd _ _ (some none)) = some none
      rw [oNd_bad]; rfl
    · rw [hq] at hA
      obtain ⟨b1, b2, F', rfl, l1, r1⟩ := hA
      dsimp only at b1 b2 l1 r1
      show (if ta (cs.getD 0) (k + 1) = 0 then _ else _)
      by_cases hz : ta (cs.getD 0) (k + 1) = 0
      · rw [if_pos hz]
        refine ⟨F', ?_, l1, r1⟩
        rw [hz, oNd_t (show (0 : Int32) = nI 0 from rfl)]
        have b9 := hbk _ rfl
        dsimp only at b9
        rw [b2, nI_clamp (by omega)]
        simp only [oRl, Option.some.injEq, Prod.mk.injEq]
        refine ⟨trivial, by omega, trivial⟩
      · have hz9 : ¬ (0 : Int32) = nI (ta (cs.getD 0) (k + 1)) := fun e => hz ((nI_eq (a := ta (cs.getD 0) (k + 1)) (b := 0) (by omega) (by omega)).mp e.symm)
        rw [if_neg hz, oNd_b2 hz9]
        rfl
theorem aRel_0 {wd : Int32} (hw : wd = 0) : aRel me bs md (fun _ hd => some ([], 0, hd)) md wd := by
  rcases md with _ | _ | z
  · rfl
  · rfl
  · refine ⟨Nat.le_refl _, by rw [hw]; dsimp only; rw [Nat.sub_self]; rfl, z.2.2.2, ?_, fun _ _ => rfl, fun _ _ _ => trivial⟩
    simp [cpos]
theorem hold_ok2 {a1 : Nat} {md1 : cMd} {x y : Int32} {ak : Nat} {mk : cMd} {b9 : Nat} {sub : Nat → PR} (hn : n ≤ 120) (ha : a1 ≤ n) (hz : szs sub) (h : cBe a1 md1) (hr : cRel me b9 mk (sub ak) a1 md1 (some (.int x))) : ∀ q, oNd y x md1 = some (some q) → x = nI x.toNatClampNeg ∧ x.toNatClampNeg ≤ 2 ∧ q.2.1 ≤ 1000 ∧ q.2.2.1 ≤ 1000 := by
  intro q hq
  obtain ⟨-, e2⟩ := oNd_ok hq
  subst e2
  have := h q rfl
  rcases mk with _ | m
  · cases hr.1
  · rcases cRel_cases (by simp) hr with ⟨-, e⟩ | ⟨f, -, e, -⟩ | ⟨f, p, z, e, m2, F', e1, e2, e3, e4, e5, -⟩
    · cases e
    · cases e
    · have hx : x = nI z := by simpa using e4
      have := (hz _ _ _ e1 _ _ _ _ _ e3).1
      subst hx
      rw [nI_clamp (by omega)]
      exact ⟨rfl, by omega, by omega, by omega⟩
theorem cBd_hold2 {a1 : Nat} {md1 : cMd} {x y : Int32} (h : cBe a1 md1) (hx : ∀ q, oNd y x md1 = some (some q) → x.toNatClampNeg ≤ 2) : cBd a1 (oHo x.toNatClampNeg (oNd y x md1)) := by
  intro q hq
  obtain ⟨p, e1, rfl⟩ := oHo_ok hq
  have hx' := hx p e1
  obtain ⟨-, e2⟩ := oNd_ok e1
  have := h p e2
  have : emC p.1 ≤ p.1 + 1 := by unfold emC; split <;> omega
  dsimp only
  omega
theorem cBd_up {a1 a2 : Nat} (h : cBd a1 md) (h2 : a1 ≤ a2) : cBd a2 md := fun q e => by have := h q e; omega
theorem aRel_wd {q : Nat → Nat → TA} {mk : cMd} {wd y z0 : Int32} {a1 : Nat} (hn : n ≤ 120) (ha1 : a1 ≤ n) (hbk : cBd a1 mk) (hA : aRel me bs md q mk wd) : ∀ z, oNd y z0 mk = some (some z) → wd = nI wd.toNatClampNeg ∧ wd.toNatClampNeg ≤ z.2.1 := by
  intro z hz
  obtain ⟨-, e⟩ := oNd_ok hz
  subst e
  have b := hbk z rfl
  rcases md with _ | _ | p
  · cases hA
  · cases hA
  · unfold aRel at hA
    simp only at hA
    split at hA
    · cases hA
    · obtain ⟨b1, b2, F', e, -⟩ := hA
      simp only [Option.some.injEq] at e
      subst e
      dsimp only at b
      rw [b2, nI_clamp (by omega)]
      exact ⟨rfl, by dsimp only; omega⟩
theorem c_readArguments (hw : jok w) (hS : cS h0 u t n hs me sg) (hd : 2 ≤ d) (hE' : cSub l w h0 u n me dp d sub) {cs : Option Nat} (hcs : cs.getD 0 < 256) (h1a : 1 ≤ a ∨ md = none) (hc : cAt h0 h u n a md) (hb : cBd a md) : jM l w yX0_readArguments cX0_readArguments 8 none (d + 1) [.ref (jad w 13), .int (nI (cs.getD 0)), .int (nI dp)] h (fun r h' => r = none ∧ ∃ a' md', cAt h0 h' u n a' md' ∧ gRel me bs md (cs.getD 0) (if pek t n a = 41 then some (a, 0, fun _ hd => some ([], 0, hd)) else pArgs t n sub cs (n - a) 0 a (fun _ hd => some ([], 0, hd))) a' md') := by
  refine jM_of (by decide) hw (Nat.le_of_ble_eq_true rfl) ?_
  intro X C hl hR hnL hrt hE
  subst hl
  have C : jC X w cX0_readArguments RX0 := C
  have hn := cS_n hS
  obtain ⟨s, hs9⟩ : ∃ s, s = cs.getD 0 := ⟨_, rfl⟩
  rw [← hs9] at hcs hE ⊢
  show J X w h 0 [(0, .ref (jad w 13)), (1, .int (nI s)), (2, .int (nI dp))] []
  have fin : ∀ (h : jH) (a1 k : Nat) (mk : cMd) (wd mo i : Int32), k < 900 → cAt h0 h u n a1 mk → (gRel me bs md s (if pek t n a = 41 then some (a, 0, fun _ hd => some ([], 0, hd)) else pArgs t n sub cs (n - a) 0 a (fun _ hd => some ([], 0, hd))) a1 (oRl wd.toNatClampNeg (oNd 0 (nI (ta s (k + 1))) mk)) ∧ ∀ z, oNd 0 (nI (ta s (k + 1))) mk = some (some z) → wd = nI wd.toNatClampNeg ∧ wd.toNatClampNeg ≤ z.2.1) → J X w h 84 [(0, .ref (jad w 13)), (1, .int (nI s)), (2, .int (nI dp)), (3, .int (nI k)), (4, .int wd), (5, .int mo), (6, .int i)] [] := by
    intro h a1 k mk wd mo i hk hc hg
    obtain ⟨hg1, hg2⟩ := hg
    refine k_aload_n C dX0_readArguments_84 rfl ?_
    refine j_iconst (v := 0) C dX0_readArguments_85 (by decide) ?_
    refine k_iload_n C dX0_readArguments_86 rfl ?_
    refine k_iload_n C dX0_readArguments_87 rfl ?_
    refine j_iconst (v := 1) C dX0_readArguments_88 (by decide) ?_
    refine j_iadd C dX0_readArguments_89 ?_
    rw [nI_1]
    refine k_callS (As := [.int (nI s), .int (nI (k + 1))]) C mX0_120 (m_typeAt hw hcs (k := k + 1) (by omega)) rfl rfl (Nat.le_of_ble_eq_true rfl) (jroom hR (by first | decide | omega) (by decide)) dX0_readArguments_90 ?_
    rintro v9 h9 ⟨rfl, rfl⟩
    refine k_callV (k := 13) (ci := 0) (As := [.int 0, .int (nI (ta s (k + 1)))]) C mX0_127 (t_need hw hS hc 0 (nI (ta s (k + 1)))) jCl0.1 (by first | decide | omega) (by first | assumption | rfl) rfl rfl (Nat.le_of_ble_eq_true rfl) (jroom hR (by first | decide | omega) (by decide)) dX0_readArguments_93 ?_
    rintro v9 h9 ⟨rfl, hc⟩
    refine k_aload_n C dX0_readArguments_96 rfl ?_
    refine k_iload C dX0_readArguments_97 rfl ?_
    refine k_callV (k := 13) (ci := 0) (As := [.int wd]) C mX0_142 (t_release hw hS hc wd wd.toNatClampNeg hg2) jCl0.1 (by first | decide | omega) (by first | assumption | rfl) rfl rfl (Nat.le_of_ble_eq_true rfl) (jroom hR (by first | decide | omega) (by decide)) dX0_readArguments_99 ?_
    rintro v9 h9 ⟨rfl, hc⟩
    exact j_vret C hrt hE dX0_readArguments_102 (⟨rfl, _, _, hc, hg1⟩)
  have out : ∀ (h : jH) (a1 k : Nat) (mk : cMd) (wd i : Int32), k < 900 → cAt h0 h u n a1 mk → (gRel me bs md s (if pek t n a = 41 then some (a, 0, fun _ hd => some ([], 0, hd)) else pArgs t n sub cs (n - a) 0 a (fun _ hd => some ([], 0, hd))) a1 (oRl wd.toNatClampNeg (oNd 0 (nI (ta s (k + 1))) mk)) ∧ ∀ z, oNd 0 (nI (ta s (k + 1))) mk = some (some z) → wd = nI wd.toNatClampNeg ∧ wd.toNatClampNeg ≤ z.2.1) → J X w h 24 [(0, .ref (jad w 13)), (1, .int (nI s)), (2, .int (nI dp)), (3, .int (nI k)), (4, .int wd), (5, .int 0), (6, .int i)] [] := by
    intro h a1 k mk wd i hk hc hg
    refine k_iload C dX0_readArguments_24 rfl ?_
    refine j_bipush (v := 120) C dX0_readArguments_26 (by decide) ?_
    refine j_icmp_ge C 84 dX0_readArguments_28 (by decide) (fun c28 => ?_) (fun c28 => ?_)
    · exact fin h a1 k mk wd 0 i hk hc hg
    · refine k_iload C dX0_readArguments_31 rfl ?_
      refine j_if_eq C 84 dX0_readArguments_33 (by decide) (fun c33 => ?_) (fun c33 => ?_)
      · exact fin h a1 k mk wd 0 i hk hc hg
      · exact absurd rfl c33 -- stop
  have iter : ∀ (h : jH) (k ak b9 : Nat) (mk : cMd) (wd : Int32), k < 120 → cAt h0 h u n ak mk → cBd ak mk → (∀ (h' : jH) (a1 : Nat) (md1 : cMd) (x : Int32), a1 ≤ n → (md1 = none → a1 = n) → cBe a1 md1 → cRel me b9 mk (sub ak) a1 md1 (some (.int x)) → cBd a1 (oHo x.toNatClampNeg (oNd (nI (ta s (k + 1))) x md1)) → cAt h0 h' u n (if pek t n a1 = 44 then a1 + 1 else a1) (oHo x.toNatClampNeg (oNd (nI (ta s (k + 1))) x md1)) → J X w h' 24 [(0, .ref (jad w 13)), (1, .int (nI s)), (2, .int (nI dp)), (3, .int (nI (k + 1))), (4, .int (wd + x)), (5, .int (if pek t n a1 = 44 then 1 else 0)), (6, .int (nI (k + 1)))] []) → J X w h 24 [(0, .ref (jad w 13)), (1, .int (nI s)), (2, .int (nI dp)), (3, .int (nI k)), (4, .int wd), (5, .int 1), (6, .int (nI k))] [] := by
    intro h k ak b9 mk wd hk hc hb kk
    refine k_iload C dX0_readArguments_24 rfl ?_
    refine j_bipush (v := 120) C dX0_readArguments_26 (by decide) ?_
    refine j_icmp_ge C 84 dX0_readArguments_28 (by decide) (fun c28 => ?_) (fun c28 => ?_)
    · exact absurd c28 (nI_ge (a := k) (b := 120) (by omega) (by omega)) -- stop
    · refine k_iload C dX0_readArguments_31 rfl ?_
      refine j_if_eq C 84 dX0_readArguments_33 (by decide) (fun c33 => ?_) (fun c33 => ?_)
      · exact absurd c33 (by decide) -- stop
      · refine k_aload_n C dX0_readArguments_36 rfl ?_
        refine k_iload_n C dX0_readArguments_37 rfl ?_
        refine k_callV (k := 13) (ci := 0) (As := [.int (nI dp)]) C mX0_123 (hE'.2.2 _ ak b9 mk hc hb) jCl0.1 (by first | decide | omega) (by first | assumption | rfl) rfl rfl (Nat.le_of_ble_eq_true rfl) (jroom hR (by first | decide | omega) (by decide)) dX0_readArguments_38 ?_
        rintro v9 h9 ⟨a1, md1, hc, hr1⟩
        obtain ⟨x, rfl⟩ := cRel_int hr1
        have hb1 := cRel_bd hE'.1 hE'.2.1 hb hr1
        have ha1 := hc.1
        have hz1 : md1 = none → a1 = n := fun e => by subst e; exact hc.2.1
        refine k_istore C dX0_readArguments_41 (by rw [hnL]; decide) ?_
        refine k_iinc C dX0_readArguments_43 rfl rfl (by rw [hnL]; decide) ?_
        rw [show nI k + Int32.ofInt 1 = nI (k + 1) from nI_1 k]
        refine k_aload_n C dX0_readArguments_46 rfl ?_
        refine k_iload_n C dX0_readArguments_47 rfl ?_
        refine k_iload_n C dX0_readArguments_48 rfl ?_
        refine k_callS (As := [.int (nI s), .int (nI (k + 1))]) C mX0_120 (m_typeAt hw hcs (k := k + 1) (by omega)) rfl rfl (Nat.le_of_ble_eq_true rfl) (jroom hR (by first | decide | omega) (by decide)) dX0_readArguments_49 ?_
        rintro v9 h9 ⟨rfl, rfl⟩
        refine k_iload C dX0_readArguments_52 rfl ?_
        refine k_callV (k := 13) (ci := 0) (As := [.int (nI (ta s (k + 1))), .int x]) C mX0_127 (t_need hw hS hc (nI (ta s (k + 1))) x) jCl0.1 (by first | decide | omega) (by first | assumption | rfl) rfl rfl (Nat.le_of_ble_eq_true rfl) (jroom hR (by first | decide | omega) (by decide)) dX0_readArguments_54 ?_
        rintro v9 h9 ⟨rfl, hc⟩
        refine k_aload_n C dX0_readArguments_57 rfl ?_
        refine k_iload C dX0_readArguments_58 rfl ?_
        refine k_callV (k := 13) (ci := 0) (As := [.int x]) C mX0_138 (t_hold hw hS hc x x.toNatClampNeg (hold_ok2 hn ha1 hE'.2.1 hb1 hr1)) jCl0.1 (by first | decide | omega) (by first | assumption | rfl) rfl rfl (Nat.le_of_ble_eq_true rfl) (jroom hR (by first | decide | omega) (by decide)) dX0_readArguments_60 ?_
        rintro v9 h9 ⟨rfl, hc⟩
        refine k_iload C dX0_readArguments_63 rfl ?_
        refine k_iload C dX0_readArguments_65 rfl ?_
        refine j_iadd C dX0_readArguments_67 ?_
        refine k_istore C dX0_readArguments_68 (by rw [hnL]; decide) ?_
        refine k_aload_n C dX0_readArguments_70 rfl ?_
        refine j_bipush (v := 44) C dX0_readArguments_71 (by decide) ?_
        refine k_callV (k := 13) (ci := 0) (As := [.int (nI 44)]) C mX0_82 (t_takeIf hw hS hc (ch := 44) (by decide) (by decide)) jCl0.1 (by first | decide | omega) (by first | assumption | rfl) rfl rfl (Nat.le_of_ble_eq_true rfl) (jroom hR (by first | decide | omega) (by decide)) dX0_readArguments_73 ?_
        rintro v9 h9 ⟨rfl, hc⟩
        refine k_istore C dX0_readArguments_76 (by rw [hnL]; decide) ?_
        refine k_iinc C dX0_readArguments_78 rfl rfl (by rw [hnL]; decide) ?_
        refine j_goto C 24 dX0_readArguments_81 (by decide) ?_
        rw [show nI k + Int32.ofInt 1 = nI (k + 1) from nI_1 k]
        refine j_drop (lv := [(0, .ref (jad w 13)), (1, .int (nI s)), (2, .int (nI dp)), (3, .int (nI (k + 1))), (4, .int (wd + x)), (5, .int (if pek t n a1 = 44 then 1 else 0)), (6, .int (nI (k + 1)))]) (ex := [(7, .int x)]) ?_
        exact kk _ a1 md1 x ha1 hz1 hb1 hr1 (cBd_hold2 hb1 (fun q e => (hold_ok2 hn ha1 hE'.2.1 hb1 hr1 q e).2.1)) hc
  by_cases h41 : pek t n a = 41
  · have hm := cAt_ne hc h41 (by decide)
    refine j_iconst (v := 0) C dX0_readArguments_0 (by decide) ?_
    refine k_istore_n C dX0_readArguments_1 (by rw [hnL]; decide) ?_
    refine j_iconst (v := 0) C dX0_readArguments_2 (by decide) ?_
    refine k_istore C dX0_readArguments_3 (by rw [hnL]; decide) ?_
    refine k_aload_n C dX0_readArguments_5 rfl ?_
    refine k_callV (k := 13) (ci := 0) (As := []) C mX0_64 (t_peek hw hS hc) jCl0.1 (by first | decide | omega) (by first | assumption | rfl) rfl rfl (Nat.le_of_ble_eq_true rfl) (jroom hR (by first | decide | omega) (by decide)) dX0_readArguments_6 ?_
    rintro v9 h9 ⟨rfl, rfl⟩
    refine j_bipush (v := 41) C dX0_readArguments_9 (by decide) ?_
    refine j_icmp_eq C 18 dX0_readArguments_11 (by decide) (fun c11 => ?_) (fun c11 => ?_)
    · refine j_iconst (v := 0) C dX0_readArguments_18 (by decide) ?_
      refine k_istore C dX0_readArguments_19 (by rw [hnL]; decide) ?_
      refine j_iconst (v := 0) C dX0_readArguments_21 (by decide) ?_
      refine k_istore C dX0_readArguments_22 (by rw [hnL]; decide) ?_
      exact out _ a 0 md 0 0 (by omega) hc ⟨by rw [if_pos h41, hs9]; exact gFin hn hc.1 hb hm (aRel_0 rfl), aRel_wd (me := me) (bs := bs) hn hc.1 hb (aRel_0 rfl)⟩
    · exact absurd (by rw [h41]; rfl) c11 -- stop
  · rw [if_neg h41] at hE
    simp only [if_neg h41] at out
    clear fin
    obtain ⟨R, hRe⟩ : ∃ R, R = pArgs t n sub cs (n - a) 0 a (fun _ hd => some ([], 0, hd)) := ⟨_, rfl⟩
    simp only [← hRe] at out
    have nn : ∀ (wd : Int32) (k : Nat), oRl wd.toNatClampNeg (oNd 0 (nI (ta s (k + 1))) none) = none := fun _ _ => rfl
    have gnone : (md ≠ none → R = none) → ∀ a1 : Nat, gRel me bs md s R a1 none := by
      intro hh a1
      rcases md with _ | m
      · exact rfl
      · rw [hh (by simp)]; exact rfl
    have loop : ∀ (f k ak : Nat) (q : Nat → Nat → TA) (mk : cMd) (h : jH) (wd : Int32), n - ak ≤ f → k < 120 → cAt h0 h u n ak mk → cBd ak mk → ((mk = none ∧ (md ≠ none → R = none)) ∨ (md ≠ none ∧ mk ≠ none ∧ aRel me bs md q mk wd ∧ k + 1 ≤ ak ∧ R = pArgs t n sub cs f k ak q)) → J X w h 24 [(0, .ref (jad w 13)), (1, .int (nI s)), (2, .int (nI dp)), (3, .int (nI k)), (4, .int wd), (5, .int 1), (6, .int (nI k))] [] := by
      intro f
      induction f with
      | zero =>
        intro k ak q mk h wd hf hk hc hb hcase
        refine iter h k ak (bsA bs md q) mk wd hk hc hb ?_
        intro h' a1 md1 x ha1 hz1 hb1 hr hbd hc'
        have hnone : md1 = none ∧ (md ≠ none → R = none) := by
          rcases hcase with ⟨rfl, h2⟩ | ⟨hm, hmk, hA, -, h2⟩
          · exact ⟨cRel_n hr, h2⟩
          · rcases cRel_syn hmk hr with ⟨-, e⟩ | ⟨g, e, -⟩
            · exact ⟨e, fun _ => by rw [h2]; rfl⟩
            · have := hE'.1 _ _ _ e; omega
        obtain ⟨rfl, hR0⟩ := hnone
        have e44 : ¬ pek t n a1 = 44 := by rw [hz1 rfl, pek_ge (Nat.le_refl _)]; decide
        simp only [if_neg e44] at hc' ⊢
        exact out h' a1 (k + 1) none (wd + x) (nI (k + 1)) (by omega) hc' ⟨gnone hR0 a1, fun z e => by cases e⟩
      | succ f ih =>
        intro k ak q mk h wd hf hk hc hb hcase
        refine iter h k ak (bsA bs md q) mk wd hk hc hb ?_
        intro h' a1 md1 x ha1 hz1 hb1 hr hbd hc'
        have hcase2 : (md1 = none ∧ (md ≠ none → R = none)) ∨ (md ≠ none ∧ mk ≠ none ∧ aRel me bs md q mk wd ∧ k + 1 ≤ ak ∧ md1 ≠ none ∧ ∃ g, sub ak = some (a1, g) ∧ R = if pek t n a1 = 44 then pArgs t n sub cs f (k + 1) (a1 + 1) (fun bs hd => tArg cs k (q bs hd) g bs) else some (a1, k + 1, fun bs hd => tArg cs k (q bs hd) g bs)) := by
          rcases hcase with ⟨rfl, h2⟩ | ⟨hm, hmk, hA, hka, h2⟩
          · exact Or.inl ⟨cRel_n hr, h2⟩
          · rcases cRel_syn hmk hr with ⟨e0, e⟩ | ⟨g, e, hm1⟩
            · exact Or.inl ⟨e, fun _ => by rw [h2]; unfold pArgs; rw [e0]⟩
            · exact Or.inr ⟨hm, hmk, hA, hka, hm1, g, e, by rw [h2]; conv => lhs; unfold pArgs; rw [e]⟩
        rcases hcase2 with ⟨rfl, hR0⟩ | ⟨hm, hmk, hA, hka, hm1, g, e, hR1⟩
        · have e44 : ¬ pek t n a1 = 44 := by rw [hz1 rfl, pek_ge (Nat.le_refl _)]; decide
          simp only [if_neg e44] at hc' ⊢
          exact out h' a1 (k + 1) none (wd + x) (nI (k + 1)) (by omega) hc' ⟨gnone hR0 a1, fun z e => by cases e⟩
        · rw [e] at hr
          have hpg := hE'.1 _ _ _ e
          have hA' := aStep (cs := cs) (k := k) hn (hE'.2.1 _ _ _ e) hb1 ha1 hmk hm1 hm hA hr
          rw [← hs9] at hA'
          by_cases e44 : pek t n a1 = 44
          · simp only [if_pos e44] at hc' hR1 ⊢
            have := pek_in e44 (by decide)
            exact ih (k + 1) (a1 + 1) _ _ h' (wd + x) (by omega) (by omega) hc' (cBd_up hbd (by omega)) (Or.inr ⟨hm, aRel_ne hm hA', hA', by omega, hR1⟩)
          · simp only [if_neg e44] at hc' hR1 ⊢
            refine out h' a1 (k + 1) _ (wd + x) (nI (k + 1)) (by omega) hc' ⟨?_, aRel_wd hn ha1 hbd hA'⟩
            rw [hR1, hs9]
            rw [hs9] at hbd hA'
            exact gFin hn ha1 hbd hm hA'
    have hpk := pek_lt (FrTx (cAt_any hc).choose_spec.choose_spec.choose_spec.choose_spec.choose_spec.choose_spec.2.1 hS.u7 hS.2.2.1) a
    refine j_iconst (v := 0) C dX0_readArguments_0 (by decide) ?_
    refine k_istore_n C dX0_readArguments_1 (by rw [hnL]; decide) ?_
    refine j_iconst (v := 0) C dX0_readArguments_2 (by decide) ?_
    refine k_istore C dX0_readArguments_3 (by rw [hnL]; decide) ?_
    refine k_aload_n C dX0_readArguments_5 rfl ?_
    refine k_callV (k := 13) (ci := 0) (As := []) C mX0_64 (t_peek hw hS hc) jCl0.1 (by first | decide | omega) (by first | assumption | rfl) rfl rfl (Nat.le_of_ble_eq_true rfl) (jroom hR (by first | decide | omega) (by decide)) dX0_readArguments_6 ?_
    rintro v9 h9 ⟨rfl, rfl⟩
    refine j_bipush (v := 41) C dX0_readArguments_9 (by decide) ?_
    refine j_icmp_eq C 18 dX0_readArguments_11 (by decide) (fun c11 => ?_) (fun c11 => ?_)
    · exact absurd ((nI_eq (a := pek t n a) (b := 41) (by omega) (by omega)).mp c11) h41 -- stop
    · refine j_iconst (v := 1) C dX0_readArguments_14 (by decide) ?_
      refine j_goto C 19 dX0_readArguments_15 (by decide) ?_
      refine k_istore C dX0_readArguments_19 (by rw [hnL]; decide) ?_
      refine j_iconst (v := 0) C dX0_readArguments_21 (by decide) ?_
      refine k_istore C dX0_readArguments_22 (by rw [hnL]; decide) ?_
      refine loop (n - a) 0 a (fun _ hd => some ([], 0, hd)) md _ 0 (Nat.le_refl _) (by omega) hc hb ?_
      by_cases hm : md = none
      · exact Or.inl ⟨hm, fun z => absurd hm z⟩
      · exact Or.inr ⟨hm, hm, aRel_0 rfl, by rcases h1a with z | z; omega; exact absurd z hm, hRe⟩
end RDA
