/-- what an import means -/
def mnt (PG : Nat → PU) (pr : Nat → Bool) (d : HD) : Option (Nat × Nat) := if fitP PG pr d then (dfx (PG (d.1 - 1)).1 d.2.1).map (fun j => (d.1 - 1, j)) else none
def mI (o : Option (Nat × Nat)) : Int32 := match o with
  | none => -1
  | some q => nI (6 * q.1 + q.2)
section R6
variable {l : Launch} {w : jW} {h h' : jH} {sz : Nat} {G : GS} {PG : Nat → PU} {pr : Nat → Bool} {hs : List HD}
theorem bI_inj {a b : Bool} (h : bI a = bI b) : a = b := by cases a <;> cases b <;> simp [bI] at h ⊢
theorem r_meant (hw : jok w) (hr : h.2.1 70 = rMap) (hM : rM PG pr h) {m i : Nat} (hm : m < 6) (hp : pr m = true) (hi : i < (PG m).1.length) (h0 : ((PG m).1[i]).1 ≠ 0) : jM l w yX5_meant cX5_meant 5 (some .int) 1 [.ref (jad w 70), .int (nI (6 * m + i))] h (fun r h' => r = some (.int (mI (mnt PG pr ((PG m).1[i])))) ∧ h' = h) := by
  refine jM_of (by decide) hw (Nat.le_of_ble_eq_true rfl) ?_
  intro X C hl hR hnL hrt hE
  subst hl
  have C : jC X w cX5_meant RX5 := C
  obtain ⟨⟨⟨⟨-, hlen, rN⟩, rI⟩, -, -⟩, U⟩ := (hM m hm).2 hp
  obtain ⟨q1, q2, q3, q4⟩ := rN i hi
  obtain ⟨q5, q6⟩ := rI i hi
  obtain ⟨⟨u1, u2, u3, u4, u5, u6, u7⟩, u8⟩ := U.2.2.2.1 i hi
  generalize (PG m).1[i] = d at *
  obtain ⟨o, ho⟩ : ∃ o, d.1 = o + 1 := ⟨d.1 - 1, by omega⟩
  have q2' : h.1 75 (6 * m + i) = nI o := by rw [q2, ho, oI_s]
  have hdo : d.1 - 1 = o := by omega
  have hp2 := (hM o (by omega)).1
  have bad : ∀ lv : List (Nat × Value), mnt PG pr d = none → J X w h 80 lv [] := by
    intro lv e
    refine j_iconst (v := -1) C dX5_meant_80 (by decide) ?_
    exact j_iret C hrt hE dX5_meant_81 (⟨by rw [e]; rfl, rfl⟩)
  show J X w h 0 [(0, .ref (jad w 70)), (1, .int (nI (6 * m + i)))] []
  cases hpo : pr o with
  | false =>
    have e9 : mnt PG pr d = none := by unfold mnt fitP; rw [hdo, hpo]; rfl
    rw [hpo] at hp2
    refine k_aload_n C dX5_meant_0 rfl ?_
    refine j_getr C fX5_13 rfl (by first | decide | omega) (by first | assumption | rfl) (congrFun hr _) dX5_meant_1 ?_
    refine k_aload_n C dX5_meant_4 rfl ?_
    refine j_getr C fX5_24 rfl (by first | decide | omega) (by first | assumption | rfl) (congrFun hr _) dX5_meant_5 ?_
    refine k_iload_n C dX5_meant_8 rfl ?_
    refine j_iald C (by first | decide | omega) (by first | assumption | rfl) (rfl) ((by omega)) (by decide) dX5_meant_9 ?_
    refine j_zald C (by first | decide | omega) (by first | assumption | rfl) (q2') ((by omega)) (by decide) dX5_meant_10 ?_
    refine j_if_eq C 34 dX5_meant_11 (by decide) (fun c11 => ?_) (fun c11 => ?_)
    · refine j_iconst (v := -1) C dX5_meant_34 (by decide) ?_
      refine k_istore_n C dX5_meant_35 (by rw [hnL]; decide) ?_
      refine k_iload_n C dX5_meant_36 rfl ?_
      refine j_iconst (v := -1) C dX5_meant_37 (by decide) ?_
      refine j_icmp_eq C 80 dX5_meant_38 (by decide) (fun c38 => ?_) (fun c38 => ?_)
      · exact bad _ e9
      · exact absurd rfl c38 -- stop
    · exact absurd hp2 c11 -- stop
  | true =>
    rw [hpo] at hp2
    obtain ⟨⟨⟨rN2, rI2⟩, -, -⟩, U2⟩ := (hM o (by omega)).2 hpo
    have el := (lix_dfn U2.2.2.1 (fun i hi => (U2.2.2.2.1 i hi).1.2.1) (nI d.2.1)).trans (dfx_dfn (hs := (PG o).1) u2)
    have start : J X w h 35 [(0, .ref (jad w 70)), (1, .int (nI (6 * m + i)))] [.int (ixI o (dfx (PG o).1 d.2.1))] → J X w h 0 [(0, .ref (jad w 70)), (1, .int (nI (6 * m + i)))] [] := by
      intro kk
      refine k_aload_n C dX5_meant_0 rfl ?_
      refine j_getr C fX5_13 rfl (by first | decide | omega) (by first | assumption | rfl) (congrFun hr _) dX5_meant_1 ?_
      refine k_aload_n C dX5_meant_4 rfl ?_
      refine j_getr C fX5_24 rfl (by first | decide | omega) (by first | assumption | rfl) (congrFun hr _) dX5_meant_5 ?_
      refine k_iload_n C dX5_meant_8 rfl ?_
      refine j_iald C (by first | decide | omega) (by first | assumption | rfl) (rfl) ((by omega)) (by decide) dX5_meant_9 ?_
      refine j_zald C (by first | decide | omega) (by first | assumption | rfl) (q2') ((by omega)) (by decide) dX5_meant_10 ?_
      refine j_if_eq C 34 dX5_meant_11 (by decide) (fun c11 => ?_) (fun c11 => ?_)
      · exact absurd (hp2.symm.trans c11) (by decide) -- stop
      · refine k_aload_n C dX5_meant_14 rfl ?_
        refine k_aload_n C dX5_meant_15 rfl ?_
        refine j_getr C fX5_24 rfl (by first | decide | omega) (by first | assumption | rfl) (congrFun hr _) dX5_meant_16 ?_
        refine k_iload_n C dX5_meant_19 rfl ?_
        refine j_iald C (by first | decide | omega) (by first | assumption | rfl) (rfl) ((by omega)) (by decide) dX5_meant_20 ?_
        refine k_aload_n C dX5_meant_21 rfl ?_
        refine j_getr C fX5_21 rfl (by first | decide | omega) (by first | assumption | rfl) (congrFun hr _) dX5_meant_22 ?_
        refine k_iload_n C dX5_meant_25 rfl ?_
        refine j_iald C (by first | decide | omega) (by first | assumption | rfl) (rfl) ((by omega)) (by decide) dX5_meant_26 ?_
        rw [q1, q2']
        refine j_iconst (v := -1) C dX5_meant_27 (by decide) ?_
        refine k_callV (k := 70) (ci := 5) (As := [.int (nI o), .int (nI d.2.1), .int (oI 0)]) C mX5_183 (r_find hw hr (m := o) (by omega) rN2 (o := 0) (by decide) (nI d.2.1)) jCl5.1 (by first | decide | omega) (by first | assumption | rfl) rfl rfl (Nat.le_of_ble_eq_true rfl) (jroom hR (by first | decide | omega) (by decide)) dX5_meant_28 ?_
        rintro v9 h9 ⟨rfl, e9⟩
        obtain rfl := e9.symm
        rw [el]
        refine j_goto C 35 dX5_meant_31 (by decide) ?_
        exact kk
    refine start ?_
    cases hd : dfx (PG o).1 d.2.1 with
    | none =>
      have e9 : mnt PG pr d = none := by unfold mnt fitP; rw [hdo, hpo, hd]; rfl
      refine k_istore_n C dX5_meant_35 (by rw [hnL]; decide) ?_
      refine k_iload_n C dX5_meant_36 rfl ?_
      refine j_iconst (v := -1) C dX5_meant_37 (by decide) ?_
      refine j_icmp_eq C 80 dX5_meant_38 (by decide) (fun c38 => ?_) (fun c38 => ?_)
      · exact bad _ e9
      · exact absurd rfl c38 -- stop
    | some j =>
      obtain ⟨hj, -, -⟩ := dfx_some _ _ _ hd
      have hl2 := U2.1
      obtain ⟨p5, p6⟩ := rI2 j hj
      obtain ⟨⟨v1, v2, v3, v4, v5, v6, v7⟩, v8⟩ := U2.2.2.2.1 j hj
      have ef : fitP PG pr d = (((PG o).1[j]).2.2.2.1 == 1 && ((PG o).1[j]).2.2.1 == d.2.2.1) := by unfold fitP; rw [hdo, hpo, hd]; simp only [gtD hj, Bool.true_and]
      have em : mnt PG pr d = if fitP PG pr d then some (o, j) else none := by unfold mnt; rw [hdo, hd]; rfl
      rw [ef] at em
      generalize ((PG o).1[j]).2.2.1 = s2 at *
      generalize d.2.2.1 = s1 at *
      have sx := sig_ext u3 v3 u4 v4 u5 v5 u8 v8
      have hk3 := nTk_le s1
      have hk4 := nTk_le s2
      have ne : ¬ s1 = s2 → mnt PG pr d = none := fun z => by rw [em, show (s2 == s1) = false from by simp [Ne.symm z], Bool.and_false]; rfl
      have loop : ((PG o).1[j]).2.2.2.1 = 1 → nTk s2 = nTk s1 → (ta s2 0 == 2) = (ta s1 0 == 2) → ∀ (f k : Nat), k + f = nTk s1 → ∀ b : Bool, (b = true ↔ ∀ q, q < k → (ta s2 (q + 1) == 2) = (ta s1 (q + 1) == 2)) → J X w h 87 [(0, .ref (jad w 70)), (1, .int (nI (6 * m + i))), (2, .int (nI (6 * o + j))), (3, .int (bI b)), (4, .int (nI k))] [] := by
        intro x1 x2 x3 f
        induction f with
        | zero =>
          intro k hk b hb
          have eb : b = true ↔ s1 = s2 := by rw [sx, hb]; exact ⟨fun z => ⟨x2, x3, fun q hq => z q (by omega)⟩, fun z q hq => z.2.2 q (by omega)⟩
          refine k_iload C dX5_meant_87 rfl ?_
          refine k_aload_n C dX5_meant_89 rfl ?_
          refine j_getr C fX5_30 rfl (by first | decide | omega) (by first | assumption | rfl) (congrFun hr _) dX5_meant_90 ?_
          refine k_iload_n C dX5_meant_93 rfl ?_
          refine j_iald C (by first | decide | omega) (by first | assumption | rfl) (rfl) ((by omega)) (by decide) dX5_meant_94 ?_
          refine j_icmp_ge C 139 dX5_meant_95 (by decide) (fun c95 => ?_) (fun c95 => ?_)
          · refine k_iload_n C dX5_meant_139 rfl ?_
            refine j_if_eq C 147 dX5_meant_140 (by decide) (fun c140 => ?_) (fun c140 => ?_)
            · rw [bI_z] at c140
              refine j_iconst (v := -1) C dX5_meant_147 (by decide) ?_
              exact j_iret C hrt hE dX5_meant_148 (by first | exact ⟨by rw [ne (fun z => by rw [eb.mpr z] at c140; cases c140)]; rfl, rfl⟩ | exact ⟨by rw [em, x1, eb.mp (eq_true_of_ne_false c140)]; simp [mI], rfl⟩)
            · rw [bI_z] at c140
              refine k_iload_n C dX5_meant_143 rfl ?_
              refine j_goto C 148 dX5_meant_144 (by decide) ?_
              exact j_iret C hrt hE dX5_meant_148 (by first | exact ⟨by rw [ne (fun z => by rw [eb.mpr z] at c140; cases c140)]; rfl, rfl⟩ | exact ⟨by rw [em, x1, eb.mp (eq_true_of_ne_false c140)]; simp [mI], rfl⟩)
          · exact absurd (by rw [q6.1]; exact nI_le (a := nTk s1) (b := k) (by omega) (by omega)) c95 -- stop
        | succ f ih =>
          intro k hk b hb
          have y1 := q6.2.1 k (by omega)
          have y2 := p6.2.1 k (by omega)
          have ei : ∀ x, (3 : Int32) * nI x + nI k = nI (3 * x + k) := fun x => by rw [show (3 : Int32) = nI 3 from rfl, pk_mul, nI_add]
          have nxt : ∀ b' : Bool, (b' = true ↔ ∀ q, q < k + 1 → (ta s2 (q + 1) == 2) = (ta s1 (q + 1) == 2)) → J X w h 132 [(0, .ref (jad w 70)), (1, .int (nI (6 * m + i))), (2, .int (nI (6 * o + j))), (3, .int (bI b)), (4, .int (nI k))] [.int (bI b')] := by
            intro b' hb'
            refine k_istore_n C dX5_meant_132 (by rw [hnL]; decide) ?_
            refine k_iinc C dX5_meant_133 rfl rfl (by rw [hnL]; decide) ?_
            refine j_goto C 87 dX5_meant_136 (by decide) ?_
            rw [show nI k + Int32.ofInt 1 = nI (k + 1) from nI_1 k]
            exact ih (k + 1) (by omega) b' hb'
          refine k_iload C dX5_meant_87 rfl ?_
          refine k_aload_n C dX5_meant_89 rfl ?_
          refine j_getr C fX5_30 rfl (by first | decide | omega) (by first | assumption | rfl) (congrFun hr _) dX5_meant_90 ?_
          refine k_iload_n C dX5_meant_93 rfl ?_
          refine j_iald C (by first | decide | omega) (by first | assumption | rfl) (rfl) ((by omega)) (by decide) dX5_meant_94 ?_
          refine j_icmp_ge C 139 dX5_meant_95 (by decide) (fun c95 => ?_) (fun c95 => ?_)
          · exact absurd c95 (by rw [q6.1]; exact nI_ge (a := k) (b := nTk s1) (by omega) (by omega)) -- stop
          · refine k_iload_n C dX5_meant_98 rfl ?_
            refine j_if_eq C 131 dX5_meant_99 (by decide) (fun c99 => ?_) (fun c99 => ?_)
            · rw [bI_z] at c99
              refine j_iconst (v := 0) C dX5_meant_131 (by decide) ?_
              first | exact nxt false ⟨(fun z => by cases z), fun z => by rw [hb.mpr (fun q hq => z q (by omega))] at c99; cases c99⟩ | exact nxt false ⟨(fun z => by cases z), fun z => absurd (congrArg bI (z k (by omega))) c124⟩ | exact nxt true ⟨fun _ q hq => by by_cases e : q = k; (subst e; exact bI_inj c124); exact hb.mp (eq_true_of_ne_false c99) q (by omega), fun _ => rfl⟩
            · rw [bI_z] at c99
              refine k_aload_n C dX5_meant_102 rfl ?_
              refine j_getr C fX5_33 rfl (by first | decide | omega) (by first | assumption | rfl) (congrFun hr _) dX5_meant_103 ?_
              refine j_iconst (v := 3) C dX5_meant_106 (by decide) ?_
              refine k_iload_n C dX5_meant_107 rfl ?_
              refine j_imul C dX5_meant_108 ?_
              refine k_iload C dX5_meant_109 rfl ?_
              refine j_iadd C dX5_meant_111 ?_
              refine j_zald C (by first | decide | omega) (by first | assumption | rfl) (ei _) ((by omega)) (by decide) dX5_meant_112 ?_
              refine k_aload_n C dX5_meant_113 rfl ?_
              refine j_getr C fX5_33 rfl (by first | decide | omega) (by first | assumption | rfl) (congrFun hr _) dX5_meant_114 ?_
              refine j_iconst (v := 3) C dX5_meant_117 (by decide) ?_
              refine k_iload_n C dX5_meant_118 rfl ?_
              refine j_imul C dX5_meant_119 ?_
              refine k_iload C dX5_meant_120 rfl ?_
              refine j_iadd C dX5_meant_122 ?_
              refine j_zald C (by first | decide | omega) (by first | assumption | rfl) (ei _) ((by omega)) (by decide) dX5_meant_123 ?_
              refine j_icmp_ne C 131 dX5_meant_124 (by decide) (fun c124 => ?_) (fun c124 => ?_)
              · rw [y1, y2] at c124
                refine j_iconst (v := 0) C dX5_meant_131 (by decide) ?_
                first | exact nxt false ⟨(fun z => by cases z), fun z => by rw [hb.mpr (fun q hq => z q (by omega))] at c99; cases c99⟩ | exact nxt false ⟨(fun z => by cases z), fun z => absurd (congrArg bI (z k (by omega))) c124⟩ | exact nxt true ⟨fun _ q hq => by by_cases e : q = k; (subst e; exact bI_inj c124); exact hb.mp (eq_true_of_ne_false c99) q (by omega), fun _ => rfl⟩
              · rw [y1, y2] at c124
                refine j_iconst (v := 1) C dX5_meant_127 (by decide) ?_
                refine j_goto C 132 dX5_meant_128 (by decide) ?_
                first | exact nxt false ⟨(fun z => by cases z), fun z => by rw [hb.mpr (fun q hq => z q (by omega))] at c99; cases c99⟩ | exact nxt false ⟨(fun z => by cases z), fun z => absurd (congrArg bI (z k (by omega))) c124⟩ | exact nxt true ⟨fun _ q hq => by by_cases e : q = k; (subst e; exact bI_inj c124); exact hb.mp (eq_true_of_ne_false c99) q (by omega), fun _ => rfl⟩
      have nm1 := nI_m1 (a := 6 * o + j) (by omega)
      refine k_istore_n C dX5_meant_35 (by rw [hnL]; decide) ?_
      refine k_iload_n C dX5_meant_36 rfl ?_
      refine j_iconst (v := -1) C dX5_meant_37 (by decide) ?_
      refine j_icmp_eq C 80 dX5_meant_38 (by decide) (fun c38 => ?_) (fun c38 => ?_)
      · exact absurd c38 nm1 -- stop
      · refine k_aload_n C dX5_meant_41 rfl ?_
        refine j_getr C fX5_27 rfl (by first | decide | omega) (by first | assumption | rfl) (congrFun hr _) dX5_meant_42 ?_
        refine k_iload_n C dX5_meant_45 rfl ?_
        refine j_zald C (by first | decide | omega) (by first | assumption | rfl) (rfl) ((by omega)) (by decide) dX5_meant_46 ?_
        refine j_if_eq C 80 dX5_meant_47 (by decide) (fun c47 => ?_) (fun c47 => ?_)
        · have c47' : ((PG o).1[j]).2.2.2.1 = 0 := (nI_eq (b := 0) (by omega) (by omega)).mp (p5.symm.trans c47)
          first | exact bad _ (by rw [em, c47']; rfl) | exact bad _ (ne (fun z => c62' (sx.mp z).1)) | exact bad _ (ne (fun z => c77' (sx.mp z).2.1))
        · have c47' : ((PG o).1[j]).2.2.2.1 = 1 := by have : ¬ ((PG o).1[j]).2.2.2.1 = 0 := (fun z => c47 (by rw [p5, z]; rfl)); omega
          refine k_aload_n C dX5_meant_50 rfl ?_
          refine j_getr C fX5_30 rfl (by first | decide | omega) (by first | assumption | rfl) (congrFun hr _) dX5_meant_51 ?_
          refine k_iload_n C dX5_meant_54 rfl ?_
          refine j_iald C (by first | decide | omega) (by first | assumption | rfl) (rfl) ((by omega)) (by decide) dX5_meant_55 ?_
          refine k_aload_n C dX5_meant_56 rfl ?_
          refine j_getr C fX5_30 rfl (by first | decide | omega) (by first | assumption | rfl) (congrFun hr _) dX5_meant_57 ?_
          refine k_iload_n C dX5_meant_60 rfl ?_
          refine j_iald C (by first | decide | omega) (by first | assumption | rfl) (rfl) ((by omega)) (by decide) dX5_meant_61 ?_
          refine j_icmp_ne C 80 dX5_meant_62 (by decide) (fun c62 => ?_) (fun c62 => ?_)
          · have c62' : ¬ nTk s2 = nTk s1 := fun z => c62 (by rw [p6.1, q6.1, z])
            first | exact bad _ (by rw [em, c47']; rfl) | exact bad _ (ne (fun z => c62' (sx.mp z).1)) | exact bad _ (ne (fun z => c77' (sx.mp z).2.1))
          · have c62' : nTk s2 = nTk s1 := (nI_eq (by omega) (by omega)).mp (by rw [← p6.1, ← q6.1]; exact c62)
            refine k_aload_n C dX5_meant_65 rfl ?_
            refine j_getr C fX5_36 rfl (by first | decide | omega) (by first | assumption | rfl) (congrFun hr _) dX5_meant_66 ?_
            refine k_iload_n C dX5_meant_69 rfl ?_
            refine j_zald C (by first | decide | omega) (by first | assumption | rfl) (rfl) ((by omega)) (by decide) dX5_meant_70 ?_
            refine k_aload_n C dX5_meant_71 rfl ?_
            refine j_getr C fX5_36 rfl (by first | decide | omega) (by first | assumption | rfl) (congrFun hr _) dX5_meant_72 ?_
            refine k_iload_n C dX5_meant_75 rfl ?_
            refine j_zald C (by first | decide | omega) (by first | assumption | rfl) (rfl) ((by omega)) (by decide) dX5_meant_76 ?_
            refine j_icmp_eq C 82 dX5_meant_77 (by decide) (fun c77 => ?_) (fun c77 => ?_)
            · have c77' : (ta s2 0 == 2) = (ta s1 0 == 2) := bI_inj (by rw [← p6.2.2, ← q6.2.2]; exact c77)
              refine j_iconst (v := 1) C dX5_meant_82 (by decide) ?_
              refine k_istore_n C dX5_meant_83 (by rw [hnL]; decide) ?_
              refine j_iconst (v := 0) C dX5_meant_84 (by decide) ?_
              refine k_istore C dX5_meant_85 (by rw [hnL]; decide) ?_
              exact loop c47' c62' c77' (nTk s1) 0 (by omega) true ⟨fun _ q hq => absurd hq (Nat.not_lt_zero _), fun _ => rfl⟩
            · have c77' : ¬ (ta s2 0 == 2) = (ta s1 0 == 2) := fun z => c77 (by rw [p6.2.2, q6.2.2, z])
              first | exact bad _ (by rw [em, c47']; rfl) | exact bad _ (ne (fun z => c62' (sx.mp z).1)) | exact bad _ (ne (fun z => c77' (sx.mp z).2.1))
end R6
