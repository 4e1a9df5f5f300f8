section M2
variable {l : Launch} {w : jW} {h : jH}
theorem nI_max {a b : Nat} (ha : a < 1000000) (hb : b < 1000000) : (if nI a < nI b then nI b else nI a) = nI (max a b) := by
  by_cases z : a < b
  · rw [if_pos (nI_lt z (by omega)), Nat.max_eq_right (by omega)]
  · rw [if_neg (nI_nlt (by omega) (by omega)), Nat.max_eq_left (by omega)]
/-- what an entering does -/
def enH (h : jH) (sz H K rm fl tk mx u : Nat) (st x : Int32) : jH :=
  if fl = 0 then (up2 h.1 68 10 2, h.2) else if sz < H + 2 + rm then (up2 (up2 h.1 68 12 (nI (tk + 1))) 68 10 1, h.2)
  else (up2 (up2 (up2 (up2 (up2 (up2 (up2 (up2 h.1 68 12 (nI (tk + 1))) 68 11 (nI (max mx (H + 2 + rm)))) 69 H x) 68 3 (nI (H + 1))) 69 (H + 1) (h.1 68 4)) 68 3 (nI (H + 2))) 68 4 (nI (H - K))) 68 6 st, up2 h.2.1 68 5 (some (ub u)), h.2.2)
theorem m_enter (hw : jok w) (h2 : h.2.1 68 2 = some 69) {sz H K rm fl tk mx u i : Nat} {st x : Int32} (e0 : h.1 68 0 = nI sz) (hsz : sz ≤ 500) (e3 : h.1 68 3 = nI H) (hH : H ≤ 500) (e9 : h.1 68 9 = nI (fl + tk)) (e12 : h.1 68 12 = nI tk) (hft : fl + tk ≤ 3000) (e11 : h.1 68 11 = nI mx) (hmx : mx ≤ 500) (hu : u < 7) (hi : i < 6) (ew : h.1 (ub u + 3 + i) 3 = nI K) (er : h.1 (ub u + 3 + i) 6 = nI rm) (hrm : rm ≤ 1000) (hK : K ≤ H) (es : h.1 (ub u + 3 + i) 5 = st) : jM l w yX2_enter cX2_enter 6 none 1 [.ref (jad w 68), .ref (jad w (ub u)), .ref (jad w (ub u + 3 + i)), .int x] h (fun r h' => r = none ∧ h' = enH h sz H K rm fl tk mx u st x) := by
  refine jM_of (by decide) hw (Nat.le_of_ble_eq_true rfl) ?_
  intro X C hl hR hnL hrt hE
  subst hl
  have C : jC X w cX2_enter RX2 := C
  obtain ⟨k3, k4, k5, k6, k7⟩ := jk_unit u hu
  have k8 := k7 i hi
  have hub := ub_in hu
  show J X w h 0 [(0, .ref (jad w 68)), (1, .ref (jad w (ub u))), (2, .ref (jad w (ub u + 3 + i))), (3, .int x)] []
  refine k_aload_n C dX2_enter_0 rfl ?_
  refine j_geti C fX2_40 rfl (by first | decide | omega) (by first | assumption | rfl) dX2_enter_1 ?_
  refine k_aload_n C dX2_enter_4 rfl ?_
  refine j_geti C fX2_34 rfl (by first | decide | omega) (by first | assumption | rfl) dX2_enter_5 ?_
  refine j_icmp_ne C 17 dX2_enter_8 (by decide) (fun c8 => ?_) (fun c8 => ?_)
  · have c8' : ¬ fl = 0 := fun z => c8 (by rw [e9, e12, z, Nat.zero_add])
    refine k_aload_n C dX2_enter_17 rfl ?_
    refine j_dup C dX2_enter_18 rfl ?_
    refine j_geti C fX2_40 rfl (by first | decide | omega) (by first | assumption | rfl) dX2_enter_19 ?_
    refine j_iconst (v := 1) C dX2_enter_22 (by decide) ?_
    refine j_iadd C dX2_enter_23 ?_
    rw [e12, nI_1]
    refine j_puti C fX2_40 rfl rfl (by first | decide | omega) (by first | assumption | rfl) dX2_enter_24 ?_
    obtain ⟨h1, eh1⟩ : ∃ h1 : jH, h1 = (up2 h.1 68 12 (nI (tk + 1)), h.2) := ⟨_, rfl⟩
    refine jeqh eh1.symm ?_
    have f3 : h1.1 68 3 = nI H := by rw [eh1]; simpa [up2] using e3
    have f0 : h1.1 68 0 = nI sz := by rw [eh1]; simpa [up2] using e0
    have f11 : h1.1 68 11 = nI mx := by rw [eh1]; simpa [up2] using e11
    have fw : h1.1 (ub u + 3 + i) 3 = nI K := by rw [eh1]; exact (up2_n (by omega)).trans ew
    have fr : h1.1 (ub u + 3 + i) 6 = nI rm := by rw [eh1]; exact (up2_n (by omega)).trans er
    have fs : h1.1 (ub u + 3 + i) 5 = st := by rw [eh1]; exact (up2_n (by omega)).trans es
    have f4 : h1.1 68 4 = h.1 68 4 := by rw [eh1]; simp [up2]
    have fu : h1.2 = h.2 := by rw [eh1]
    refine k_aload_n C dX2_enter_27 rfl ?_
    refine j_geti C fX2_28 rfl (by first | decide | omega) (by first | assumption | rfl) dX2_enter_28 ?_
    refine j_iconst (v := 2) C dX2_enter_31 (by decide) ?_
    refine j_iadd C dX2_enter_32 ?_
    refine k_aload_n C dX2_enter_33 rfl ?_
    refine j_geti C fX2_73 rfl (by first | decide | omega) (by first | assumption | rfl) dX2_enter_34 ?_
    refine j_iadd C dX2_enter_37 ?_
    rw [f3, fr, show nI H + 2 + nI rm = nI (H + 2 + rm) from by rw [show (2 : Int32) = nI 2 from rfl, nI_add, nI_add]]
    refine k_istore C dX2_enter_38 (by rw [hnL]; decide) ?_
    refine k_iload C dX2_enter_40 rfl ?_
    refine k_aload_n C dX2_enter_42 rfl ?_
    refine j_geti C fX2_15 rfl (by first | decide | omega) (by first | assumption | rfl) dX2_enter_43 ?_
    rw [f0]
    refine j_icmp_le C 55 dX2_enter_46 (by decide) (fun c46 => ?_) (fun c46 => ?_)
    · rw [nI_leI (by omega) (by omega)] at c46
      refine k_aload_n C dX2_enter_55 rfl ?_
      refine k_aload_n C dX2_enter_56 rfl ?_
      refine j_geti C fX2_37 rfl (by first | decide | omega) (by first | assumption | rfl) dX2_enter_57 ?_
      refine k_iload C dX2_enter_60 rfl ?_
      refine j_mmax C jmmax_X2_76 (jroomM hR (by first | decide | omega) (Nat.le_of_ble_eq_true rfl)) dX2_enter_62 ?_
      rw [f11, nI_max (by omega) (by omega)]
      refine j_puti C fX2_37 rfl rfl (by first | decide | omega) (by first | assumption | rfl) dX2_enter_65 ?_
      obtain ⟨h3, eh3⟩ : ∃ h3 : jH, h3 = (up2 h1.1 68 11 (nI (max mx (H + 2 + rm))), h1.2) := ⟨_, rfl⟩
      refine jeqh eh3.symm ?_
      have g3 : h3.1 68 3 = nI H := by rw [eh3]; simpa [up2] using f3
      have gw : h3.1 (ub u + 3 + i) 3 = nI K := by rw [eh3]; exact (up2_n (by omega)).trans fw
      have gs : h3.1 (ub u + 3 + i) 5 = st := by rw [eh3]; exact (up2_n (by omega)).trans fs
      have g4 : h3.1 68 4 = h.1 68 4 := by rw [eh3]; simpa [up2] using f4
      have gu : h3.2 = h.2 := by rw [eh3]; exact fu
      refine k_aload_n C dX2_enter_68 rfl ?_
      refine j_geti C fX2_28 rfl (by first | decide | omega) (by first | assumption | rfl) dX2_enter_69 ?_
      refine k_aload_n C dX2_enter_72 rfl ?_
      refine j_geti C fX2_23 rfl (by first | decide | omega) (by first | assumption | rfl) dX2_enter_73 ?_
      refine j_isub C dX2_enter_76 ?_
      rw [g3, gw, pk_sub hK]
      refine k_istore C dX2_enter_77 (by rw [hnL]; decide) ?_
      refine k_aload_n C dX2_enter_79 rfl ?_
      refine k_iload_n C dX2_enter_80 rfl ?_
      refine k_callV (k := 68) (ci := 2) (As := [.int x]) C mX2_81 (m_push hw (by rw [gu]; exact h2) g3 (by omega) x) jCl2.1 (by first | decide | omega) (by first | assumption | rfl) rfl rfl (Nat.le_of_ble_eq_true rfl) (jroom hR (by first | decide | omega) (by decide)) dX2_enter_81 ?_
      rintro v9 h9 ⟨rfl, rfl⟩
      refine k_aload_n C dX2_enter_84 rfl ?_
      refine k_aload_n C dX2_enter_85 rfl ?_
      refine j_geti C fX2_31 rfl (by first | decide | omega) (by first | assumption | rfl) dX2_enter_86 ?_
      rw [show ((up2 (up2 h3.1 69 H x) 68 3 (nI (H + 1)), h3.2) : jH).1 68 4 = h.1 68 4 from by simpa [up2] using g4]
      refine k_callV (k := 68) (ci := 2) (As := [.int (h.1 68 4)]) C mX2_81 (m_push (h := (up2 (up2 h3.1 69 H x) 68 3 (nI (H + 1)), h3.2)) (c := H + 1) hw (by rw [gu]; exact h2) (by simp [up2]) (by omega) (h.1 68 4)) jCl2.1 (by first | decide | omega) (by first | assumption | rfl) rfl rfl (Nat.le_of_ble_eq_true rfl) (jroom hR (by first | decide | omega) (by decide)) dX2_enter_89 ?_
      rintro v9 h9 ⟨rfl, rfl⟩
      refine k_aload_n C dX2_enter_92 rfl ?_
      refine k_iload C dX2_enter_93 rfl ?_
      refine j_puti C fX2_31 rfl rfl (by first | decide | omega) (by first | assumption | rfl) dX2_enter_95 ?_
      refine k_aload_n C dX2_enter_98 rfl ?_
      refine k_aload_n C dX2_enter_99 rfl ?_
      refine j_putr C fX2_85 rfl rfl (by first | decide | omega) (by first | assumption | rfl) (fun _ => ⟨rfl, rfl⟩) dX2_enter_100 ?_
      refine k_aload_n C dX2_enter_103 rfl ?_
      refine k_aload_n C dX2_enter_104 rfl ?_
      refine j_geti C fX2_89 rfl (by first | decide | omega) (by first | assumption | rfl) dX2_enter_105 ?_
      refine jeq (congrArg (fun z => [Value.int z, Value.ref (jad w 68)]) (show up2 (up2 (up2 (up2 (up2 h3.1 69 H x) 68 3 (nI (H + 1))) 69 (H + 1) (h.1 68 4)) 68 3 (nI (H + 1 + 1))) 68 4 (nI (H - K)) (ub u + 3 + i) 5 = st from (up2_n (by omega)).trans ((up2_n (by omega)).trans ((up2_n (by omega)).trans ((up2_n (by omega)).trans ((up2_n (by omega)).trans gs)))))) ?_
      refine j_puti C fX2_92 rfl rfl (by first | decide | omega) (by first | assumption | rfl) dX2_enter_108 ?_
      exact j_vret C hrt hE dX2_enter_111 (by first | exact ⟨rfl, by unfold enH; rw [if_pos c8']⟩ | exact ⟨rfl, by unfold enH; rw [if_neg c8', if_pos (by omega), eh1]⟩ | exact ⟨rfl, by unfold enH; rw [if_neg c8', if_neg (by omega), eh3, eh1]⟩)
    · rw [nI_leI (by omega) (by omega)] at c46
      refine k_aload_n C dX2_enter_49 rfl ?_
      refine j_iconst (v := 1) C dX2_enter_50 (by decide) ?_
      refine j_puti C fX2_43 rfl rfl (by first | decide | omega) (by first | assumption | rfl) dX2_enter_51 ?_
      exact j_vret C hrt hE dX2_enter_54 (by first | exact ⟨rfl, by unfold enH; rw [if_pos c8']⟩ | exact ⟨rfl, by unfold enH; rw [if_neg c8', if_pos (by omega), eh1]⟩ | exact ⟨rfl, by unfold enH; rw [if_neg c8', if_neg (by omega), eh3, eh1]⟩)
  · have c8' : fl = 0 := by have := (nI_eq (by omega) (by omega)).mp (e12.symm.trans (c8.trans e9)); omega
    refine k_aload_n C dX2_enter_11 rfl ?_
    refine j_iconst (v := 2) C dX2_enter_12 (by decide) ?_
    refine j_puti C fX2_43 rfl rfl (by first | decide | omega) (by first | assumption | rfl) dX2_enter_13 ?_
    exact j_vret C hrt hE dX2_enter_16 (by first | exact ⟨rfl, by unfold enH; rw [if_pos c8']⟩ | exact ⟨rfl, by unfold enH; rw [if_neg c8', if_pos (by omega), eh1]⟩ | exact ⟨rfl, by unfold enH; rw [if_neg c8', if_neg (by omega), eh3, eh1]⟩)
end M2
