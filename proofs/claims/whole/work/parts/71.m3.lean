/-- the fields of the machine: height, base, unit, next, registers, fuel, most, spent; it runs -/
def mV (h : jH) (H b u nx : Nat) (V : List Int32) (fl tk mx : Nat) : Prop := h.1 68 3 = nI H ∧ h.1 68 4 = nI b ∧ h.2.1 68 5 = some (ub u) ∧ h.1 68 6 = nI nx ∧ (1 ≤ V.length → h.1 68 7 = V.getD 0 0) ∧ (2 ≤ V.length → h.1 68 8 = V.getD 1 0) ∧ h.1 68 9 = nI (fl + tk) ∧ h.1 68 10 = 3 ∧ h.1 68 11 = nI mx ∧ h.1 68 12 = nI tk
def gOn (PG : Nat → PU) (fs : List Fm) : Int32 := match fs with
  | [] => -1
  | f :: _ => nI (f.1 * 240 + Pc (PG f.1).2.1 f.2.2.1)
def goO (PG : Nat → PU) (fs : List Fm) : Option (Nat × Nat) := match fs with
  | [] => none
  | f :: _ => some (f.1, Pc (PG f.1).2.1 f.2.2.1)
def bsO (n0 : Nat) (fs : List Fm) : Nat := match fs with
  | [] => 0
  | f :: gs => ht n0 gs - f.2.2.2.1.length
def cSt (PG : Nat → PU) (a0 : List Int32) (S : Nat → Int32) : List Fm → Prop
  | [] => ∀ j, j < a0.length → S j = a0.getD j 0
  | f :: fs => cSt PG a0 S fs ∧ S (ht a0.length fs) = gOn PG fs ∧ S (ht a0.length fs + 1) = nI (bsO a0.length fs) ∧ ∀ j, j < f.2.2.2.2.length → S (ht a0.length fs + 2 + j) = f.2.2.2.2.getD j 0
def mR (PG : Nat → PU) (a0 : List Int32) (σ : Nat → Nat) (h : jH) (s : ES) : Prop := match s.2.2.2.1 with
  | [] => False
  | f :: fs => mV h (ht a0.length (f :: fs)) (bsO a0.length (f :: fs)) (σ f.1) (Pc (PG f.1).2.1 f.2.2.1) s.2.2.2.2 s.1 s.2.1 s.2.2.1 ∧ cSt PG a0 (h.1 69) (f :: fs)
/-- the machine has ended -/
def mE (h : jH) (oc : Nat) (s : ES) : Prop := h.1 68 10 = nI oc ∧ h.1 68 11 = nI s.2.2.1 ∧ h.1 68 12 = nI s.2.1 ∧ (oc = 0 → (1 ≤ s.2.2.2.2.length → h.1 68 7 = s.2.2.2.2.getD 0 0) ∧ (2 ≤ s.2.2.2.2.length → h.1 68 8 = s.2.2.2.2.getD 1 0))
def stP (PG : Nat → PU) (a0 : List Int32) (σ : Nat → Nat) (h' : jH) (r : ES ⊕ (Nat × ES)) : Prop := match r with
  | .inl s' => mR PG a0 σ h' s'
  | .inr q => mE h' q.1 q.2 ∧ q.1 ≤ 2
section M3
variable {l : Launch} {w : jW} {h : jH} {PG : Nat → PU} {sz : Nat} {a0 : List Int32} {pr : Nat → Bool} {σ : Nat → Nat} {y0 H b u nx fl tk mx : Nat} {V : List Int32}
theorem mV_nx (hV : mV h H b u nx V fl tk mx) {q : Nat} : mV (up2 h.1 68 6 (nI q), h.2) H b u q V fl tk mx := by
  obtain ⟨a1, a2, a3, a4, a5, a6, a7, a8, a9, aA⟩ := hV
  exact ⟨by simpa [up2] using a1, by simpa [up2] using a2, a3, by simp [up2], fun z => by simpa [up2] using a5 z, fun z => by simpa [up2] using a6 z, by simpa [up2] using a7, by simpa [up2] using a8, by simpa [up2] using a9, by simpa [up2] using aA⟩
theorem mV_H (hV : mV h H b u nx V fl tk mx) {q : Nat} : mV (up2 h.1 68 3 (nI q), h.2) q b u nx V fl tk mx := by
  obtain ⟨a1, a2, a3, a4, a5, a6, a7, a8, a9, aA⟩ := hV
  exact ⟨by simp [up2], by simpa [up2] using a2, a3, by simpa [up2] using a4, fun z => by simpa [up2] using a5 z, fun z => by simpa [up2] using a6 z, by simpa [up2] using a7, by simpa [up2] using a8, by simpa [up2] using a9, by simpa [up2] using aA⟩
theorem mV_S (hV : mV h H b u nx V fl tk mx) {c : Nat} {x : Int32} : mV (up2 h.1 69 c x, h.2) H b u nx V fl tk mx := by
  obtain ⟨a1, a2, a3, a4, a5, a6, a7, a8, a9, aA⟩ := hV
  exact ⟨by simpa [up2] using a1, by simpa [up2] using a2, a3, by simpa [up2] using a4, fun z => by simpa [up2] using a5 z, fun z => by simpa [up2] using a6 z, by simpa [up2] using a7, by simpa [up2] using a8, by simpa [up2] using a9, by simpa [up2] using aA⟩
theorem mV_1 (hV : mV h H b u nx V fl tk mx) {v : Int32} : mV (up2 h.1 68 7 v, h.2) H b u nx [v] fl tk mx := by
  obtain ⟨a1, a2, a3, a4, a5, a6, a7, a8, a9, aA⟩ := hV
  exact ⟨by simpa [up2] using a1, by simpa [up2] using a2, a3, by simpa [up2] using a4, fun z => by simp [up2], fun z => by simp at z, by simpa [up2] using a7, by simpa [up2] using a8, by simpa [up2] using a9, by simpa [up2] using aA⟩
theorem mV_2 (hV : mV h H b u nx V fl tk mx) {v v2 : Int32} : mV (up2 (up2 h.1 68 7 v) 68 8 v2, h.2) H b u nx [v, v2] fl tk mx := by
  obtain ⟨a1, a2, a3, a4, a5, a6, a7, a8, a9, aA⟩ := hV
  exact ⟨by simpa [up2] using a1, by simpa [up2] using a2, a3, by simpa [up2] using a4, fun z => by simp [up2], fun z => by simp [up2], by simpa [up2] using a7, by simpa [up2] using a8, by simpa [up2] using a9, by simpa [up2] using aA⟩
theorem mV_8 (hV : mV h H b u nx V fl tk mx) {v2 : Int32} : mV (up2 h.1 68 8 v2, h.2) H b u nx [] fl tk mx := by
  obtain ⟨a1, a2, a3, a4, a5, a6, a7, a8, a9, aA⟩ := hV
  exact ⟨by simpa [up2] using a1, by simpa [up2] using a2, a3, by simpa [up2] using a4, (fun z => by simp at z), (fun z => by simp at z), by simpa [up2] using a7, by simpa [up2] using a8, by simpa [up2] using a9, by simpa [up2] using aA⟩
theorem mV_0 (hV : mV h H b u nx V fl tk mx) : mV h H b u nx [] fl tk mx := by
  obtain ⟨a1, a2, a3, a4, a5, a6, a7, a8, a9, aA⟩ := hV
  exact ⟨a1, a2, a3, a4, fun z => by simp at z, fun z => by simp at z, a7, a8, a9, aA⟩
theorem cSt_keep {S S' : Nat → Int32} : ∀ (fs : List Fm), (∀ j, j < ht a0.length fs → S' j = S j) → cSt PG a0 S fs → cSt PG a0 S' fs
  | [], hk, h => fun j hj => by rw [hk j hj]; exact h j hj
  | f :: fs, hk, ⟨h1, h2, h3, h4⟩ => by
    have e : ht a0.length (f :: fs) = ht a0.length fs + 2 + f.2.2.2.2.length := rfl
    refine ⟨cSt_keep fs (fun j hj => hk j (by omega)) h1, by rw [hk _ (by omega)]; exact h2, by rw [hk _ (by omega)]; exact h3, fun j hj => by rw [hk _ (by omega)]; exact h4 j hj⟩
theorem wfC_le {fs : List Fm} {A : List Int32} {y : Nat} (hC : wfC PG sz a0 pr fs A y y0) : A.length ≤ ht a0.length fs ∧ A.length ≤ (topT a0 fs).length ∧ A = lastN A.length (topT a0 fs) := by
  rcases fs with _ | ⟨⟨m, i, p, B, T⟩, fs⟩
  · obtain ⟨rfl, -⟩ := hC
    exact ⟨Nat.le_refl _, Nat.le_refl _, by unfold lastN topT; simp⟩
  · obtain ⟨-, h2, h3, -⟩ := hC
    exact ⟨by show _ ≤ ht _ fs + 2 + T.length; omega, h2, h3⟩
/-- an argument on the stack -/
theorem argS {S : Nat → Int32} {fs : List Fm} {A : List Int32} {y j : Nat} (hC : wfC PG sz a0 pr fs A y y0) (hSt : cSt PG a0 S fs) (hj : j < A.length) : S (ht a0.length fs - A.length + j) = A.getD j 0 := by
  rcases fs with _ | ⟨⟨m, i, p, B, T⟩, fs⟩
  · obtain ⟨rfl, -⟩ := hC
    rw [show ht A.length [] - A.length + j = j by show A.length - A.length + j = j; omega]
    exact hSt j hj
  · obtain ⟨-, h2, h3, -⟩ := hC
    have e : ht a0.length ((m, i, p, B, T) :: fs) = ht a0.length fs + 2 + T.length := rfl
    rw [e, show ht a0.length fs + 2 + T.length - A.length + j = ht a0.length fs + 2 + (T.length - A.length + j) by omega, hSt.2.2.2 (T.length - A.length + j) (by dsimp only; omega)]
    conv => rhs; rw [h3]
    unfold lastN
    simp [List.getD_eq_getElem?_getD]
theorem nI_m1 {a : Nat} (ha : a < 2 ^ 31) : ¬ nI a = -1 := by
  intro z
  have h1 : oI 0 = nI a := by rw [z]; rfl
  have h2 : nI (a + 1) = nI 0 := by
    have := congrArg (fun q : Int32 => q + 1) h1
    unfold oI at this
    rw [← nI_1]
    simpa using this.symm
  by_cases c : a + 1 < 2 ^ 31
  · have := (nI_eq c (by decide)).mp h2; omega
  · have e : a = 2 ^ 31 - 1 := by omega
    subst e
    exact absurd z (by decide)
/-- what a return does -/
def lvH (σ : Nat → Nat) (h : jH) (H nb cb : Nat) (go : Option (Nat × Nat)) : jH := match go with
  | none => (up2 (up2 (up2 (up2 (up2 h.1 68 3 (nI (H + 1))) 68 3 (nI H)) 68 3 (nI nb)) 68 4 (nI cb)) 68 10 0, h.2)
  | some q => (up2 (up2 (up2 (up2 (up2 h.1 68 3 (nI (H + 1))) 68 3 (nI H)) 68 3 (nI nb)) 68 4 (nI cb)) 68 6 (nI q.2), up2 h.2.1 68 5 (some (ub (σ q.1))), h.2.2)
theorem m_leave (hw : jok w) (hS : mS PG sz pr σ h) {nb cb : Nat} {go : Option (Nat × Nat)} (e3 : h.1 68 3 = nI (H + 1 + 1)) (hH : H + 2 ≤ 500) (e4 : h.1 68 4 = nI nb) (s1 : h.1 69 (H + 1) = nI cb) (s0 : h.1 69 H = (match go with | none => -1 | some q => nI (q.1 * 240 + q.2))) (hg : ∀ q, go = some q → q.1 < 6 ∧ q.2 < 240) : jM l w yX2_leave cX2_leave 3 none 1 [.ref (jad w 68)] h (fun r h' => r = none ∧ h' = lvH σ h H nb cb go) := by
  refine jM_of (by decide) hw (Nat.le_of_ble_eq_true rfl) ?_
  intro X C hl hR hnL hrt hE
  subst hl
  have C : jC X w cX2_leave RX2 := C
  show J X w h 0 [(0, .ref (jad w 68))] []
  refine k_aload_n C dX2_leave_0 rfl ?_
  refine k_callV (k := 68) (ci := 2) (As := []) C mX2_95 (m_pop hw hS.2.1 e3 (by omega)) jCl2.1 (by first | decide | omega) (by first | assumption | rfl) rfl rfl (Nat.le_of_ble_eq_true rfl) (jroom hR (by first | decide | omega) (by decide)) dX2_leave_1 ?_
  rintro v9 h9 ⟨rfl, rfl⟩
  rw [s1]
  refine k_istore_n C dX2_leave_4 (by rw [hnL]; decide) ?_
  refine k_aload_n C dX2_leave_5 rfl ?_
  refine k_callV (k := 68) (ci := 2) (As := []) C mX2_95 (m_pop (h := (up2 h.1 68 3 (nI (H + 1)), h.2)) (c := H) hw hS.2.1 (by simp [up2]) (by omega)) jCl2.1 (by first | decide | omega) (by first | assumption | rfl) rfl rfl (Nat.le_of_ble_eq_true rfl) (jroom hR (by first | decide | omega) (by decide)) dX2_leave_6 ?_
  rintro v9 h9 ⟨rfl, rfl⟩
  rw [show ((up2 h.1 68 3 (nI (H + 1)), h.2) : jH).1 69 H = h.1 69 H from by simp [up2], s0]
  refine k_istore_n C dX2_leave_9 (by rw [hnL]; decide) ?_
  refine k_aload_n C dX2_leave_10 rfl ?_
  refine k_aload_n C dX2_leave_11 rfl ?_
  refine j_geti C fX2_31 rfl (by first | decide | omega) (by first | assumption | rfl) dX2_leave_12 ?_
  refine jeq (congrArg (fun z => [Value.int z, Value.ref (jad w 68)]) (show up2 (up2 h.1 68 3 (nI (H + 1))) 68 3 (nI H) 68 4 = nI nb from by simpa [up2] using e4)) ?_
  refine j_puti C fX2_28 rfl rfl (by first | decide | omega) (by first | assumption | rfl) dX2_leave_15 ?_
  refine k_aload_n C dX2_leave_18 rfl ?_
  refine k_iload_n C dX2_leave_19 rfl ?_
  refine j_puti C fX2_31 rfl rfl (by first | decide | omega) (by first | assumption | rfl) dX2_leave_20 ?_
  obtain ⟨h1, eh1⟩ : ∃ h1 : jH, h1 = (up2 (up2 (up2 (up2 h.1 68 3 (nI (H + 1))) 68 3 (nI H)) 68 3 (nI nb)) 68 4 (nI cb), h.2) := ⟨_, rfl⟩
  refine jeqh eh1.symm ?_
  have u1 : h1.2.1 68 1 = some 2 := by rw [eh1]; exact hS.1
  refine k_iload_n C dX2_leave_23 rfl ?_
  rcases go with _ | q
  · refine j_if_lt C 34 dX2_leave_24 (by decide) (fun c => ?_) (fun c => absurd (by decide) c)
    refine k_aload_n C dX2_leave_34 rfl ?_
    refine j_iconst (v := 0) C dX2_leave_35 (by decide) ?_
    refine j_puti C fX2_43 rfl rfl (by decide) rfl dX2_leave_36 ?_
    exact j_vret C hrt hE dX2_leave_39 ⟨rfl, by rw [eh1]; rfl⟩
  · obtain ⟨q1, q2⟩ := hg q rfl
    have hm := hS.2.2.2.2.1 q.1 q1
    have u2 : h1.2.1 2 q.1 = some (ub (σ q.1)) := by rw [eh1]; exact hm.1
    refine j_if_lt C 34 dX2_leave_24 (by decide) (fun c => absurd c (nI_nlt (a := q.1 * 240 + q.2) (b := 0) (by omega) (by omega))) (fun c => ?_)
    refine k_iload_n C dX2_leave_27 rfl ?_
    refine j_sipush (v := nI 1440) C dX2_leave_28 (by decide) ?_
    refine j_icmp_lt C 40 dX2_leave_31 (by decide) (fun c => ?_) (fun c => absurd (nI_lt (a := q.1 * 240 + q.2) (b := 1440) (by omega) (by omega)) c)
    refine k_aload_n C dX2_leave_40 rfl ?_
    refine k_aload_n C dX2_leave_41 rfl ?_
    refine j_getr C fX2_19 rfl (by decide) rfl u1 dX2_leave_42 ?_
    refine k_iload_n C dX2_leave_45 rfl ?_
    refine j_sipush (v := nI 240) C dX2_leave_46 (by decide) ?_
    refine j_idiv C dX2_leave_49 (by decide) ?_
    refine j_aald C (t := 3) (by decide) rfl (by decide) rfl (show nI (q.1 * 240 + q.2) / nI 240 = nI q.1 from by rw [pk_div (by omega) (by decide) (by decide), show (q.1 * 240 + q.2) / 240 = q.1 by omega]) q1 (by decide) u2 dX2_leave_50 ?_
    refine j_putr C fX2_85 rfl rfl (by decide) rfl (fun _ => ⟨rfl, rfl⟩) dX2_leave_51 ?_
    refine k_aload_n C dX2_leave_54 rfl ?_
    refine k_iload_n C dX2_leave_55 rfl ?_
    refine j_sipush (v := nI 240) C dX2_leave_56 (by decide) ?_
    refine j_irem C dX2_leave_59 (by decide) ?_
    rw [pk_rem (by omega) (by decide) (by decide), show (q.1 * 240 + q.2) % 240 = q.2 by omega]
    refine j_puti C fX2_92 rfl rfl (by decide) rfl dX2_leave_60 ?_
    exact j_vret C hrt hE dX2_leave_63 ⟨rfl, by rw [eh1]; rfl⟩
end M3
