abbrev CL : Type := Nat → Nat → TI
def xT (h0 : jH) (t : Nat → Nat) (n : Nat) (dc : Bool) : Prop := h0.2.1 70 = rMap ∧ rtx h0 t n ∧ h0.1 70 7 = bI dc
def prR (dc : Bool) (g : jH) (s : Nat) (kr : Int32) : jH := (up2 (emD dc g s kr 0).1 70 33 0, (emD dc g s kr 0).2)
/-- the levels up to L are as they were, but for what is pending on L -/
def nF (L : Nat) (g1 g : jH) : Prop := ∀ k j, 85 ≤ k → k ≤ 91 → j ≤ L → ¬ ((k = 87 ∨ k = 88) ∧ j = L) → g.1 k j = g1.1 k j
def xD (h0 gE g : jH) (dc : Bool) (H : Nat → Prop) (L c a : Nat) (q : TA) (f : CL) (s : Nat) (ty ip : Bool) : Prop := xK h0 g dc H L c a (app q f) s ty ∧ nF L gE g ∧ g.1 70 33 = bI ip ∧ (dc = false → ∀ y, tyq q f = some y → (y = 1 ∨ y = 2) ∧ ip = (y == 2))
def xB (h0 gE g : jH) (L s : Nat) : Prop := xF h0 g ∧ nF L gE g ∧ g.1 70 23 = nI (L + 1) ∧ g.1 70 21 = nI s ∧ ∃ ip, g.1 70 33 = bI ip
section X5
variable {l : Launch} {w : jW} {h0 g1 gE g g' : jH} {t : Nat → Nat} {n : Nat} {dc gd ty ip : Bool} {H : Nat → Prop} {L c a s : Nat} {q : TA} {f f2 : CL} {e : List Ev} {x y : Int32}
theorem xT_g (T : xT h0 t n dc) (F : xF h0 g) : g.2.1 70 = rMap ∧ rtx g t n ∧ g.1 70 7 = bI dc := ⟨by rw [F.1]; exact T.1, rtx_keep (F.2 70 3 (by omega)) (fun j => F.2 71 j (by omega)) T.2.1, by rw [F.2 70 7 (by omega)]; exact T.2.2⟩
theorem nF_up (F : nF L g1 g) {k j : Nat} {v : Int32} (hk : ¬ (85 ≤ k ∧ k ≤ 91 ∧ j ≤ L ∧ ¬ ((k = 87 ∨ k = 88) ∧ j = L))) : nF L g1 (up2 g.1 k j v, g.2) := fun k' j' x y z u => by dsimp only; rw [up2_n (by rintro ⟨rfl, rfl⟩; exact hk ⟨x, y, z, u⟩)]; exact F k' j' x y z u
theorem nF_emD (F : nF L g1 g) : nF L g1 (emD dc g s x y) := fun k j a b c d => by rw [emD_o (by omega) (by omega)]; exact F k j a b c d
theorem nF_rf : nF L g g := fun _ _ _ _ _ _ => rfl
theorem sD_le : sD dc s ≤ s + 1 := by unfold sD; split <;> omega
theorem r_project (hw : jok w) (hr : g.2.1 70 = rMap) (ht : rtx g t n) (hd : g.1 70 7 = bI dc) (hs : g.1 70 21 = nI s) (hs2 : s < 130) (hip : g.1 70 33 = bI ip) (ha : a < 1000) : jM l w yX5_project cX5_project 1 none 2 [.ref (jad w 70)] (pv g a gd ty) (fun r h' => r = none ∧ h' = if pek t n a = 46 then pv (prR dc g s (if pek t n (a + 1) = 49 then 7 else 6)) (a + 2) (gd && (decide (pek t n (a + 1) = 48) || decide (pek t n (a + 1) = 49))) (ty && ip) else pv g a gd ty) := by
  refine jM_of (by decide) hw (Nat.le_of_ble_eq_true rfl) ?_
  intro X C hl hR hnL hrt hE
  subst hl
  have C : jC X w cX5_project RX5 := C
  show J X w (pv g a gd ty) 0 [(0, .ref (jad w 70))] []
  by_cases e46 : pek t n a = 46
  · have b46 : (pek t n a == 46) = true := by simp [e46]
    have hp := pek_le ht (a + 1)
    have e33 : (pv g (a + 1) gd ty).1 70 33 = bI ip := by rw [pv_o (by omega)]; exact hip
    have fin2 : ∀ (gd' ty' : Bool) (v : Int32), v = (if pek t n (a + 1) = 49 then 7 else 6) → gd' = (gd && (decide (pek t n (a + 1) = 48) || decide (pek t n (a + 1) = 49))) → ty' = (ty && ip) → J X w (pv g (a + 1) gd' ty') 62 [(0, .ref (jad w 70))] [.int v, .ref (jad w 70)] := by
      intro gd' ty' v hv hgd hty
      refine j_iconst (v := 0) C dX5_project_62 (by decide) ?_
      refine k_callV (k := 70) (ci := 5) (As := [.int v, .int 0]) C mX5_158 (r_emit hw hr hd hs hs2 v 0) jCl5.1 (by first | decide | omega) (by first | assumption | rfl) rfl rfl (Nat.le_of_ble_eq_true rfl) (jroom hR (by first | decide | omega) (by decide)) dX5_project_63 ?_
      rintro v9 h9 ⟨rfl, rfl⟩
      refine k_aload_n C dX5_project_66 rfl ?_
      refine j_dup C dX5_project_67 rfl ?_
      refine j_geti C fX5_113 rfl (by first | decide | omega) (by first | assumption | rfl) dX5_project_68 ?_
      refine j_iconst (v := 1) C dX5_project_71 (by decide) ?_
      refine j_iadd C dX5_project_72 ?_
      rw [pv_4, nI_1]
      refine j_puti C fX5_113 rfl rfl (by first | decide | omega) (by first | assumption | rfl) dX5_project_73 ?_
      refine jeqh pv_at ?_
      refine k_aload_n C dX5_project_76 rfl ?_
      refine j_iconst (v := 0) C dX5_project_77 (by decide) ?_
      refine j_putz C fX5_162 rfl rfl (by first | decide | assumption) (by first | decide | omega) (by first | assumption | rfl) dX5_project_78 ?_
      refine jeqh (show _ = pv (prR dc g s v) (a + 2) gd' ty' from by rw [pv_put (by omega)]; rfl) ?_
      exact j_vret C hrt hE dX5_project_81 (⟨rfl, by rw [if_pos e46, hv, hgd, hty]⟩)
    have fin1 : ∀ b, b = (decide (pek t n (a + 1) = 48) || decide (pek t n (a + 1) = 49)) → J X w (pv g (a + 1) gd (ty && ip)) 42 [(0, .ref (jad w 70))] [.int (bI b), .ref (jad w 70)] := by
      intro b hb
      refine k_callV (k := 70) (ci := 5) (As := [.int (bI b)]) C mX5_131 (r_must hw b) jCl5.1 (by first | decide | omega) (by first | assumption | rfl) rfl rfl (Nat.le_of_ble_eq_true rfl) (jroom hR (by first | decide | omega) (by decide)) dX5_project_42 ?_
      rintro v9 h9 ⟨rfl, rfl⟩
      refine k_aload_n C dX5_project_45 rfl ?_
      refine k_aload_n C dX5_project_46 rfl ?_
      refine k_callV (k := 70) (ci := 5) (As := []) C mX5_123 (r_look hw hr ht (by omega)) jCl5.1 (by first | decide | omega) (by first | assumption | rfl) rfl rfl (Nat.le_of_ble_eq_true rfl) (jroom hR (by first | decide | omega) (by decide)) dX5_project_47 ?_
      rintro v9 h9 ⟨rfl, rfl⟩
      refine j_bipush (v := 49) C dX5_project_50 (by decide) ?_
      refine j_icmp_ne C 60 dX5_project_52 (by decide) (fun c52 => ?_) (fun c52 => ?_)
      · replace c52 : ¬ pek t n (a + 1) = 49 := fun z => c52 (by rw [z]; rfl)
        refine j_bipush (v := 6) C dX5_project_60 (by decide) ?_
        first | exact fin2 _ _ _ (by rw [if_pos c52]) (by rw [hb]) rfl | exact fin2 _ _ _ (by rw [if_neg c52]) (by rw [hb]) rfl
      · replace c52 : pek t n (a + 1) = 49 := (nI_eq (b := 49) (by omega) (by omega)).mp (by first | exact c52 | exact Classical.not_not.mp c52)
        refine j_bipush (v := 7) C dX5_project_55 (by decide) ?_
        refine j_goto C 62 dX5_project_57 (by decide) ?_
        first | exact fin2 _ _ _ (by rw [if_pos c52]) (by rw [hb]) rfl | exact fin2 _ _ _ (by rw [if_neg c52]) (by rw [hb]) rfl
    refine k_aload_n C dX5_project_0 rfl ?_
    refine j_bipush (v := 46) C dX5_project_1 (by decide) ?_
    refine k_callV (k := 70) (ci := 5) (As := [.int (nI 46)]) C mX5_127 (r_pass hw hr ht (by omega) (ch := 46) (by decide)) jCl5.1 (by first | decide | omega) (by first | assumption | rfl) rfl rfl (Nat.le_of_ble_eq_true rfl) (jroom hR (by first | decide | omega) (by decide)) dX5_project_3 ?_
    rintro v9 h9 ⟨rfl, rfl⟩
    rw [b46, if_pos e46]
    refine j_if_ne C 10 dX5_project_6 (by decide) (fun c6 => ?_) (fun c6 => ?_)
    · refine k_aload_n C dX5_project_10 rfl ?_
      refine k_aload_n C dX5_project_11 rfl ?_
      refine j_geti C fX5_162 rfl (by first | decide | omega) (by first | assumption | rfl) dX5_project_12 ?_
      rw [e33]
      refine k_callV (k := 70) (ci := 5) (As := [.int (bI ip)]) C mX5_172 (r_type hw ip) jCl5.1 (by first | decide | omega) (by first | assumption | rfl) rfl rfl (Nat.le_of_ble_eq_true rfl) (jroom hR (by first | decide | omega) (by decide)) dX5_project_15 ?_
      rintro v9 h9 ⟨rfl, rfl⟩
      refine k_aload_n C dX5_project_18 rfl ?_
      refine k_aload_n C dX5_project_19 rfl ?_
      refine k_callV (k := 70) (ci := 5) (As := []) C mX5_123 (r_look hw hr ht (by omega)) jCl5.1 (by first | decide | omega) (by first | assumption | rfl) rfl rfl (Nat.le_of_ble_eq_true rfl) (jroom hR (by first | decide | omega) (by decide)) dX5_project_20 ?_
      rintro v9 h9 ⟨rfl, rfl⟩
      refine j_bipush (v := 48) C dX5_project_23 (by decide) ?_
      refine j_icmp_eq C 37 dX5_project_25 (by decide) (fun c25 => ?_) (fun c25 => ?_)
      · replace c25 : pek t n (a + 1) = 48 := (nI_eq (b := 48) (by omega) (by omega)).mp (by first | exact c25 | exact Classical.not_not.mp c25)
        refine j_iconst (v := 1) C dX5_project_37 (by decide) ?_
        refine j_goto C 42 dX5_project_38 (by decide) ?_
        first | exact fin1 true (by rw [decide_eq_true c25]; rfl) | exact fin1 true (by rw [decide_eq_true c34, Bool.or_true]) | exact fin1 false (by rw [decide_eq_false c25, decide_eq_false c34]; rfl)
      · replace c25 : ¬ pek t n (a + 1) = 48 := fun z => c25 (by rw [z]; rfl)
        refine k_aload_n C dX5_project_28 rfl ?_
        refine k_callV (k := 70) (ci := 5) (As := []) C mX5_123 (r_look hw hr ht (by omega)) jCl5.1 (by first | decide | omega) (by first | assumption | rfl) rfl rfl (Nat.le_of_ble_eq_true rfl) (jroom hR (by first | decide | omega) (by decide)) dX5_project_29 ?_
        rintro v9 h9 ⟨rfl, rfl⟩
        refine j_bipush (v := 49) C dX5_project_32 (by decide) ?_
        refine j_icmp_ne C 41 dX5_project_34 (by decide) (fun c34 => ?_) (fun c34 => ?_)
        · replace c34 : ¬ pek t n (a + 1) = 49 := fun z => c34 (by rw [z]; rfl)
          refine j_iconst (v := 0) C dX5_project_41 (by decide) ?_
          first | exact fin1 true (by rw [decide_eq_true c25]; rfl) | exact fin1 true (by rw [decide_eq_true c34, Bool.or_true]) | exact fin1 false (by rw [decide_eq_false c25, decide_eq_false c34]; rfl)
        · replace c34 : pek t n (a + 1) = 49 := (nI_eq (b := 49) (by omega) (by omega)).mp (by first | exact c34 | exact Classical.not_not.mp c34)
          refine j_iconst (v := 1) C dX5_project_37 (by decide) ?_
          refine j_goto C 42 dX5_project_38 (by decide) ?_
          first | exact fin1 true (by rw [decide_eq_true c25]; rfl) | exact fin1 true (by rw [decide_eq_true c34, Bool.or_true]) | exact fin1 false (by rw [decide_eq_false c25, decide_eq_false c34]; rfl)
    · exact absurd c6 (by decide) -- stop
  · have b46 : (pek t n a == 46) = false := by simp [e46]
    refine k_aload_n C dX5_project_0 rfl ?_
    refine j_bipush (v := 46) C dX5_project_1 (by decide) ?_
    refine k_callV (k := 70) (ci := 5) (As := [.int (nI 46)]) C mX5_127 (r_pass hw hr ht (by omega) (ch := 46) (by decide)) jCl5.1 (by first | decide | omega) (by first | assumption | rfl) rfl rfl (Nat.le_of_ble_eq_true rfl) (jroom hR (by first | decide | omega) (by decide)) dX5_project_3 ?_
    rintro v9 h9 ⟨rfl, rfl⟩
    rw [b46, if_neg e46]
    refine j_if_ne C 10 dX5_project_6 (by decide) (fun c6 => ?_) (fun c6 => ?_)
    · exact absurd rfl c6 -- stop
    · exact j_vret C hrt hE dX5_project_9 (⟨rfl, by rw [if_neg e46]⟩)
end X5
