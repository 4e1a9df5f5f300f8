section XH
variable {X : jX} {w : jW} {h h0 g1 gE g g' : jH} {t : Nat → Nat} {n : Nat} {dc gd ty ip kp : Bool} {H : Nat → Prop} {L c a s M ow nm k j st kq x : Nat} {tb : List HD} {sg0 sg : Nat} {cl v : Int32}
theorem e2R_o (h1 : ¬ (k = 86 ∧ j = M)) (h2 : ¬ (k = 70 ∧ (j = 31 ∨ j = 32 ∨ j = 33 ∨ j = 23))) : (e2R g M).1 k j = g.1 k j := by
  unfold e2R
  dsimp only
  rw [up2_n (by omega), up2_n (by omega), grw_o (by omega)]
  dsimp only
  rw [up2_n (by omega)]
theorem e3R_o (h1 : ¬ (k = 86 ∧ j = M)) (h2 : ¬ (k = 70 ∧ (j = 31 ∨ j = 33 ∨ j = 23))) : (e3R g M).1 k j = g.1 k j := by
  unfold e3R
  dsimp only
  rw [up2_n (by omega), up2_n (by omega), up2_n (by omega), up2_n (by omega)]
theorem ptR_2 : (ptR dc g k v).2 = g.2 := by unfold ptR; split <;> rfl
theorem ptR_o {i : Nat} (h1 : ¬ (k = 83 ∧ j = 780 + i)) : (ptR dc g i v).1 k j = g.1 k j := by
  unfold ptR
  split
  · rfl
  · exact up2_n h1
theorem ch0_o (h1 : ¬ (82 ≤ k ∧ k ≤ 84 ∧ j = 780 + s)) (h2 : ¬ (k = 90 ∧ j = M)) (h3 : ¬ (k = 70 ∧ j = 21)) : (ch0 dc g M s).1 k j = g.1 k j := by
  unfold ch0
  rw [emD_o h1 h3]
  dsimp only
  rw [up2_n h2]
theorem ch1_o (h1 : ¬ (82 ≤ k ∧ k ≤ 84 ∧ j = 780 + s)) (h2 : ¬ ((k = 89 ∨ k = 90) ∧ j = M)) (h3 : ¬ (k = 70 ∧ j = 21)) (h4 : ¬ (k = 83 ∧ j = 780 + kq)) : (ch1 dc g M s kq ip).1 k j = g.1 k j := by
  unfold ch1
  rw [emD_o h1 h3]
  dsimp only
  rw [up2_n (by omega), ptR_o h4]
  dsimp only
  rw [up2_n (by omega)]
theorem ch2_o (h3 : ¬ (k = 70 ∧ (j = 33 ∨ j = 23))) (h4 : ¬ (k = 83 ∧ j = 780 + kq)) : (ch2 dc g M s kq kp).1 k j = g.1 k j := by
  unfold ch2
  dsimp only
  rw [up2_n (by omega), ptR_o h4]
  dsimp only
  rw [up2_n (by omega)]
theorem ecR_o (h1 : ¬ (82 ≤ k ∧ k ≤ 84 ∧ j = 780 + s)) (h3 : ¬ (k = 70 ∧ (j = 21 ∨ j = 31 ∨ j = 33 ∨ j = 23))) : (ecR dc g s M cl v).1 k j = g.1 k j := by
  unfold ecR
  dsimp only
  rw [up2_n (by omega), up2_n (by omega), up2_n (by omega), emD_o h1 (by omega)]
theorem e2R_xF (F : xF h0 g) : xF h0 (e2R g M) := ⟨F.1, fun k j z => by rw [e2R_o (by omega) (by omega)]; exact F.2 k j z⟩
theorem e3R_xF (F : xF h0 g) : xF h0 (e3R g M) := ⟨F.1, fun k j z => by rw [e3R_o (by omega) (by omega)]; exact F.2 k j z⟩
theorem ch0_xF (F : xF h0 g) : xF h0 (ch0 dc g M s) := ⟨by unfold ch0; rw [emD_ref]; exact F.1, fun k j z => by rw [ch0_o (by omega) (by omega) (by omega)]; exact F.2 k j z⟩
theorem ch1_xF (F : xF h0 g) : xF h0 (ch1 dc g M s kq ip) := ⟨by unfold ch1; rw [emD_ref]; exact F.1, fun k j z => by rw [ch1_o (by omega) (by omega) (by omega) (by omega)]; exact F.2 k j z⟩
theorem ch2_xF (F : xF h0 g) : xF h0 (ch2 dc g M s kq kp) := ⟨F.1, fun k j z => by rw [ch2_o (by omega) (by omega)]; exact F.2 k j z⟩
theorem ecR_xF (F : xF h0 g) : xF h0 (ecR dc g s M cl v) := ⟨by unfold ecR; dsimp only; rw [emD_ref]; exact F.1, fun k j z => by rw [ecR_o (by omega) (by omega)]; exact F.2 k j z⟩
theorem agR_xF (F : xF h0 g) : xF h0 (agR g M st ip) := ⟨F.1, fun k j z => by rw [agR_o (by omega) (by omega)]; exact F.2 k j z⟩
theorem ch0_21 (hs : g.1 70 21 = nI s) : (ch0 dc g M s).1 70 21 = nI (sD dc s) := by unfold ch0; exact emD_21 (by dsimp only; rw [up2_n (by omega)]; exact hs)
theorem ch1_21 (hs : g.1 70 21 = nI s) : (ch1 dc g M s kq ip).1 70 21 = nI (sD dc s) := by unfold ch1; exact emD_21 (by dsimp only; rw [up2_n (by omega), ptR_o (by omega)]; dsimp only; rw [up2_n (by omega)]; exact hs)
theorem ecR_21 (hs : g.1 70 21 = nI s) : (ecR dc g s M cl v).1 70 21 = nI (sD dc s) := by unfold ecR; dsimp only; rw [up2_n (by omega), up2_n (by omega), up2_n (by omega)]; exact emD_21 hs
/-- the text is wrong, a sum has been read all the same -/
theorem S_bad (hw : jok w) (C : jC X w cX5_readExpression RX5) (hR : jXR X = jrm 5) (hnL : (jXc X).maxLocals = 4) (T : xT h0 t n dc) (S : xS h0 tb x sg0) (B : xB h0 gE g L s) (hs : s ≤ 124) (ha : a ≤ 200) (hL : L ≤ 8) (hl : lok gE dc L) (hZ : ∀ g' a' ty', xZ h0 g' → a' ≤ 300 → J X w (pv g' a' false ty') 112 (lvZ w x) []) : J X w (pv g a false ty) 80 (lvD w x) [] := by
  obtain ⟨F, N, h23, h21, ip, hip⟩ := B
  obtain ⟨hr, ht, hd⟩ := xT_g T F
  obtain ⟨-, -, NI, -⟩ := xS_g S F
  have sd := sD_le (dc := dc) (s := s)
  have ne : ∀ k, 85 ≤ k → k ≤ 91 → k ≠ 87 → k ≠ 88 → g.1 k L = gE.1 k L := fun k h1 h2 h3 h4 => N k L h1 h2 (Nat.le_refl _) (by omega)
  rcases hl with rfl | ⟨st, hst, hst9, hk⟩
  · exact g_S1 C hnL h23 (hZ _ _ _ ⟨F, s, h21, by omega⟩ (by omega))
  · by_cases hL0 : L = 0
    · subst hL0
      exact g_S1 C hnL h23 (hZ _ _ _ ⟨F, s, h21, by omega⟩ (by omega))
    · have hst' : g.1 86 L = nI st := by rw [ne 86 (by omega) (by omega) (by omega) (by omega)]; exact hst
      have F1 : ∀ v, xF h0 (up2 g.1 86 L v, g.2) := fun v => xF_up F (by omega)
      have i1 : ∀ v, (up2 g.1 86 L v, g.2).1 70 21 = nI s := fun v => by dsimp only; rw [up2_n (by omega)]; exact h21
      have o1 : ∀ v k j, ¬ (k = 86 ∧ j = L) → (up2 g.1 86 L v, g.2).1 k j = g.1 k j := fun v k j z => up2_n z
      rcases hk with hk | ⟨hk, h1⟩ | ⟨hk, h2, h3, h4⟩ | ⟨hk, ow, nm, hcl, how, hnm⟩
      · refine g_S C hR hnL h23 (by omega) (by omega) (r_eS1 hw hr ht (by omega) h23 (by omega) hst' (by rw [ne 85 (by omega) (by omega) (by omega) (by omega)]; exact hk)) ?_
        rintro v h' ⟨rfl, rfl⟩
        refine ⟨false, false, _, _, _, rfl, rfl, fun _ => hZ _ _ _ ⟨xF_up (F1 _) (by omega), s, by dsimp only; rw [up2_n (by omega)]; exact i1 (nI (st + 1)), by omega⟩ (by split <;> omega), (fun z => by cases z), (fun z => by cases z)⟩
      · have hk' : g.1 85 L = 2 := by rw [ne 85 (by omega) (by omega) (by omega) (by omega)]; exact hk
        have hst2 : st = 0 ∨ st = 1 := by omega
        rcases hst2 with rfl | rfl
        · refine g_S C hR hnL h23 (by omega) (by omega) (r_eS2 hw hr ht (by omega) h23 (by omega) hst' hk' hip) ?_
          rintro v h' ⟨rfl, rfl⟩
          refine ⟨true, false, _, _, _, rfl, rfl, fun _ => hZ _ _ _ ⟨e2R_xF F, s, by rw [e2R_o (by omega) (by omega)]; exact h21, by omega⟩ (by split <;> omega), (fun z => by cases z), (fun z => by cases z)⟩
        · refine g_S C hR hnL h23 (by omega) (by omega) (r_eS3 hw hr ht (by omega) h23 (by omega) hst' hk' hip) ?_
          rintro v h' ⟨rfl, rfl⟩
          refine ⟨false, false, _, _, _, rfl, rfl, fun _ => hZ _ _ _ ⟨e3R_xF F, s, by rw [e3R_o (by omega) (by omega)]; exact h21, by omega⟩ (by split <;> omega), (fun z => by cases z), (fun z => by cases z)⟩
      · have hk' : g.1 85 L = 3 := by rw [ne 85 (by omega) (by omega) (by omega) (by omega)]; exact hk
        have hst2 : st = 0 ∨ st = 1 ∨ st = 2 := by omega
        have d7 : ∀ v, (up2 g.1 86 L v, g.2).1 70 7 = bI dc := fun v => by rw [o1 _ _ _ (by omega)]; exact hd
        have d33 : ∀ v, (up2 g.1 86 L v, g.2).1 70 33 = bI ip := fun v => by rw [o1 _ _ _ (by omega)]; exact hip
        have dt : ∀ v, rtx (up2 g.1 86 L v, g.2) t n := fun v => rtx_e (by omega) ht
        have dr : ∀ v, (up2 g.1 86 L v, g.2).2.1 70 = rMap := fun v => hr
        have kqx : 1 ≤ st → ∃ kq, (dc = false → g.1 90 L = nI kq) ∧ kq < 130 := fun z => by
          cases hdc : dc with
          | true => exact ⟨0, (fun z => by cases z), by omega⟩
          | false =>
            obtain ⟨kq, y1, y2⟩ := h3 z hdc
            exact ⟨kq, fun _ => by rw [ne 90 (by omega) (by omega) (by omega) (by omega)]; exact y1, y2⟩
        rcases hst2 with rfl | rfl | rfl
        · refine g_S C hR hnL h23 (by omega) (by omega) (r_eS4 hw hr h23 (by omega) hst' hk' (fun v h' z => ⟨true, z.1⟩) (r_ch0 hw (dr _) (dt _) (by omega) (d7 _) (i1 _) (by omega) (by omega) (d33 _))) ?_
          rintro v h' ⟨rfl, rfl⟩
          refine ⟨true, false, _, _, _, rfl, rfl, fun _ => hZ _ _ _ ⟨ch0_xF (F1 _), sD dc s, ch0_21 (i1 _), by omega⟩ (by split <;> omega), (fun z => by cases z), (fun z => by cases z)⟩
        · obtain ⟨kq, y1, y2⟩ := kqx (by omega)
          refine g_S C hR hnL h23 (by omega) (by omega) (r_eS4 hw hr h23 (by omega) hst' hk' (fun v h' z => ⟨true, z.1⟩) (r_ch1 (kq := kq) hw (dr _) (dt _) (by omega) (d7 _) (i1 _) (by omega) (by omega) (d33 _) (fun z => by rw [o1 _ _ _ (by omega)]; exact y1 z) y2)) ?_
          rintro v h' ⟨rfl, rfl⟩
          refine ⟨true, false, _, _, _, rfl, rfl, fun _ => hZ _ _ _ ⟨ch1_xF (F1 _), sD dc s, ch1_21 (i1 _), by omega⟩ (by split <;> omega), (fun z => by cases z), (fun z => by cases z)⟩
        · obtain ⟨kq, y1, y2⟩ := kqx (by omega)
          obtain ⟨kp, hkp⟩ := h4 rfl
          refine g_S C hR hnL h23 (by omega) (by omega) (r_eS4 hw hr h23 (by omega) hst' hk' (fun v h' z => ⟨false, z.1⟩) (r_ch2 (kq := kq) (kp := kp) hw (dr _) (dt _) (by omega) (d7 _) (i1 _) (by omega) (by omega) (by rw [o1 _ _ _ (by omega)]; exact h23) (d33 _) (by rw [o1 _ _ _ (by omega), ne 89 (by omega) (by omega) (by omega) (by omega)]; exact hkp) (fun z => by rw [o1 _ _ _ (by omega)]; exact y1 z) y2)) ?_
          rintro v h' ⟨rfl, rfl⟩
          refine ⟨false, false, _, _, _, rfl, rfl, fun _ => hZ _ _ _ ⟨ch2_xF (F1 _), s, by rw [ch2_o (by omega) (by omega)]; exact i1 _, by omega⟩ (by split <;> omega), (fun z => by cases z), (fun z => by cases z)⟩
      · refine g_S C hR hnL h23 (by omega) (by omega) (r_eS5 (ow := ow) (nm := nm) hw hr ht (by omega) hd h21 (by omega) NI h23 (by omega) (by rw [ne 91 (by omega) (by omega) (by omega) (by omega)]; exact hcl) how hnm hst' (by omega) (by rw [ne 85 (by omega) (by omega) (by omega) (by omega)]; exact hk) hip) ?_
        intro v h' p
        by_cases e41 : pek t n a = 41
        · rw [if_pos e41] at p
          obtain ⟨rfl, rfl⟩ := p
          refine ⟨false, false, _, _, _, rfl, rfl, fun _ => hZ _ _ _ ⟨ecR_xF (agR_xF F), sD dc s, ecR_21 (by rw [agR_o (by omega) (by omega)]; exact h21), by omega⟩ (by omega), (fun z => by cases z), (fun z => by cases z)⟩
        · rw [if_neg e41] at p
          obtain ⟨rfl, rfl⟩ := p
          refine ⟨true, false, _, _, _, rfl, rfl, fun _ => hZ _ _ _ ⟨agR_xF F, s, by rw [agR_o (by omega) (by omega)]; exact h21, by omega⟩ (by split <;> omega), (fun z => by cases z), (fun z => by cases z)⟩
end XH
