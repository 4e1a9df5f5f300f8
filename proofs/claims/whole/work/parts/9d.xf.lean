def agB (dc : Bool) (tb : List HD) (it : Option Nat) (st : Nat) (ip : Bool) : Bool := dc || (it.isSome && (decide (st < nTk (ctI tb it)) && ((ta (ctI tb it) (st + 1) == 2) == ip)))
def agR (g : jH) (M st : Nat) (ip : Bool) : jH := grw (up2 g.1 86 M (nI (st + 1)), g.2) (if ip then 2 else 1)
section XF
variable {l : Launch} {w : jW} {h h0 g1 gE g g' : jH} {t : Nat → Nat} {n : Nat} {dc gd ty ip kp : Bool} {H : Nat → Prop} {L c a s M ow nm k st kq : Nat} {q qs : TA} {f f2 : CL} {e : List Ev} {tb : List HD} {x sg0 sg : Nat}
theorem agR_o {k j : Nat} (h1 : ¬ (k = 86 ∧ j = M)) (h2 : ¬ (k = 70 ∧ (j = 31 ∨ j = 32))) : (agR g M st ip).1 k j = g.1 k j := by
  unfold agR
  rw [grw_o (by omega)]
  dsimp only
  rw [up2_n (by omega)]
theorem agR_86 : (agR g M st ip).1 86 M = nI (st + 1) := by unfold agR; rw [grw_o (by omega)]; dsimp only; rw [up2_s]
theorem rIt_o (N : rIt g 6 tb) (h : ∀ k j, 73 ≤ k → k ≤ 79 → g'.1 k j = g.1 k j) : rIt g' 6 tb := by
  obtain ⟨⟨b1, b2, b3⟩, b4⟩ := N
  refine ⟨⟨by rw [h _ _ (by omega) (by omega)]; exact b1, b2, fun i hi => ?_⟩, fun i hi => ?_⟩
  · rw [h _ _ (by omega) (by omega), h _ _ (by omega) (by omega)]; exact b3 i hi
  · obtain ⟨d1, d2, d3, d4⟩ := b4 i hi
    exact ⟨by rw [h _ _ (by omega) (by omega)]; exact d1, by rw [h _ _ (by omega) (by omega)]; exact d2, fun q hq => by rw [h _ _ (by omega) (by omega)]; exact d3 q hq, by rw [h _ _ (by omega) (by omega)]; exact d4⟩
theorem r_eS5 (hw : jok w) (hr : g.2.1 70 = rMap) (ht : rtx g t n) (ha : a < 1000) (hd : g.1 70 7 = bI dc) (hs : g.1 70 21 = nI s) (hs2 : s < 130) (N : rIt g 6 tb) (h23 : g.1 70 23 = nI (M + 1)) (hM : M < 10) (hcl : g.1 91 M = nI (26 * ow + nm)) (how : ow ≤ 6) (hnm : nm < 26) (hst : g.1 86 M = nI st) (hst2 : st < 1000) (hkd : g.1 85 M = 4) (hip : g.1 70 33 = bI ip) : jM l w yX5_endSum cX5_endSum 4 (some .boolean) 4 [.ref (jad w 70)] (pv g a gd ty) (fun r h' => if pek t n a = 41 then r = some (.int 0) ∧ h' = pv (ecR dc (agR g M st ip) s M (nI (26 * ow + nm)) (bI ((lix tb ow (nI nm) tb.length).isSome && ta (ctI tb (lix tb ow (nI nm) tb.length)) 0 == 2))) (a + 1) gd ((ty && agB dc tb (lix tb ow (nI nm) tb.length) st ip) && (dc || ((lix tb ow (nI nm) tb.length).isSome && decide (st + 1 = nTk (ctI tb (lix tb ow (nI nm) tb.length)))))) else r = some (.int 1) ∧ h' = pv (agR g M st ip) (if pek t n a = 44 then a + 1 else a) (gd && pek t n a == 44) (ty && agB dc tb (lix tb ow (nI nm) tb.length) st ip)) := by
  refine jM_of (by decide) hw (Nat.le_of_ble_eq_true rfl) ?_
  intro X C hl hR hnL hrt hE
  subst hl
  have C : jC X w cX5_endSum RX5 := C
  show J X w (pv g a gd ty) 0 [(0, .ref (jad w 70))] []
  refine eS_k C hnL hr h23 hM hst hkd (Or.inr (Or.inr (Or.inr ⟨rfl, rfl⟩))) ?_
  have hl6 := N.1.2.1
  obtain ⟨g1, eg1⟩ : ∃ g1 : jH, g1 = (up2 g.1 86 M (nI (st + 1)), g.2) := ⟨_, rfl⟩
  rw [← eg1]
  have o1 : ∀ {k j : Nat}, ¬ (k = 86 ∧ j = M) → g1.1 k j = g.1 k j := fun {k j} z => by rw [eg1]; exact up2_n z
  have hr1 : g1.2.1 70 = rMap := by rw [eg1]; exact hr
  have N1 : rIt g1 6 tb := rIt_o N (fun k j z1 z2 => o1 (by omega))
  have eg2 : agR g M st ip = grw g1 (if ip then 2 else 1) := by unfold agR; rw [eg1]
  have hNp : rNF (pv g1 a gd ty) 6 tb := ⟨by rw [pv_o (by omega)]; exact N1.1.1, N1.1.2.1, fun i hi => by rw [pv_o (by omega), pv_o (by omega)]; exact N1.1.2.2 i hi⟩
  have hip1 : ∀ {b : Bool}, (pv g1 a gd b).1 70 33 = bI ip := fun {b} => by rw [pv_o (by omega), o1 (by omega)]; exact hip
  have e7 : (pv g1 a gd ty).1 70 7 = bI dc := by rw [pv_o (by omega), o1 (by omega)]; exact hd
  generalize hit : lix tb ow (nI nm) tb.length = it at hE ⊢
  have hi6 : ∀ i, it = some i → i < tb.length := fun i e => lix_lt (hit.trans e)
  have hr2 : (agR g M st ip).2.1 70 = rMap := hr
  have ht2 : rtx (agR g M st ip) t n := rtx_keep (agR_o (by omega) (by omega)) (fun j => agR_o (by omega) (by omega)) ht
  have N2 : rIt (agR g M st ip) 6 tb := rIt_o N (fun k j z1 z2 => agR_o (by omega) (by omega))
  have fin2 : ∀ b, b = agB dc tb it st ip → J X w (pv (agR g M st ip) a gd (ty && b)) 242 [(0, .ref (jad w 70)), (1, .int (nI M)), (2, .int (nI st)), (3, .int (ixI 6 it))] [] := by
    intro b hb
    by_cases e41 : pek t n a = 41
    · have b41 : (pek t n a == 41) = true := by simp [e41]
      have hec := r_endCall (l := jXl X) (dc := dc) (s := s) (a := a + 1) (gd := gd) (ty := ty && b) (k := st + 1) (ow := ow) (nm := nm) hw hr2 (by rw [agR_o (by omega) (by omega)]; exact hd) (by rw [agR_o (by omega) (by omega)]; exact hs) hs2 N2 (by rw [agR_o (by omega) (by omega)]; exact h23) hM (by rw [agR_o (by omega) (by omega)]; exact hcl) how hnm agR_86 (by omega)
      rw [hit] at hec
      refine k_aload_n C dX5_endSum_242 rfl ?_
      refine j_bipush (v := 41) C dX5_endSum_243 (by decide) ?_
      refine k_callV (k := 70) (ci := 5) (As := [.int (nI 41)]) C mX5_127 (r_pass hw hr2 ht2 (by omega) (ch := 41) (by decide)) jCl5.1 (by first | decide | omega) (by first | assumption | rfl) rfl rfl (Nat.le_of_ble_eq_true rfl) (jroom hR (by first | decide | omega) (by decide)) dX5_endSum_245 ?_
      rintro v9 h9 ⟨rfl, rfl⟩
      rw [b41, if_pos e41]
      refine j_if_eq C 257 dX5_endSum_248 (by decide) (fun c248 => ?_) (fun c248 => ?_)
      · exact absurd c248 (by decide) -- stop
      · refine k_aload_n C dX5_endSum_251 rfl ?_
        refine k_callV (k := 70) (ci := 5) (As := []) C mX5_200 (hec) jCl5.1 (by first | decide | omega) (by first | assumption | rfl) rfl rfl (Nat.le_of_ble_eq_true rfl) (jroom hR (by first | decide | omega) (by decide)) dX5_endSum_252 ?_
        rintro v9 h9 ⟨rfl, rfl⟩
        refine j_iconst (v := 0) C dX5_endSum_255 (by decide) ?_
        exact j_zret C hrt (rfl) hE dX5_endSum_256 (by rw [if_pos e41]; exact ⟨rfl, by rw [hb]⟩)
    · have b41 : (pek t n a == 41) = false := by simp [e41]
      refine k_aload_n C dX5_endSum_242 rfl ?_
      refine j_bipush (v := 41) C dX5_endSum_243 (by decide) ?_
      refine k_callV (k := 70) (ci := 5) (As := [.int (nI 41)]) C mX5_127 (r_pass hw hr2 ht2 (by omega) (ch := 41) (by decide)) jCl5.1 (by first | decide | omega) (by first | assumption | rfl) rfl rfl (Nat.le_of_ble_eq_true rfl) (jroom hR (by first | decide | omega) (by decide)) dX5_endSum_245 ?_
      rintro v9 h9 ⟨rfl, rfl⟩
      rw [b41, if_neg e41]
      refine j_if_eq C 257 dX5_endSum_248 (by decide) (fun c248 => ?_) (fun c248 => ?_)
      · refine k_aload_n C dX5_endSum_257 rfl ?_
        refine j_bipush (v := 44) C dX5_endSum_258 (by decide) ?_
        refine k_callV (k := 70) (ci := 5) (As := [.int (nI 44)]) C mX5_175 (r_expect hw hr2 ht2 (by omega) (ch := 44) (by decide)) jCl5.1 (by first | decide | omega) (by first | assumption | rfl) rfl rfl (Nat.le_of_ble_eq_true rfl) (jroom hR (by first | decide | omega) (by decide)) dX5_endSum_260 ?_
        rintro v9 h9 ⟨rfl, rfl⟩
        refine j_iconst (v := 1) C dX5_endSum_263 (by decide) ?_
        exact j_zret C hrt (rfl) hE dX5_endSum_264 (by rw [if_neg e41]; exact ⟨rfl, by rw [hb]⟩)
      · exact absurd rfl c248 -- stop
  have fin : ∀ b, b = agB dc tb it st ip → J X w (pv g1 a gd ty) 223 [(0, .ref (jad w 70)), (1, .int (nI M)), (2, .int (nI st)), (3, .int (ixI 6 it))] [.int (bI b), .ref (jad w 70)] := by
    intro b hb
    have f2 := fin2 b hb
    rw [eg2] at f2
    cases ip with
    | true =>
      refine k_callV (k := 70) (ci := 5) (As := [.int (bI b)]) C mX5_172 (r_type hw b) jCl5.1 (by first | decide | omega) (by first | assumption | rfl) rfl rfl (Nat.le_of_ble_eq_true rfl) (jroom hR (by first | decide | omega) (by decide)) dX5_endSum_223 ?_
      rintro v9 h9 ⟨rfl, rfl⟩
      refine k_aload_n C dX5_endSum_226 rfl ?_
      refine k_aload_n C dX5_endSum_227 rfl ?_
      refine j_geti C fX5_162 rfl (by first | decide | omega) (by first | assumption | rfl) dX5_endSum_228 ?_
      refine j_if_eq C 238 dX5_endSum_231 (by decide) (fun c231 => ?_) (fun c231 => ?_)
      · exact absurd (hip1.symm.trans c231) (by decide) -- stop
      · refine j_iconst (v := 2) C dX5_endSum_234 (by decide) ?_
        refine j_goto C 239 dX5_endSum_235 (by decide) ?_
        refine k_callV (k := 70) (ci := 5) (As := [.int 2]) C mX5_212 (r_grow hw 2) jCl5.1 (by first | decide | omega) (by first | assumption | rfl) rfl rfl (Nat.le_of_ble_eq_true rfl) (jroom hR (by first | decide | omega) (by decide)) dX5_endSum_239 ?_
        rintro v9 h9 ⟨rfl, rfl⟩
        exact f2
    | false =>
      refine k_callV (k := 70) (ci := 5) (As := [.int (bI b)]) C mX5_172 (r_type hw b) jCl5.1 (by first | decide | omega) (by first | assumption | rfl) rfl rfl (Nat.le_of_ble_eq_true rfl) (jroom hR (by first | decide | omega) (by decide)) dX5_endSum_223 ?_
      rintro v9 h9 ⟨rfl, rfl⟩
      refine k_aload_n C dX5_endSum_226 rfl ?_
      refine k_aload_n C dX5_endSum_227 rfl ?_
      refine j_geti C fX5_162 rfl (by first | decide | omega) (by first | assumption | rfl) dX5_endSum_228 ?_
      refine j_if_eq C 238 dX5_endSum_231 (by decide) (fun c231 => ?_) (fun c231 => ?_)
      · refine j_iconst (v := 1) C dX5_endSum_238 (by decide) ?_
        refine k_callV (k := 70) (ci := 5) (As := [.int 1]) C mX5_212 (r_grow hw 1) jCl5.1 (by first | decide | omega) (by first | assumption | rfl) rfl rfl (Nat.le_of_ble_eq_true rfl) (jroom hR (by first | decide | omega) (by decide)) dX5_endSum_239 ?_
        rintro v9 h9 ⟨rfl, rfl⟩
        exact f2
      · exact absurd hip1 c231 -- stop
  have start : J X w (pv g1 a gd ty) 178 [(0, .ref (jad w 70)), (1, .int (nI M)), (2, .int (nI st)), (3, .int (ixI 6 it))] [] → J X w (pv g1 a gd ty) 173 [(0, .ref (jad w 70)), (1, .int (nI M)), (2, .int (nI st))] [] := by
    intro kk
    refine k_aload_n C dX5_endSum_173 rfl ?_
    refine k_callV (k := 70) (ci := 5) (As := []) C mX5_187 (r_calleeItem hw (h := pv g1 a gd ty) hr1 hNp (by rw [pv_o (by omega), o1 (by omega)]; exact h23) hM (by rw [pv_o (by omega), o1 (by omega)]; exact hcl) how hnm) jCl5.1 (by first | decide | omega) (by first | assumption | rfl) rfl rfl (Nat.le_of_ble_eq_true rfl) (jroom hR (by first | decide | omega) (by decide)) dX5_endSum_174 ?_
    rintro v9 h9 ⟨rfl, rfl⟩
    rw [hit]
    refine k_istore_n C dX5_endSum_177 (by rw [hnL]; decide) ?_
    exact kk
  refine start ?_
  cases dc with
  | true =>
    refine k_aload_n C dX5_endSum_178 rfl ?_
    refine k_aload_n C dX5_endSum_179 rfl ?_
    refine j_geti C fX5_135 rfl (by first | decide | omega) (by first | assumption | rfl) dX5_endSum_180 ?_
    refine j_if_ne C 218 dX5_endSum_183 (by decide) (fun c183 => ?_) (fun c183 => ?_)
    · refine j_iconst (v := 1) C dX5_endSum_218 (by decide) ?_
      refine j_goto C 223 dX5_endSum_219 (by decide) ?_
      exact fin true rfl
    · exact absurd (e7.symm.trans (by first | exact c183 | exact Classical.not_not.mp c183)) (by decide) -- stop
  | false =>
    cases hit2 : it with
    | none =>
      rw [hit2] at fin
      refine k_aload_n C dX5_endSum_178 rfl ?_
      refine k_aload_n C dX5_endSum_179 rfl ?_
      refine j_geti C fX5_135 rfl (by first | decide | omega) (by first | assumption | rfl) dX5_endSum_180 ?_
      refine j_if_ne C 218 dX5_endSum_183 (by decide) (fun c183 => ?_) (fun c183 => ?_)
      · exact absurd e7 c183 -- stop
      · refine k_iload_n C dX5_endSum_186 rfl ?_
        refine j_iconst (v := -1) C dX5_endSum_187 (by decide) ?_
        refine j_icmp_eq C 222 dX5_endSum_188 (by decide) (fun c188 => ?_) (fun c188 => ?_)
        · refine j_iconst (v := 0) C dX5_endSum_222 (by decide) ?_
          exact fin false rfl
        · exact absurd rfl c188 -- stop
    | some i =>
      have hi := hi6 i hit2
      rw [hit2] at fin
      have hk3 := nTk_le (ctI tb (some i))
      have f77 : (pv g1 a gd ty).1 77 (6 * 6 + i) = nI (nTk (ctI tb (some i))) := by rw [pv_o (by omega), (N1.2 i hi).2.1, ctI_s hi]
      have ei : (3 : Int32) * nI (6 * 6 + i) + nI st = nI (3 * (6 * 6 + i) + st) := by rw [show (3 : Int32) = nI 3 from rfl, pk_mul, nI_add]
      by_cases hlt : st < nTk (ctI tb (some i))
      · have f78 : (pv g1 a gd ty).1 78 (3 * (6 * 6 + i) + st) = bI (ta (ctI tb (some i)) (st + 1) == 2) := by rw [pv_o (by omega), (N1.2 i hi).2.2.1 st (by rw [← ctI_s hi]; exact hlt), ctI_s hi]
        refine k_aload_n C dX5_endSum_178 rfl ?_
        refine k_aload_n C dX5_endSum_179 rfl ?_
        refine j_geti C fX5_135 rfl (by first | decide | omega) (by first | assumption | rfl) dX5_endSum_180 ?_
        refine j_if_ne C 218 dX5_endSum_183 (by decide) (fun c183 => ?_) (fun c183 => ?_)
        · exact absurd e7 c183 -- stop
        · refine k_iload_n C dX5_endSum_186 rfl ?_
          refine j_iconst (v := -1) C dX5_endSum_187 (by decide) ?_
          refine j_icmp_eq C 222 dX5_endSum_188 (by decide) (fun c188 => ?_) (fun c188 => ?_)
          · exact absurd c188 (nI_m1 (a := 6 * 6 + i) (by omega)) -- stop
          · refine k_iload_n C dX5_endSum_191 rfl ?_
            refine k_aload_n C dX5_endSum_192 rfl ?_
            refine j_getr C fX5_30 rfl (by first | decide | omega) (by first | assumption | rfl) (congrFun hr1 _) dX5_endSum_193 ?_
            refine k_iload_n C dX5_endSum_196 rfl ?_
            refine j_iald C (by first | decide | omega) (by first | assumption | rfl) (rfl) ((by omega)) (by decide) dX5_endSum_197 ?_
            refine j_icmp_ge C 222 dX5_endSum_198 (by decide) (fun c198 => ?_) (fun c198 => ?_)
            · exact absurd c198 (by rw [f77]; exact nI_ge (a := st) (b := nTk (ctI tb (some i))) (by omega) (by omega)) -- stop
            · refine k_aload_n C dX5_endSum_201 rfl ?_
              refine j_getr C fX5_33 rfl (by first | decide | omega) (by first | assumption | rfl) (congrFun hr1 _) dX5_endSum_202 ?_
              refine j_iconst (v := 3) C dX5_endSum_205 (by decide) ?_
              refine k_iload_n C dX5_endSum_206 rfl ?_
              refine j_imul C dX5_endSum_207 ?_
              refine k_iload_n C dX5_endSum_208 rfl ?_
              refine j_iadd C dX5_endSum_209 ?_
              refine j_zald C (by first | decide | omega) (by first | assumption | rfl) (ei) ((by omega)) (by decide) dX5_endSum_210 ?_
              refine k_aload_n C dX5_endSum_211 rfl ?_
              refine j_geti C fX5_162 rfl (by first | decide | omega) (by first | assumption | rfl) dX5_endSum_212 ?_
              refine j_icmp_ne C 222 dX5_endSum_215 (by decide) (fun c215 => ?_) (fun c215 => ?_)
              · rw [f78, hip1] at c215
                refine j_iconst (v := 0) C dX5_endSum_222 (by decide) ?_
                first | exact fin false (by unfold agB; rw [decide_eq_true hlt]; cases z : (ta (ctI tb (some i)) (st + 1) == 2) == ip; rfl; exact absurd (congrArg bI (by simpa using z)) c215) | exact fin true (by unfold agB; rw [decide_eq_true hlt, bI_inj c215]; simp)
              · rw [f78, hip1] at c215
                refine j_iconst (v := 1) C dX5_endSum_218 (by decide) ?_
                refine j_goto C 223 dX5_endSum_219 (by decide) ?_
                first | exact fin false (by unfold agB; rw [decide_eq_true hlt]; cases z : (ta (ctI tb (some i)) (st + 1) == 2) == ip; rfl; exact absurd (congrArg bI (by simpa using z)) c215) | exact fin true (by unfold agB; rw [decide_eq_true hlt, bI_inj c215]; simp)
      · skip
        refine k_aload_n C dX5_endSum_178 rfl ?_
        refine k_aload_n C dX5_endSum_179 rfl ?_
        refine j_geti C fX5_135 rfl (by first | decide | omega) (by first | assumption | rfl) dX5_endSum_180 ?_
        refine j_if_ne C 218 dX5_endSum_183 (by decide) (fun c183 => ?_) (fun c183 => ?_)
        · exact absurd e7 c183 -- stop
        · refine k_iload_n C dX5_endSum_186 rfl ?_
          refine j_iconst (v := -1) C dX5_endSum_187 (by decide) ?_
          refine j_icmp_eq C 222 dX5_endSum_188 (by decide) (fun c188 => ?_) (fun c188 => ?_)
          · exact absurd c188 (nI_m1 (a := 6 * 6 + i) (by omega)) -- stop
          · refine k_iload_n C dX5_endSum_191 rfl ?_
            refine k_aload_n C dX5_endSum_192 rfl ?_
            refine j_getr C fX5_30 rfl (by first | decide | omega) (by first | assumption | rfl) (congrFun hr1 _) dX5_endSum_193 ?_
            refine k_iload_n C dX5_endSum_196 rfl ?_
            refine j_iald C (by first | decide | omega) (by first | assumption | rfl) (rfl) ((by omega)) (by decide) dX5_endSum_197 ?_
            refine j_icmp_ge C 222 dX5_endSum_198 (by decide) (fun c198 => ?_) (fun c198 => ?_)
            · refine j_iconst (v := 0) C dX5_endSum_222 (by decide) ?_
              exact fin false (by unfold agB; rw [decide_eq_false hlt]; rfl)
            · exact absurd (by rw [f77]; exact nI_le (a := nTk (ctI tb (some i))) (b := st) (by omega) (by omega)) c198 -- stop
end XF
