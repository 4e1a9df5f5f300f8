section RDI
variable {l : Launch} {w : jW} {h0 h : jH} {u : Nat} {t : Nat → Nat} {n : Nat} {hs : List (Nat × Nat × Nat)} {me sg : Nat}
/-- readExpression at every depth -/
theorem c_E (hw : jok w) (hS : cS h0 u t n hs me sg) (hsg3 : ∀ k, ta sg k ≠ 3) (hh : hsok hs) : ∀ b, b ≤ 8 → cSub l w h0 u n me (8 - b) (7 + 6 * b) (pE t n hs sg b) := by
  have key : ∀ (br : Bool) (sub : Nat → PR) (dp d D : Nat), pgr n sub → szs sub → 2 ≤ d → 4 ≤ D → br = decide (dp < 8) → dp ≤ 8 → (br = true → d + 3 ≤ D ∧ cSub l w h0 u n me (dp + 1) d sub) → cSub l w h0 u n me dp (D + 3) (pSum t n hs sg br sub) := by
    intro br sub dp d D hp hz hd hD hbr hdp hE'
    have hsg := cS_sg hS
    have h1 : cFn l w h0 u n me dp D yX0_readWhole cX0_readWhole 4 (pWho t n hs sg br sub) := ⟨pgr_Who hp, sz_Who hp hz hh hsg hsg3, fun h a bs md hc hb => c_readWhole hw hS hsg3 hd hD hbr hdp hE' hc hb⟩
    have h2 : cFn l w h0 u n me dp (D + 1) yX0_readFactor cX0_readFactor 3 (pFac t n hs sg br sub) := ⟨pgr_Fac hp, sz_Fac hp hz hh hsg hsg3, fun h a bs md hc hb => c_readFactor hw hS (by omega) h1 hc hb⟩
    have h3 : cFn l w h0 u n me dp (D + 2) yX0_readProduct cX0_readProduct 4 (pPro t n hs sg br sub) := ⟨pgr_Pro hp, sz_Pro hp hz hh hsg hsg3, fun h a bs md hc hb => c_readProduct hw hS (by omega) h2 hc hb⟩
    exact ⟨pgr_Sum hp, sz_Sum hp hz hh hsg hsg3, fun h a bs md hc hb => c_readExpression hw hS (by omega) h3 hc hb⟩
  intro b
  induction b with
  | zero =>
    intro _
    exact key false (fun _ => none) 8 2 4 (fun a a1 f h => by cases h) (fun a a1 f h => by cases h) (by omega) (by omega) rfl (by omega) (fun e => by cases e)
  | succ b ih =>
    intro hb
    have hi := ih (by omega)
    have := key true (pE t n hs sg b) (8 - (b + 1)) (7 + 6 * b) (7 + 6 * b + 3) hi.1 hi.2.1 (by omega) (by omega) (by simp; omega) (by omega) (fun _ => ⟨Nat.le_refl _, by rw [show 8 - (b + 1) + 1 = 8 - b by omega]; exact hi⟩)
    rw [show 7 + 6 * (b + 1) = 7 + 6 * b + 3 + 3 by omega]
    exact this
end RDI
