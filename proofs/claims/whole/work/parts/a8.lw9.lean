/-! THE LAW'S HELPERS: what they want, their rows -/
theorem w_lcmp0 {p : Program} {l : Launch} {e : Env} {R : Room} {s : State} {m : MethodId} {args : Array Value} {below : List Frame} {meth : Method} {c : Code} {H : Heap} {locs : List Loc} {cells slots : Nat} {Q : State → Prop} {cc : ByteArray} {pc : Nat} {ls : Array Slot} {rest : List Value} (hexec : p.tables.exec = Jvm.exec) (hb : c.code = cc) {x : Int64} (hdg : decode cc pc = .ok (.lcmp, 1))
    (k : W p l e R s m args below meth c H locs cells slots Q (F0 m (pc + 1) ls (.int 0 :: rest))) : W p l e R s m args below meth c H locs cells slots Q (F0 m pc ls (.long x :: .long x :: rest)) := by
  intro T hT X
  obtain ⟨t, a, b⟩ := k T hT X
  refine ⟨t, ?_, b⟩
  jvm_step X.here [X.here.top, hexec, hb, hdg]
  simpa using a
section HP
variable {X : jX} {w : jW} {h : jH} {A : Nat → Prop} {nc ns : Nat} {cc : ByteArray} {own : String} {pc : Nat} {lv : List (Nat × Value)} {r : List Value}
theorem p_lcmp0 {I : Heap → Prop} (C : jC X w cc own) {x : Int64} (d : decode cc pc = .ok (.lcmp, 1)) (k : JP X I A nc ns (pc + 1) lv (.int 0 :: r)) : JP X I A nc ns pc lv (.long x :: .long x :: r) := fun H locs ls hP hS hl => w_lcmp0 C.1 C.2.1 d (k H locs ls hP hS hl)
theorem p_lald (C : jC X w cc own) {i : Int32} (hi : i = nI 0) (d : decode cc pc = .ok (.laload, 1)) (kk : JP X (va_P w.1 vwCl (jws w h)) A nc ns (pc + 1) lv (.long (h.2.2 98 0) :: r)) : JP X (va_P w.1 vwCl (jws w h)) A nc ns pc lv (.int i :: .ref (jad w 98) :: r) := by
  intro H locs ls hP hS hl'
  subst hi
  refine va_lald C.1 C.2.1 C.2.2.2.2.1 hP 98 5 (by rw [jws_at w h (by decide), jcel_a (show jk 98 = .inr (5, 1) from rfl)]; rfl) (jtys_at w (t := 5) (by decide)) (vp_in_nI (show 0 < 1 by decide) (by decide)) d ?_
  exact kk H locs ls hP hS hl'
theorem p_last (C : jC X w cc own) {i : Int32} {x : Int64} (hi : i = nI 0) (d : decode cc pc = .ok (.lastore, 1)) (kk : JP X (va_P w.1 vwCl (jws w (h.1, h.2.1, up2 h.2.2 98 0 x))) (jA w) nc ns (pc + 1) lv r) : JP X (va_P w.1 vwCl (jws w h)) (jA w) nc ns pc lv (.long x :: .int i :: .ref (jad w 98) :: r) := by
  intro H locs ls hP hS hl'
  subst hi
  refine va_last C.1 C.2.1 C.2.2.2.2.1 hP (jD C.2.2.2.2.2.2.1 h) hS 98 5 (by rw [jws_at w h (by decide), jcel_a (show jk 98 = .inr (5, 1) from rfl)]; rfl) (jtys_at w (t := 5) (by decide)) (vp_in_nI (show 0 < 1 by decide) (by decide)) d ?_
  intro H1 locs1 p1 _ s1
  have e : vp_updL (h.2.2 98) (nI 0).toNatClampNeg x = up2 h.2.2 98 0 x 98 := by
    rw [up2_r]
    funext j
    rfl
  rw [jst_arr (h' := (h.1, h.2.1, up2 h.2.2 98 0 x)) (n := 0) (show jk 98 = .inr (5, 1) from rfl) (by rw [e]; rfl) (fun i hi => jcel_l hi)] at p1
  exact kk H1 locs1 ls p1 s1 hl'
end HP
