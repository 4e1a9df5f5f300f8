/-- the nest links, fields and methods, of the tables -/
def jNok (s : State) : Prop := (∀ q ∈ jNF, va_Nw (.fieldLinkNest q.1 q.2.1 q.2.2.1 q.2.2.2.1 q.2.2.2.2 "ModuleLinker") s) ∧ (∀ q ∈ jNM, va_Nw (.methodLinkNest q.1 q.2.1 q.2.2 "ModuleLinker") s)
theorem jNok.warm {s U : State} (hW : s.WarmedH U.vm) (h : jNok s) : jNok U := ⟨fun q hq => va_Nw.warmF hW (h.1 q hq), fun q hq => va_Nw.warmM hW (h.2 q hq)⟩
theorem jNok.same {s U : State} (hv : s.vm = U.vm) (h : jNok s) : jNok U := ⟨fun q hq => va_Nw.same rfl hv (h.1 q hq), fun q hq => va_Nw.same rfl hv (h.2 q hq)⟩
/-- what a walk knows: the machine, its code, the words of the tables, the classes -/
def jC (X : jX) (w : jW) (cc : ByteArray) (own : String) : Prop :=
  (jXp X).tables.exec = Jvm.exec ∧ (jXc X).code = cc ∧ (jXs X).vm.findClass own = some (jXm X).cls ∧ (∀ v ∈ wsL_law, v.before (jXa X) (jXs X) = true) ∧ va_K w.1 vwCl (jtys w) (jXs X) ∧ jNok (jXs X) ∧ jok w ∧ (jXh X).locks = false
def jCl (ci : Nat) : Prop := vwCl[ci]? = some (jR ci, jT ci, jN ci) ∧ (∀ v ∈ u_ws (jR ci) (jT ci) (jN ci), v ∈ wsL_law) ∧ (∀ k, k < jN ci → parseFieldDescriptor (jT ci k).2.2.1 = some (jty ci k)) ∧ (∀ a, a < jN ci → ∀ b, b < jN ci → a ≠ b → (jT ci a).2.1 ≠ (jT ci b).2.1)
theorem jCl0 : jCl 0 := ⟨rfl, inlX0, tyX0_ok, nmX0⟩
theorem jCl1 : jCl 1 := ⟨rfl, inlX1, tyX1_ok, nmX1⟩
theorem jCl2 : jCl 2 := ⟨rfl, inlX2, tyX2_ok, nmX2⟩
theorem jCl3 : jCl 3 := ⟨rfl, inlX3, tyX3_ok, nmX3⟩
theorem jCl4 : jCl 4 := ⟨rfl, inlX4, tyX4_ok, nmX4⟩
theorem jCl5 : jCl 5 := ⟨rfl, inlX5, tyX5_ok, nmX5⟩
/-- pool entry 'index' of the class 'own' is field j of class ci -/
def jFl (own : String) (index ci j : Nat) : Prop := jCl ci ∧ j < jN ci ∧ (Cond.fieldLink own index (jT ci j).1 (jT ci j).2.1 (jT ci j).2.2.1 ∈ wsL_law ∨ (own, index, (jT ci j).1, (jT ci j).2.1, (jT ci j).2.2.1) ∈ jNF)
section JR
variable {X : jX} {w : jW} {h : jH} {cc : ByteArray} {own : String} {pc : Nat} {lv : List (Nat × Value)} {r : List Value}
theorem j_iconst (C : jC X w cc own) {n : Int} {v : Int32} (d : decode cc pc = .ok (.iconst n, 1)) (hv : Int32.ofInt n = v) (k : J X w h (pc + 1) lv (.int v :: r)) : J X w h pc lv r := fun H locs ls hP hS hl => lv_iconst C.1 C.2.1 d hv (k H locs ls hP hS hl)
theorem j_bipush (C : jC X w cc own) {n : Int} {v : Int32} (d : decode cc pc = .ok (.bipush n, 2)) (hv : (Int8.ofInt n).toInt32 = v) (k : J X w h (pc + 2) lv (.int v :: r)) : J X w h pc lv r := fun H locs ls hP hS hl => lv_bipush C.1 C.2.1 d hv (k H locs ls hP hS hl)
theorem j_sipush (C : jC X w cc own) {n : Int} {v : Int32} (d : decode cc pc = .ok (.sipush n, 3)) (hv : (Int16.ofInt n).toInt32 = v) (k : J X w h (pc + 3) lv (.int v :: r)) : J X w h pc lv r := fun H locs ls hP hS hl => lv_sipush C.1 C.2.1 d hv (k H locs ls hP hS hl)
theorem j_ldc (C : jC X w cc own) {index : Nat} {v : Int32} (hw : Jvm.Cond.constant own index v ∈ wsL_law) (d : decode cc pc = .ok (.ldc index, 2)) (k : J X w h (pc + 2) lv (.int v :: r)) : J X w h pc lv r := fun H locs ls hP hS hl => lv_ldc C.1 C.2.1 C.2.2.1 (C.2.2.2.1 _ hw) d (k H locs ls hP hS hl)
theorem j_null (C : jC X w cc own) (d : decode cc pc = .ok (.aconst_null, 1)) (k : J X w h (pc + 1) lv (.null :: r)) : J X w h pc lv r := fun H locs ls hP hS hl => lv_null C.1 C.2.1 d (k H locs ls hP hS hl)
theorem j_iload_n (C : jC X w cc own) {i : Fin 4} {x : Int32} (q : Nat) (d : decode cc pc = .ok (.iload_n i, 1)) (hq : lv[q]? = some ((i : Nat), .int x)) (k : J X w h (pc + 1) lv (.int x :: r)) : J X w h pc lv r := fun H locs ls hP hS hl => lv_iload_n C.1 C.2.1 d rfl (lv_at hl q hq) (k H locs ls hP hS hl)
theorem j_iload (C : jC X w cc own) {i : Nat} {x : Int32} (q : Nat) (d : decode cc pc = .ok (.iload i, 2)) (hq : lv[q]? = some (i, .int x)) (k : J X w h (pc + 2) lv (.int x :: r)) : J X w h pc lv r := fun H locs ls hP hS hl => lv_iload C.1 C.2.1 d (lv_at hl q hq) (k H locs ls hP hS hl)
theorem j_aload_n (C : jC X w cc own) {i : Fin 4} {x : Nat} (q : Nat) (d : decode cc pc = .ok (.aload_n i, 1)) (hq : lv[q]? = some ((i : Nat), .ref x)) (k : J X w h (pc + 1) lv (.ref x :: r)) : J X w h pc lv r := fun H locs ls hP hS hl => lv_aload_n C.1 C.2.1 d rfl (lv_at hl q hq) (k H locs ls hP hS hl)
theorem j_aload (C : jC X w cc own) {i : Nat} {x : Nat} (q : Nat) (d : decode cc pc = .ok (.aload i, 2)) (hq : lv[q]? = some (i, .ref x)) (k : J X w h (pc + 2) lv (.ref x :: r)) : J X w h pc lv r := fun H locs ls hP hS hl => lv_aload C.1 C.2.1 d (lv_at hl q hq) (k H locs ls hP hS hl)
theorem j_aload_nN (C : jC X w cc own) {i : Fin 4} (q : Nat) (d : decode cc pc = .ok (.aload_n i, 1)) (hq : lv[q]? = some ((i : Nat), .null)) (k : J X w h (pc + 1) lv (.null :: r)) : J X w h pc lv r := fun H locs ls hP hS hl => lv_aload_nN C.1 C.2.1 d rfl (lv_at hl q hq) (k H locs ls hP hS hl)
theorem j_aloadN (C : jC X w cc own) {i : Nat} (q : Nat) (d : decode cc pc = .ok (.aload i, 2)) (hq : lv[q]? = some (i, .null)) (k : J X w h (pc + 2) lv (.null :: r)) : J X w h pc lv r := fun H locs ls hP hS hl => lv_aloadN C.1 C.2.1 d (lv_at hl q hq) (k H locs ls hP hS hl)
/-- a local's new value: it stands first -/
def jst (i : Nat) (v : Value) (lv : List (Nat × Value)) : List (Nat × Value) := (i, v) :: lv.filter (fun q => !(q.1 == i) && !(q.1 + 1 == i && q.2.category == 2))
theorem j_istore_n (C : jC X w cc own) {i : Fin 4} {x : Int32} {lv' : List (Nat × Value)} (d : decode cc pc = .ok (.istore_n i, 1)) (hn : (i : Nat) < (jXc X).maxLocals) (hl' : jst i (.int x) lv = lv') (k : J X w h (pc + 1) lv' r) : J X w h pc lv (.int x :: r) := fun H locs ls hP hS hl => lv_istore_n C.1 C.2.1 d rfl hl hn hl' (fun ls' hl' => k H locs ls' hP hS hl')
theorem j_istore (C : jC X w cc own) {i : Nat} {x : Int32} {lv' : List (Nat × Value)} (d : decode cc pc = .ok (.istore i, 2)) (hn : i < (jXc X).maxLocals) (hl' : jst i (.int x) lv = lv') (k : J X w h (pc + 2) lv' r) : J X w h pc lv (.int x :: r) := fun H locs ls hP hS hl => lv_istore C.1 C.2.1 d hl hn hl' (fun ls' hl' => k H locs ls' hP hS hl')
theorem j_astore_n (C : jC X w cc own) {i : Fin 4} {x : Nat} {lv' : List (Nat × Value)} (d : decode cc pc = .ok (.astore_n i, 1)) (hn : (i : Nat) < (jXc X).maxLocals) (hl' : jst i (.ref x) lv = lv') (k : J X w h (pc + 1) lv' r) : J X w h pc lv (.ref x :: r) := fun H locs ls hP hS hl => lv_astore_n C.1 C.2.1 d rfl hl hn hl' (fun ls' hl' => k H locs ls' hP hS hl')
theorem j_astore (C : jC X w cc own) {i : Nat} {x : Nat} {lv' : List (Nat × Value)} (d : decode cc pc = .ok (.astore i, 2)) (hn : i < (jXc X).maxLocals) (hl' : jst i (.ref x) lv = lv') (k : J X w h (pc + 2) lv' r) : J X w h pc lv (.ref x :: r) := fun H locs ls hP hS hl => lv_astore C.1 C.2.1 d hl hn hl' (fun ls' hl' => k H locs ls' hP hS hl')
theorem j_astore_nN (C : jC X w cc own) {i : Fin 4} {lv' : List (Nat × Value)} (d : decode cc pc = .ok (.astore_n i, 1)) (hn : (i : Nat) < (jXc X).maxLocals) (hl' : jst i .null lv = lv') (k : J X w h (pc + 1) lv' r) : J X w h pc lv (.null :: r) := fun H locs ls hP hS hl => lv_astore_nN C.1 C.2.1 d rfl hl hn hl' (fun ls' hl' => k H locs ls' hP hS hl')
theorem j_astoreN (C : jC X w cc own) {i : Nat} {lv' : List (Nat × Value)} (d : decode cc pc = .ok (.astore i, 2)) (hn : i < (jXc X).maxLocals) (hl' : jst i .null lv = lv') (k : J X w h (pc + 2) lv' r) : J X w h pc lv (.null :: r) := fun H locs ls hP hS hl => lv_astoreN C.1 C.2.1 d hl hn hl' (fun ls' hl' => k H locs ls' hP hS hl')
theorem j_iinc (C : jC X w cc own) {i : Nat} {n : Int} {x v : Int32} {lv' : List (Nat × Value)} (q : Nat) (d : decode cc pc = .ok (.iinc i n, 3)) (hq : lv[q]? = some (i, .int x)) (hv : x + Int32.ofInt n = v) (hn : i < (jXc X).maxLocals) (hl' : jst i (.int v) lv = lv') (k : J X w h (pc + 3) lv' r) : J X w h pc lv r := fun H locs ls hP hS hl => lv_iinc C.1 C.2.1 d hl hq hv hn hl' (fun ls' hl' => k H locs ls' hP hS hl')
theorem j_iadd (C : jC X w cc own) {x y : Int32} (d : decode cc pc = .ok (.iadd, 1)) (k : J X w h (pc + 1) lv (.int (x + y) :: r)) : J X w h pc lv (.int y :: .int x :: r) := fun H locs ls hP hS hl => lv_iadd C.1 C.2.1 d (k H locs ls hP hS hl)
theorem j_isub (C : jC X w cc own) {x y : Int32} (d : decode cc pc = .ok (.isub, 1)) (k : J X w h (pc + 1) lv (.int (x - y) :: r)) : J X w h pc lv (.int y :: .int x :: r) := fun H locs ls hP hS hl => lv_isub C.1 C.2.1 d (k H locs ls hP hS hl)
theorem j_imul (C : jC X w cc own) {x y : Int32} (d : decode cc pc = .ok (.imul, 1)) (k : J X w h (pc + 1) lv (.int (x * y) :: r)) : J X w h pc lv (.int y :: .int x :: r) := fun H locs ls hP hS hl => lv_imul C.1 C.2.1 d (k H locs ls hP hS hl)
theorem j_iand (C : jC X w cc own) {x y : Int32} (d : decode cc pc = .ok (.iand, 1)) (k : J X w h (pc + 1) lv (.int (x &&& y) :: r)) : J X w h pc lv (.int y :: .int x :: r) := fun H locs ls hP hS hl => lv_iand C.1 C.2.1 d (k H locs ls hP hS hl)
theorem j_ior (C : jC X w cc own) {x y : Int32} (d : decode cc pc = .ok (.ior, 1)) (k : J X w h (pc + 1) lv (.int (x ||| y) :: r)) : J X w h pc lv (.int y :: .int x :: r) := fun H locs ls hP hS hl => lv_ior C.1 C.2.1 d (k H locs ls hP hS hl)
theorem j_idiv (C : jC X w cc own) {x y : Int32} (d : decode cc pc = .ok (.idiv, 1)) (hne : ¬ y = 0) (k : J X w h (pc + 1) lv (.int (x / y) :: r)) : J X w h pc lv (.int y :: .int x :: r) := fun H locs ls hP hS hl => lv_idiv C.1 C.2.1 d hne (k H locs ls hP hS hl)
theorem j_irem (C : jC X w cc own) {x y : Int32} (d : decode cc pc = .ok (.irem, 1)) (hne : ¬ y = 0) (k : J X w h (pc + 1) lv (.int (x - x / y * y) :: r)) : J X w h pc lv (.int y :: .int x :: r) := fun H locs ls hP hS hl => lv_irem C.1 C.2.1 d hne (k H locs ls hP hS hl)
theorem j_ishl (C : jC X w cc own) {x y : Int32} (d : decode cc pc = .ok (.ishl, 1)) (k : J X w h (pc + 1) lv (.int (x <<< (y &&& 31)) :: r)) : J X w h pc lv (.int y :: .int x :: r) := fun H locs ls hP hS hl => lv_ishl C.1 C.2.1 d (k H locs ls hP hS hl)
theorem j_ishr (C : jC X w cc own) {x y : Int32} (d : decode cc pc = .ok (.ishr, 1)) (k : J X w h (pc + 1) lv (.int (x >>> (y &&& 31)) :: r)) : J X w h pc lv (.int y :: .int x :: r) := fun H locs ls hP hS hl => lv_ishr C.1 C.2.1 d (k H locs ls hP hS hl)
theorem j_iushr (C : jC X w cc own) {x y v : Int32} (d : decode cc pc = .ok (.iushr, 1)) (hv : (x.toUInt32 >>> (y.toUInt32 &&& Int32.toUInt32 31)).toInt32 = v) (k : J X w h (pc + 1) lv (.int v :: r)) : J X w h pc lv (.int y :: .int x :: r) := fun H locs ls hP hS hl => lv_iushr C.1 C.2.1 d hv (k H locs ls hP hS hl)
theorem j_i2c (C : jC X w cc own) {x v : Int32} (d : decode cc pc = .ok (.i2c, 1)) (hv : (x.toUInt32 % 65536).toInt32 = v) (k : J X w h (pc + 1) lv (.int v :: r)) : J X w h pc lv (.int x :: r) := fun H locs ls hP hS hl => lv_i2c C.1 C.2.1 d hv (k H locs ls hP hS hl)
theorem j_i2l (C : jC X w cc own) {x : Int32} {v : Int64} (d : decode cc pc = .ok (.i2l, 1)) (hv : x.toInt64 = v) (k : J X w h (pc + 1) lv (.long v :: r)) : J X w h pc lv (.int x :: r) := fun H locs ls hP hS hl => lv_i2l C.1 C.2.1 d hv (k H locs ls hP hS hl)
theorem j_dup (C : jC X w cc own) {v : Value} (d : decode cc pc = .ok (.dup, 1)) (hv : v.category = 1) (k : J X w h (pc + 1) lv (v :: v :: r)) : J X w h pc lv (v :: r) := fun H locs ls hP hS hl => lv_dup C.1 C.2.1 d hv (k H locs ls hP hS hl)
theorem j_pop (C : jC X w cc own) {v : Value} (d : decode cc pc = .ok (.pop, 1)) (hv : v.category = 1) (k : J X w h (pc + 1) lv r) : J X w h pc lv (v :: r) := fun H locs ls hP hS hl => lv_pop C.1 C.2.1 d hv (k H locs ls hP hS hl)
theorem j_dup_x1 (C : jC X w cc own) {v u : Value} (d : decode cc pc = .ok (.dup_x1, 1)) (hv : v.category = 1) (hu : u.category = 1) (k : J X w h (pc + 1) lv (v :: u :: v :: r)) : J X w h pc lv (v :: u :: r) := fun H locs ls hP hS hl => lv_dup_x1 C.1 C.2.1 d hv hu (k H locs ls hP hS hl)
theorem j_dup2 (C : jC X w cc own) {v u : Value} (d : decode cc pc = .ok (.dup2, 1)) (hv : v.category = 1) (hu : u.category = 1) (k : J X w h (pc + 1) lv (v :: u :: v :: u :: r)) : J X w h pc lv (v :: u :: r) := fun H locs ls hP hS hl => lv_dup2_11 C.1 C.2.1 d hv hu (k H locs ls hP hS hl)
theorem j_goto (C : jC X w cc own) {off : Int} (tgt : Nat) (d : decode cc pc = .ok (.goto off, 3)) (ht : (pc : Int) + off = (tgt : Int)) (k : J X w h tgt lv r) : J X w h pc lv r := fun H locs ls hP hS hl => lv_goto C.1 C.2.1 d ht (k H locs ls hP hS hl)
theorem j_if_eq (C : jC X w cc own) {x : Int32} {off : Int} (tgt : Nat) (d : decode cc pc = .ok (.ifCond .eq off, 3)) (ht : (pc : Int) + off = (tgt : Int)) (kt : x = 0 → J X w h tgt lv r) (kf : ¬ x = 0 → J X w h (pc + 3) lv r) : J X w h pc lv (.int x :: r) := fun H locs ls hP hS hl => lv_if_eq C.1 C.2.1 d ht (fun z => kt z H locs ls hP hS hl) (fun z => kf z H locs ls hP hS hl)
theorem j_icmp_eq (C : jC X w cc own) {x y : Int32} {off : Int} (tgt : Nat) (d : decode cc pc = .ok (.if_icmp .eq off, 3)) (ht : (pc : Int) + off = (tgt : Int)) (kt : x = y → J X w h tgt lv r) (kf : ¬ x = y → J X w h (pc + 3) lv r) : J X w h pc lv (.int y :: .int x :: r) := fun H locs ls hP hS hl => lv_icmp_eq C.1 C.2.1 d ht (fun z => kt z H locs ls hP hS hl) (fun z => kf z H locs ls hP hS hl)
theorem j_if_ne (C : jC X w cc own) {x : Int32} {off : Int} (tgt : Nat) (d : decode cc pc = .ok (.ifCond .ne off, 3)) (ht : (pc : Int) + off = (tgt : Int)) (kt : ¬ x = 0 → J X w h tgt lv r) (kf : x = 0 → J X w h (pc + 3) lv r) : J X w h pc lv (.int x :: r) := fun H locs ls hP hS hl => lv_if_ne C.1 C.2.1 d ht (fun z => kt z H locs ls hP hS hl) (fun z => kf z H locs ls hP hS hl)
theorem j_icmp_ne (C : jC X w cc own) {x y : Int32} {off : Int} (tgt : Nat) (d : decode cc pc = .ok (.if_icmp .ne off, 3)) (ht : (pc : Int) + off = (tgt : Int)) (kt : ¬ x = y → J X w h tgt lv r) (kf : x = y → J X w h (pc + 3) lv r) : J X w h pc lv (.int y :: .int x :: r) := fun H locs ls hP hS hl => lv_icmp_ne C.1 C.2.1 d ht (fun z => kt z H locs ls hP hS hl) (fun z => kf z H locs ls hP hS hl)
theorem j_if_lt (C : jC X w cc own) {x : Int32} {off : Int} (tgt : Nat) (d : decode cc pc = .ok (.ifCond .lt off, 3)) (ht : (pc : Int) + off = (tgt : Int)) (kt : x < 0 → J X w h tgt lv r) (kf : ¬ x < 0 → J X w h (pc + 3) lv r) : J X w h pc lv (.int x :: r) := fun H locs ls hP hS hl => lv_if_lt C.1 C.2.1 d ht (fun z => kt z H locs ls hP hS hl) (fun z => kf z H locs ls hP hS hl)
theorem j_icmp_lt (C : jC X w cc own) {x y : Int32} {off : Int} (tgt : Nat) (d : decode cc pc = .ok (.if_icmp .lt off, 3)) (ht : (pc : Int) + off = (tgt : Int)) (kt : x < y → J X w h tgt lv r) (kf : ¬ x < y → J X w h (pc + 3) lv r) : J X w h pc lv (.int y :: .int x :: r) := fun H locs ls hP hS hl => lv_icmp_lt C.1 C.2.1 d ht (fun z => kt z H locs ls hP hS hl) (fun z => kf z H locs ls hP hS hl)
theorem j_if_ge (C : jC X w cc own) {x : Int32} {off : Int} (tgt : Nat) (d : decode cc pc = .ok (.ifCond .ge off, 3)) (ht : (pc : Int) + off = (tgt : Int)) (kt : 0 ≤ x → J X w h tgt lv r) (kf : ¬ 0 ≤ x → J X w h (pc + 3) lv r) : J X w h pc lv (.int x :: r) := fun H locs ls hP hS hl => lv_if_ge C.1 C.2.1 d ht (fun z => kt z H locs ls hP hS hl) (fun z => kf z H locs ls hP hS hl)
theorem j_icmp_ge (C : jC X w cc own) {x y : Int32} {off : Int} (tgt : Nat) (d : decode cc pc = .ok (.if_icmp .ge off, 3)) (ht : (pc : Int) + off = (tgt : Int)) (kt : y ≤ x → J X w h tgt lv r) (kf : ¬ y ≤ x → J X w h (pc + 3) lv r) : J X w h pc lv (.int y :: .int x :: r) := fun H locs ls hP hS hl => lv_icmp_ge C.1 C.2.1 d ht (fun z => kt z H locs ls hP hS hl) (fun z => kf z H locs ls hP hS hl)
theorem j_if_gt (C : jC X w cc own) {x : Int32} {off : Int} (tgt : Nat) (d : decode cc pc = .ok (.ifCond .gt off, 3)) (ht : (pc : Int) + off = (tgt : Int)) (kt : 0 < x → J X w h tgt lv r) (kf : ¬ 0 < x → J X w h (pc + 3) lv r) : J X w h pc lv (.int x :: r) := fun H locs ls hP hS hl => lv_if_gt C.1 C.2.1 d ht (fun z => kt z H locs ls hP hS hl) (fun z => kf z H locs ls hP hS hl)
theorem j_icmp_gt (C : jC X w cc own) {x y : Int32} {off : Int} (tgt : Nat) (d : decode cc pc = .ok (.if_icmp .gt off, 3)) (ht : (pc : Int) + off = (tgt : Int)) (kt : y < x → J X w h tgt lv r) (kf : ¬ y < x → J X w h (pc + 3) lv r) : J X w h pc lv (.int y :: .int x :: r) := fun H locs ls hP hS hl => lv_icmp_gt C.1 C.2.1 d ht (fun z => kt z H locs ls hP hS hl) (fun z => kf z H locs ls hP hS hl)
theorem j_if_le (C : jC X w cc own) {x : Int32} {off : Int} (tgt : Nat) (d : decode cc pc = .ok (.ifCond .le off, 3)) (ht : (pc : Int) + off = (tgt : Int)) (kt : x ≤ 0 → J X w h tgt lv r) (kf : ¬ x ≤ 0 → J X w h (pc + 3) lv r) : J X w h pc lv (.int x :: r) := fun H locs ls hP hS hl => lv_if_le C.1 C.2.1 d ht (fun z => kt z H locs ls hP hS hl) (fun z => kf z H locs ls hP hS hl)
theorem j_icmp_le (C : jC X w cc own) {x y : Int32} {off : Int} (tgt : Nat) (d : decode cc pc = .ok (.if_icmp .le off, 3)) (ht : (pc : Int) + off = (tgt : Int)) (kt : x ≤ y → J X w h tgt lv r) (kf : ¬ x ≤ y → J X w h (pc + 3) lv r) : J X w h pc lv (.int y :: .int x :: r) := fun H locs ls hP hS hl => lv_icmp_le C.1 C.2.1 d ht (fun z => kt z H locs ls hP hS hl) (fun z => kf z H locs ls hP hS hl)
theorem j_ifnull (C : jC X w cc own) {x : Nat} {off : Int} (d : decode cc pc = .ok (.ifnull off, 3)) (k : J X w h (pc + 3) lv r) : J X w h pc lv (.ref x :: r) := fun H locs ls hP hS hl => lv_ifnull C.1 C.2.1 d (k H locs ls hP hS hl)
theorem j_ifnullN (C : jC X w cc own) {off : Int} (tgt : Nat) (d : decode cc pc = .ok (.ifnull off, 3)) (ht : (pc : Int) + off = (tgt : Int)) (k : J X w h tgt lv r) : J X w h pc lv (.null :: r) := fun H locs ls hP hS hl => lv_ifnullN C.1 C.2.1 d ht (k H locs ls hP hS hl)
theorem j_ifnonnull (C : jC X w cc own) {x : Nat} {off : Int} (tgt : Nat) (d : decode cc pc = .ok (.ifnonnull off, 3)) (ht : (pc : Int) + off = (tgt : Int)) (k : J X w h tgt lv r) : J X w h pc lv (.ref x :: r) := fun H locs ls hP hS hl => lv_ifnonnull C.1 C.2.1 d ht (k H locs ls hP hS hl)
theorem j_ifnonnullN (C : jC X w cc own) {off : Int} (d : decode cc pc = .ok (.ifnonnull off, 3)) (k : J X w h (pc + 3) lv r) : J X w h pc lv (.null :: r) := fun H locs ls hP hS hl => lv_ifnonnullN C.1 C.2.1 d (k H locs ls hP hS hl)
theorem j_lookup (C : jC X w cc own) {dflt : Int} {ps : Array (Int × Int)} {len : Nat} {x : Int32} {off : Int} (tgt : Nat) (d : decode cc pc = .ok (.lookupswitch dflt ps, len)) (hp : (ps.toList.zip (ps.toList.drop 1)).all (fun (a, next) => a.1 < next.1) = true) (ho : Op.lookupswitch.offset ps.toList dflt x.toInt = off) (ht : (pc : Int) + off = (tgt : Int)) (k : J X w h tgt lv r) : J X w h pc lv (.int x :: r) := fun H locs ls hP hS hl => lv_lookup C.1 C.2.1 d hp ho ht (k H locs ls hP hS hl)
theorem j_tableOut (C : jC X w cc own) {dflt lo hi : Int} {offs : Array Int} {len : Nat} {x : Int32} (tgt : Nat) (d : decode cc pc = .ok (.tableswitch dflt lo hi offs, len)) (hx : x.toInt < lo ∨ hi < x.toInt) (ht : (pc : Int) + dflt = (tgt : Int)) (k : J X w h tgt lv r) : J X w h pc lv (.int x :: r) := fun H locs ls hP hS hl => lv_tableOut C.1 C.2.1 d hx ht (k H locs ls hP hS hl)
theorem j_tableIn (C : jC X w cc own) {dflt lo hi : Int} {offs : Array Int} {len : Nat} {x : Int32} {off : Int} (tgt : Nat) (d : decode cc pc = .ok (.tableswitch dflt lo hi offs, len)) (h1 : ¬ x.toInt < lo) (h2 : ¬ hi < x.toInt) (ho : offs[(x.toInt - lo).toNat]? = some off) (ht : (pc : Int) + off = (tgt : Int)) (k : J X w h tgt lv r) : J X w h pc lv (.int x :: r) := fun H locs ls hP hS hl => lv_tableIn C.1 C.2.1 d h1 h2 ho ht (k H locs ls hP hS hl)
/-- Math.max, Math.min -/
theorem j_mmax (C : jC X w cc own) {index : Nat} {x y : Int32} (hw : Cond.methodLink own index Lib.Math.max.name ∈ wsL_law ∧ Cond.static Lib.Math.max.name ∈ wsL_law ∧ Cond.initialized "java/lang/Math" ∈ wsL_law ∧ Cond.code Lib.Math.max.name Lib.Math.max.code 2 (some .int) ∈ wsL_law) (hR : 1 ≤ (jXR X).frames ∧ (r.map fun v => v.category).sum + 13 ≤ (jXR X).locals) (d : decode cc pc = .ok (.invokestatic index, 3)) (k : J X w h (pc + 3) lv (.int (if x < y then y else x) :: r)) : J X w h pc lv (.int y :: .int x :: r) := fun H locs ls hP hS hl =>
  va_mmax C.1 C.2.1 hl.1.symm C.2.2.1 (C.2.2.2.1 _ hw.1) (C.2.2.2.1 _ hw.2.1) (C.2.2.2.1 _ hw.2.2.1) (C.2.2.2.1 _ hw.2.2.2) hR.1 hR.2 (Nat.zero_le _) (Nat.zero_le _) d (k H locs ls hP hS hl)
theorem j_mmin (C : jC X w cc own) {index : Nat} {x y : Int32} (hw : Cond.methodLink own index Lib.Math.min.name ∈ wsL_law ∧ Cond.static Lib.Math.min.name ∈ wsL_law ∧ Cond.initialized "java/lang/Math" ∈ wsL_law ∧ Cond.code Lib.Math.min.name Lib.Math.min.code 2 (some .int) ∈ wsL_law) (hR : 1 ≤ (jXR X).frames ∧ (r.map fun v => v.category).sum + 13 ≤ (jXR X).locals) (d : decode cc pc = .ok (.invokestatic index, 3)) (k : J X w h (pc + 3) lv (.int (if y < x then y else x) :: r)) : J X w h pc lv (.int y :: .int x :: r) := fun H locs ls hP hS hl =>
  va_mmin C.1 C.2.1 hl.1.symm C.2.2.1 (C.2.2.2.1 _ hw.1) (C.2.2.2.1 _ hw.2.1) (C.2.2.2.1 _ hw.2.2.1) (C.2.2.2.1 _ hw.2.2.2) hR.1 hR.2 (Nat.zero_le _) (Nat.zero_le _) d (k H locs ls hP hS hl)
/-- fields -/
theorem jcel_o {k ci : Nat} (hk : jk k = .inl ci) : jcel w h k = .inr (ci, jfs w h ci k) := by simp [jcel, hk]
theorem jcel_a {k t n : Nat} (hk : jk k = .inr (t, n)) : jcel w h k = .inl (w.2.1 t, n, jarr w h t k) := by simp [jcel, hk]
theorem j_get (C : jC X w cc own) {index ci j k : Nat} (F : jFl own index ci j) (hk : k < 99) (hc : jk k = .inl ci) (d : decode cc pc = .ok (.getfield index, 3)) (kk : J X w h (pc + 3) lv ((if jref (jty ci j) then va_rf ((h.2.1 k j).map (jad w)) else .int (h.1 k j)) :: r)) : J X w h pc lv (.ref (jad w k) :: r) := by
  intro H locs ls hP hS hl
  obtain ⟨⟨hcl, hin, hty, hnm⟩, hj, hlk⟩ := F
  have he : (jws w h)[k]? = some (jad w k, .inr (ci, jfs w h ci k)) := by rw [jws_at w h hk, jcel_o hc]
  rcases hlk with hlk | hlk
  · exact va_get C.1 C.2.1 C.2.2.2.1 hin C.2.2.1 C.2.2.2.2.1 hP k he hcl j hj (C.2.2.2.1 _ hlk) (fun _ h9 => h9) (jfs_at hj) d (kk H locs ls hP hS hl)
  · exact va_getN C.1 C.2.1 C.2.2.2.1 hin C.2.2.1 C.2.2.2.2.1 hP k he hcl j hj (va_Nw.use rfl (C.2.2.2.2.2.1.1 _ hlk)) (fun _ h9 => h9) (jfs_at hj) d (kk H locs ls hP hS hl)
theorem j_geti (C : jC X w cc own) {index ci j k : Nat} (F : jFl own index ci j) (hr : jref (jty ci j) = false) (hk : k < 99) (hc : jk k = .inl ci) (d : decode cc pc = .ok (.getfield index, 3)) (kk : J X w h (pc + 3) lv (.int (h.1 k j) :: r)) : J X w h pc lv (.ref (jad w k) :: r) := j_get C F hk hc d (by rw [hr]; exact kk)
theorem j_getr (C : jC X w cc own) {index ci j k q : Nat} (F : jFl own index ci j) (hr : jref (jty ci j) = true) (hk : k < 99) (hc : jk k = .inl ci) (hv : h.2.1 k j = some q) (d : decode cc pc = .ok (.getfield index, 3)) (kk : J X w h (pc + 3) lv (.ref (jad w q) :: r)) : J X w h pc lv (.ref (jad w k) :: r) := j_get C F hk hc d (by rw [hr, hv]; exact kk)
theorem j_put (C : jC X w cc own) {index ci j k : Nat} {v : Value} {h' : jH} (F : jFl own index ci j) (hfin : (jT ci j).2.2.2 = false) (hk : k < 99) (hc : jk k = .inl ci) (hn : narrow (jty ci j) v = v) (hf : fits (jty ci j) v = true) (he1 : (jfs w h ci k).set j v = jfs w h' ci k) (he2 : ∀ i, i ≠ k → jcel w h' i = jcel w h i) (d : decode cc pc = .ok (.putfield index, 3)) (kk : J X w h' (pc + 3) lv r) : J X w h pc lv (v :: .ref (jad w k) :: r) := by
  intro H locs ls hP hS hl
  obtain ⟨⟨hcl, hin, hty, hnm⟩, hj, hlk⟩ := F
  have he : (jws w h)[k]? = some (jad w k, .inr (ci, jfs w h ci k)) := by rw [jws_at w h hk, jcel_o hc]
  have hs : (jws w h).set k (jad w k, .inr (ci, (jfs w h ci k).set j v)) = jws w h' := jws_set w h h' k _ (by rw [jcel_o hc, he1]) he2
  have hlen : j < (jfs w h ci k).length := by rw [jfs_len]; exact hj
  have goal : ∀ (H1 : Heap) (locs1 : List Loc), va_P w.1 vwCl ((jws w h).set k (jad w k, .inr (ci, (jfs w h ci k).set j v))) H1 → va_D (jA w) ((jws w h).set k (jad w k, .inr (ci, (jfs w h ci k).set j v))) → va_S (jA w) (jXs X).heap H1 locs1 → W (jXp X) (jXl X) (jXe X) (jXR X) (jXs X) (jXm X) (jXa X) (jXb X) (jXh X) (jXc X) H1 locs1 0 0 (jXQ X) (F0 (jXm X) (pc + 3) ls r) := by
    intro H1 locs1 p1 _ s1
    rw [hs] at p1
    exact kk H1 locs1 ls p1 s1 hl
  rcases hlk with hlk | hlk
  · exact va_put C.1 C.2.1 C.2.2.2.1 hin (jty ci) hty hnm C.2.2.1 C.2.2.2.2.1 hP (jD C.2.2.2.2.2.2.1 h) hS k he hcl j hj (C.2.2.2.1 _ hlk) (fun _ h9 => h9) hfin (hty j hj) hn hf hlen d goal
  · exact va_putN C.1 C.2.1 C.2.2.2.1 hin (jty ci) hty hnm C.2.2.1 C.2.2.2.2.1 hP (jD C.2.2.2.2.2.2.1 h) hS k he hcl j hj (va_Nw.use rfl (C.2.2.2.2.2.1.1 _ hlk)) (fun _ h9 => h9) hfin (hty j hj) hn hf hlen d goal
theorem j_puti (C : jC X w cc own) {index ci j k : Nat} {x : Int32} (F : jFl own index ci j) (hr : jty ci j = .int) (hfin : (jT ci j).2.2.2 = false) (hk : k < 99) (hc : jk k = .inl ci) (d : decode cc pc = .ok (.putfield index, 3)) (kk : J X w (up2 h.1 k j x, h.2) (pc + 3) lv r) : J X w h pc lv (.int x :: .ref (jad w k) :: r) :=
  j_put C F hfin hk hc (by rw [hr]; rfl) (by rw [hr]; rfl) (jfs_i (by rw [hr]; rfl)) (fun i hi => jcel_i hi) d kk
theorem j_putz (C : jC X w cc own) {index ci j k : Nat} {x : Int32} (F : jFl own index ci j) (hr : jty ci j = .boolean) (hfin : (jT ci j).2.2.2 = false) (hx : x = 0 ∨ x = 1) (hk : k < 99) (hc : jk k = .inl ci) (d : decode cc pc = .ok (.putfield index, 3)) (kk : J X w (up2 h.1 k j x, h.2) (pc + 3) lv r) : J X w h pc lv (.int x :: .ref (jad w k) :: r) :=
  j_put C F hfin hk hc (by rw [hr]; rcases hx with rfl | rfl <;> rfl) (by rw [hr]; rcases hx with rfl | rfl <;> rfl) (jfs_i (by rw [hr]; rfl)) (fun i hi => jcel_i hi) d kk
theorem j_putr (C : jC X w cc own) {index ci j k q : Nat} (F : jFl own index ci j) (hr : jref (jty ci j) = true) (hfin : (jT ci j).2.2.2 = false) (hk : k < 99) (hc : jk k = .inl ci) (hf : ∀ a, narrow (jty ci j) (.ref a) = .ref a ∧ fits (jty ci j) (.ref a) = true) (d : decode cc pc = .ok (.putfield index, 3)) (kk : J X w (h.1, up2 h.2.1 k j (some q), h.2.2) (pc + 3) lv r) : J X w h pc lv (.ref (jad w q) :: .ref (jad w k) :: r) :=
  j_put C F hfin hk hc (hf _).1 (hf _).2 (jfs_r (x := some q) hr) (fun i hi => jcel_r hi) d kk
/-- arrays -/
theorem j_iald (C : jC X w cc own) {k n len : Nat} {i : Int32} (hk : k < 99) (hc : jk k = .inr (1, len)) (hi : i = nI n) (hn : n < len) (hl : len < 2 ^ 31) (d : decode cc pc = .ok (.iaload, 1)) (kk : J X w h (pc + 1) lv (.int (h.1 k n) :: r)) : J X w h pc lv (.int i :: .ref (jad w k) :: r) := by
  intro H locs ls hP hS hl'
  subst hi
  refine va_iald C.1 C.2.1 C.2.2.2.2.1 hP k 1 (by rw [jws_at w h hk, jcel_a hc]; rfl) (jtys_at w (t := 1) (by decide)) (vp_in_nI hn hl) d ?_
  rw [nI_clamp (by omega)]
  exact kk H locs ls hP hS hl'
theorem j_cald (C : jC X w cc own) {k n len : Nat} {i : Int32} (hk : k < 99) (hc : jk k = .inr (0, len)) (hi : i = nI n) (hn : n < len) (hl : len < 2 ^ 31) (d : decode cc pc = .ok (.caload, 1)) (kk : J X w h (pc + 1) lv (.int (h.1 k n) :: r)) : J X w h pc lv (.int i :: .ref (jad w k) :: r) := by
  intro H locs ls hP hS hl'
  subst hi
  refine va_cald C.1 C.2.1 C.2.2.2.2.1 hP k 0 (by rw [jws_at w h hk, jcel_a hc]; rfl) (jtys_at w (t := 0) (by decide)) (vp_in_nI hn hl) d ?_
  rw [nI_clamp (by omega)]
  exact kk H locs ls hP hS hl'
theorem j_zald (C : jC X w cc own) {k n len : Nat} {i : Int32} (hk : k < 99) (hc : jk k = .inr (2, len)) (hi : i = nI n) (hn : n < len) (hl : len < 2 ^ 31) (d : decode cc pc = .ok (.baload, 1)) (kk : J X w h (pc + 1) lv (.int (h.1 k n) :: r)) : J X w h pc lv (.int i :: .ref (jad w k) :: r) := by
  intro H locs ls hP hS hl'
  subst hi
  refine va_zald C.1 C.2.1 C.2.2.2.2.1 hP k 2 (by rw [jws_at w h hk, jcel_a hc]; rfl) (jtys_at w (t := 2) (by decide)) (vp_in_nI hn hl) d ?_
  rw [nI_clamp (by omega)]
  exact kk H locs ls hP hS hl'
theorem j_aald (C : jC X w cc own) {k n len t : Nat} {S : String} {i : Int32} {q : Nat} (ht : t < 6) (hS0 : jaT t = .object S) (hk : k < 99) (hc : jk k = .inr (t, len)) (hi : i = nI n) (hn : n < len) (hl : len < 2 ^ 31) (hv : h.2.1 k n = some q) (d : decode cc pc = .ok (.aaload, 1)) (kk : J X w h (pc + 1) lv (.ref (jad w q) :: r)) : J X w h pc lv (.int i :: .ref (jad w k) :: r) := by
  intro H locs ls hP hS hl'
  subst hi
  have ha : jarr w h t k = .inr (.inr (.inr (.inr fun j => (h.2.1 k j).map (jad w)))) := by simp [jarr, hS0]
  refine va_aldq (C := S) C.1 C.2.1 C.2.2.2.2.1 hP k t (by rw [jws_at w h hk, jcel_a hc, ha]) (by rw [jtys_at w ht, hS0]) (vp_in_nI hn hl) d ?_
  rw [nI_clamp (by omega), hv]
  exact kk H locs ls hP hS hl'
theorem jst_arr {k t n len : Nat} {E : (Nat → Int32) ⊕ (Nat → Int64) ⊕ (Nat → UInt32) ⊕ (Nat → UInt64) ⊕ (Nat → Option Nat)} {h' : jH} (hc : jk k = .inr (t, len)) (hE : jarr w h' t k = E) (ho : ∀ i, i ≠ k → jcel w h' i = jcel w h i) : (jws w h).set k (jad w k, .inl (w.2.1 t, len, E)) = jws w h' := jws_set w h h' k _ (by rw [jcel_a hc, hE]) ho
theorem upd_up (f : Nat → Int32) (n : Nat) (x : Int32) : upd f n x = va_up f n x := by funext j; simp [upd, va_up]
theorem j_iast (C : jC X w cc own) {k n len : Nat} {i x : Int32} (hk : k < 99) (hc : jk k = .inr (1, len)) (hi : i = nI n) (hn : n < len) (hl : len < 2 ^ 31) (d : decode cc pc = .ok (.iastore, 1)) (kk : J X w (up2 h.1 k n x, h.2) (pc + 1) lv r) : J X w h pc lv (.int x :: .int i :: .ref (jad w k) :: r) := by
  intro H locs ls hP hS hl'
  subst hi
  refine va_iast C.1 C.2.1 C.2.2.2.2.1 hP (jD C.2.2.2.2.2.2.1 h) hS k 1 (by rw [jws_at w h hk, jcel_a hc]; rfl) (jtys_at w (t := 1) (by decide)) (vp_in_nI hn hl) d ?_
  intro H1 locs1 p1 _ s1
  rw [nI_clamp (by omega), jst_arr (h' := (up2 h.1 k n x, h.2)) (n := n) hc (by rw [upd_up]; show Sum.inl (up2 h.1 k n x k) = _; rw [up2_r]) (fun i hi => jcel_i hi)] at p1
  exact kk H1 locs1 ls p1 s1 hl'
theorem j_cast (C : jC X w cc own) {k n len : Nat} {i x : Int32} (hk : k < 99) (hc : jk k = .inr (0, len)) (hi : i = nI n) (hn : n < len) (hl : len < 2 ^ 31) (hx : vp_nar .char x = x) (d : decode cc pc = .ok (.castore, 1)) (kk : J X w (up2 h.1 k n x, h.2) (pc + 1) lv r) : J X w h pc lv (.int x :: .int i :: .ref (jad w k) :: r) := by
  intro H locs ls hP hS hl'
  subst hi
  refine va_cast C.1 C.2.1 C.2.2.2.2.1 hP (jD C.2.2.2.2.2.2.1 h) hS k 0 (by rw [jws_at w h hk, jcel_a hc]; rfl) (jtys_at w (t := 0) (by decide)) (vp_in_nI hn hl) d ?_
  intro H1 locs1 p1 _ s1
  rw [hx, nI_clamp (by omega), jst_arr (h' := (up2 h.1 k n x, h.2)) (n := n) hc (by rw [upd_up]; show Sum.inl (up2 h.1 k n x k) = _; rw [up2_r]) (fun i hi => jcel_i hi)] at p1
  exact kk H1 locs1 ls p1 s1 hl'
theorem j_zast (C : jC X w cc own) {k n len : Nat} {i x : Int32} (hk : k < 99) (hc : jk k = .inr (2, len)) (hi : i = nI n) (hn : n < len) (hl : len < 2 ^ 31) (hx : x = 0 ∨ x = 1) (d : decode cc pc = .ok (.bastore, 1)) (kk : J X w (up2 h.1 k n x, h.2) (pc + 1) lv r) : J X w h pc lv (.int x :: .int i :: .ref (jad w k) :: r) := by
  intro H locs ls hP hS hl'
  subst hi
  have hx' : vp_nar .boolean x = x := by rcases hx with rfl | rfl <;> rfl
  refine va_zast C.1 C.2.1 C.2.2.2.2.1 hP (jD C.2.2.2.2.2.2.1 h) hS k 2 (by rw [jws_at w h hk, jcel_a hc]; rfl) (jtys_at w (t := 2) (by decide)) (vp_in_nI hn hl) d ?_
  intro H1 locs1 p1 _ s1
  rw [hx', nI_clamp (by omega), jst_arr (h' := (up2 h.1 k n x, h.2)) (n := n) hc (by rw [upd_up]; show Sum.inl (up2 h.1 k n x k) = _; rw [up2_r]) (fun i hi => jcel_i hi)] at p1
  exact kk H1 locs1 ls p1 s1 hl'
theorem j_aast (C : jC X w cc own) {k n len t q ci : Nat} {i : Int32} (ht : t < 6) (hci : vwCl[ci]? = some (jR ci, jT ci, jN ci)) (hS0 : jaT t = .object (jR ci)) (hk : k < 99) (hc : jk k = .inr (t, len)) (hq : q < 99) (hcq : jk q = .inl ci) (hi : i = nI n) (hn : n < len) (hl : len < 2 ^ 31) (d : decode cc pc = .ok (.aastore, 1)) (kk : J X w (h.1, up2 h.2.1 k n (some q), h.2.2) (pc + 1) lv r) : J X w h pc lv (.ref (jad w q) :: .int i :: .ref (jad w k) :: r) := by
  intro H locs ls hP hS hl'
  subst hi
  have ha : ∀ g : jH, jarr w g t k = .inr (.inr (.inr (.inr fun j => (g.2.1 k j).map (jad w)))) := fun g => by simp [jarr, hS0]
  refine va_astq C.1 C.2.1 C.2.2.2.2.1 hP (jD C.2.2.2.2.2.2.1 h) hS k t q ci (r := (jR ci, jT ci, jN ci)) (by rw [jws_at w h hk, jcel_a hc, ha]) (by rw [jtys_at w ht, hS0]) (by rw [jws_at w h hq, jcel_o hcq]) hci (vp_in_nI hn hl) d ?_
  intro H1 locs1 p1 _ s1
  rw [nI_clamp (by omega), jst_arr (h' := (h.1, up2 h.2.1 k n (some q), h.2.2)) (n := n) hc (by
    rw [ha]
    congr 4
    funext j
    show (up2 h.2.1 k n (some q) k j).map (jad w) = _
    rw [up2_r]
    by_cases e : j = n
    · simp [va_up, e]
    · simp [va_up, e]) (fun i hi => jcel_r hi)] at p1
  exact kk H1 locs1 ls p1 s1 hl'
end JR
