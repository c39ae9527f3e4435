/-! ===== frames: Go V d M pc ls st μ Q: method M at pc, with d frames of room, comes to its end with Q ===== -/
def StW (V : VV) (μ : Memo) (s : State) (H : Heap) (locs : List Loc) (A : Nat → Prop) : Prop := va_P (Dv V) clsW (cel V μ) H ∧ va_D A (cel V μ) ∧ va_S A s.heap H locs
def FixW (V : VV) (p : Program) (s : State) (m : MethodId) (args : Array Value) (c : Code) (A : Nat → Prop) (M : Mthd) : Prop :=
  p.tables.exec = Jvm.exec ∧ c.code = M.2.1 ∧ c.maxLocals = M.2.2.1 ∧ s.vm.findClass M.1.cls = some m.cls ∧ (∀ w ∈ T0, w.before args s = true) ∧ va_K (Dv V) clsW (tysW V) s ∧ (∀ q, s.heap.size ≤ q → A q) ∧ ROW V A s s.heap
def RetW (M : Mthd) (pc : Nat) (r : Option AVal) : Prop :=
  (∃ x ty, r = some (vI x) ∧ decode M.2.1 pc = .ok (.ireturn, 1) ∧ M.2.2.2 = some ty ∧ narrow ty (.int x) = .int x) ∨ (r = none ∧ decode M.2.1 pc = .ok (.return_, 1) ∧ M.2.2.2 = none) ∨
  (∃ i n, r = some (vR i) ∧ decode M.2.1 pc = .ok (.areturn, 1) ∧ M.2.2.2 = some (.object n))
def Go (V : VV) (d : Nat) (M : Mthd) (pc : Nat) (ls : List (Option AVal)) (st : List AVal) (μ : Memo) (Q : Option AVal → Memo → Prop) : Prop :=
  ∀ (p : Program) (e : Env) (R : Room) (s : State) (m : MethodId) (args : Array Value) (below : List Frame) (meth : Method) (c : Code) (H : Heap) (locs : List Loc) (cs sl : Nat) (Z : State → Prop) (lc : Array Slot) (A : Nat → Prop),
    FixW V p s m args c A M → (d ≤ R.frames ∧ 40 * d ≤ R.locals ∧ cs ≤ R.cells ∧ sl ≤ R.slots) → StW V μ s H locs A → lv_has lc M.2.2.1 (toL V ls) →
    (∀ (pc' : Nat) (H' : Heap) (locs' : List Loc) (lc' : Array Slot) (r : Option AVal) (μ' : Memo), Q r μ' → StW V μ' s H' locs' A → RetW M pc' r → W p V.1 e R s m args below meth c H' locs' cs sl Z (F0 m pc' lc' (r.toList.map (gv V.2.2)))) →
    W p V.1 e R s m args below meth c H locs cs sl Z (F0 m pc lc (st.map (gv V.2.2)))
theorem cat_le {V : VV} {st : List AVal} (h : st.length ≤ 4) : ((st.map (gv V.2.2)).map fun v => v.category).sum ≤ 8 := by
  have key : ∀ l : List AVal, ((l.map (gv V.2.2)).map fun v => v.category).sum ≤ 2 * l.length := by
    intro l
    induction l with
    | nil => simp
    | cons v l ih =>
      have h1 := lv_cat (gv V.2.2 v)
      simp only [List.map_cons, List.sum_cons, List.length_cons]
      omega
  have := key st
  omega
theorem w_native : Cond.native arraycopyName ∈ T0 := T0_at 778 (by decide +kernel) (by decide +kernel)
theorem w_acstatic : Cond.static arraycopyName ∈ T0 := by decide +kernel
theorem w_acinit : Cond.initialized "java/lang/System" ∈ T0 := by decide +kernel
section GO
variable {V : VV} {d : Nat} {M : Mthd} {pc : Nat} {ls : List (Option AVal)} {st : List AVal} {μ : Memo} {Q : Option AVal → Memo → Prop}
theorem Go.mono {Q' : Option AVal → Memo → Prop} (h : Go V d M pc ls st μ Q) (hq : ∀ r μ', Q r μ' → Q' r μ') : Go V d M pc ls st μ Q' :=
  fun p e R s m args below meth c H locs cs sl Z lc A hF hR hS hL hret => h p e R s m args below meth c H locs cs sl Z lc A hF hR hS hL (fun pc' H' locs' lc' r μ' hr => hret pc' H' locs' lc' r μ' (hq r μ' hr))
theorem Go.topi {x : Int32} (k : ∀ y : Int32, y = x → Go V d M pc ls (vI y :: st) μ Q) : Go V d M pc ls (vI x :: st) μ Q := k x rfl
theorem Go.ireturn {x : Int32} (ty : FieldType) (hd : decode M.2.1 pc = .ok (.ireturn, 1)) (hty : M.2.2.2 = some ty) (hn : narrow ty (.int x) = .int x) (hQ : Q (some (vI x)) μ) : Go V d M pc ls [vI x] μ Q :=
  fun p e R s m args below meth c H locs cs sl Z lc A hF hR hS hL hret => hret pc H locs lc (some (vI x)) μ hQ hS (Or.inl ⟨x, ty, rfl, hd, hty, hn⟩)
theorem Go.vreturn (hd : decode M.2.1 pc = .ok (.return_, 1)) (hty : M.2.2.2 = none) (hQ : Q none μ) : Go V d M pc ls [] μ Q :=
  fun p e R s m args below meth c H locs cs sl Z lc A hF hR hS hL hret => hret pc H locs lc none μ hQ hS (Or.inr (Or.inl ⟨rfl, hd, hty⟩))
theorem Go.areturn {i : Nat} {n : String} (hd : decode M.2.1 pc = .ok (.areturn, 1)) (hty : M.2.2.2 = some (.object n)) (hQ : Q (some (vR i)) μ) : Go V d M pc ls [vR i] μ Q :=
  fun p e R s m args below meth c H locs cs sl Z lc A hF hR hS hL hret => hret pc H locs lc (some (vR i)) μ hQ hS (Or.inr (Or.inr ⟨i, n, rfl, hd, hty⟩))
theorem Go.iconst {n : Int} {v : Int32} (hd : decode M.2.1 pc = .ok (.iconst n, 1)) (hv : Int32.ofInt n = v) (k : Go V d M (pc + 1) ls (vI v :: st) μ Q) : Go V d M pc ls (st) μ Q :=
  fun p e R s m args below meth c H locs cs sl Z lc A hF hR hS hL hret => lv_iconst hF.1 hF.2.1 hd hv (k p e R s m args below meth c H locs cs sl Z lc A hF hR hS hL hret)
theorem Go.bipush {n : Int} {v : Int32} (hd : decode M.2.1 pc = .ok (.bipush n, 2)) (hv : (Int8.ofInt n).toInt32 = v) (k : Go V d M (pc + 2) ls (vI v :: st) μ Q) : Go V d M pc ls (st) μ Q :=
  fun p e R s m args below meth c H locs cs sl Z lc A hF hR hS hL hret => lv_bipush hF.1 hF.2.1 hd hv (k p e R s m args below meth c H locs cs sl Z lc A hF hR hS hL hret)
theorem Go.sipush {n : Int} {v : Int32} (hd : decode M.2.1 pc = .ok (.sipush n, 3)) (hv : (Int16.ofInt n).toInt32 = v) (k : Go V d M (pc + 3) ls (vI v :: st) μ Q) : Go V d M pc ls (st) μ Q :=
  fun p e R s m args below meth c H locs cs sl Z lc A hF hR hS hL hret => lv_sipush hF.1 hF.2.1 hd hv (k p e R s m args below meth c H locs cs sl Z lc A hF hR hS hL hret)
theorem Go.lconst {n : Fin 2} {v : Int64} (hd : decode M.2.1 pc = .ok (.lconst n, 1)) (hv : Int64.ofNat (n : Nat) = v) (k : Go V d M (pc + 1) ls (vL v :: st) μ Q) : Go V d M pc ls (st) μ Q :=
  fun p e R s m args below meth c H locs cs sl Z lc A hF hR hS hL hret => lv_lconst hF.1 hF.2.1 hd hv (k p e R s m args below meth c H locs cs sl Z lc A hF hR hS hL hret)
theorem Go.ldc {index : Nat} {v : Int32} (hd : decode M.2.1 pc = .ok (.ldc index, 2)) (hw : Cond.constant M.1.cls index v ∈ T0) (k : Go V d M (pc + 2) ls (vI v :: st) μ Q) : Go V d M pc ls (st) μ Q :=
  fun p e R s m args below meth c H locs cs sl Z lc A hF hR hS hL hret => lv_ldc hF.1 hF.2.1 hF.2.2.2.1 (hF.2.2.2.2.1 _ hw) hd (k p e R s m args below meth c H locs cs sl Z lc A hF hR hS hL hret)
theorem Go.ldc_w {index : Nat} {v : Int32} (hd : decode M.2.1 pc = .ok (.ldc_w index, 3)) (hw : Cond.constant M.1.cls index v ∈ T0) (k : Go V d M (pc + 3) ls (vI v :: st) μ Q) : Go V d M pc ls (st) μ Q :=
  fun p e R s m args below meth c H locs cs sl Z lc A hF hR hS hL hret => lv_ldcw hF.1 hF.2.1 hF.2.2.2.1 (hF.2.2.2.2.1 _ hw) hd (k p e R s m args below meth c H locs cs sl Z lc A hF hR hS hL hret)
theorem Go.ldc2 {index : Nat} {v : Int64} (hd : decode M.2.1 pc = .ok (.ldc2_w index, 3)) (hw : Cond.constantLong M.1.cls index v ∈ T0) (k : Go V d M (pc + 3) ls (vL v :: st) μ Q) : Go V d M pc ls (st) μ Q :=
  fun p e R s m args below meth c H locs cs sl Z lc A hF hR hS hL hret => lv_ldc2 hF.1 hF.2.1 hF.2.2.2.1 (hF.2.2.2.2.1 _ hw) hd (k p e R s m args below meth c H locs cs sl Z lc A hF hR hS hL hret)
theorem Go.iload_n {k0 : Fin 4} {x : Int32} (hd : decode M.2.1 pc = .ok (.iload_n k0, 1)) (hl : ls[(k0 : Nat)]? = some (some (vI x))) (k : Go V d M (pc + 1) ls (vI x :: st) μ Q) : Go V d M pc ls (st) μ Q :=
  fun p e R s m args below meth c H locs cs sl Z lc A hF hR hS hL hret => lv_iload_n hF.1 hF.2.1 hd rfl (hL.2.2 _ (toL_mem.mpr ⟨_, hl, rfl⟩)) (k p e R s m args below meth c H locs cs sl Z lc A hF hR hS hL hret)
theorem Go.iload {i : Nat} {x : Int32} (hd : decode M.2.1 pc = .ok (.iload i, 2)) (hl : ls[i]? = some (some (vI x))) (k : Go V d M (pc + 2) ls (vI x :: st) μ Q) : Go V d M pc ls (st) μ Q :=
  fun p e R s m args below meth c H locs cs sl Z lc A hF hR hS hL hret => lv_iload hF.1 hF.2.1 hd (hL.2.2 _ (toL_mem.mpr ⟨_, hl, rfl⟩)) (k p e R s m args below meth c H locs cs sl Z lc A hF hR hS hL hret)
theorem Go.lload_n {k0 : Fin 4} {x : Int64} (hd : decode M.2.1 pc = .ok (.lload_n k0, 1)) (hl : ls[(k0 : Nat)]? = some (some (vL x))) (k : Go V d M (pc + 1) ls (vL x :: st) μ Q) : Go V d M pc ls (st) μ Q :=
  fun p e R s m args below meth c H locs cs sl Z lc A hF hR hS hL hret => lv_lload_n hF.1 hF.2.1 hd rfl (hL.2.2 _ (toL_mem.mpr ⟨_, hl, rfl⟩)) (k p e R s m args below meth c H locs cs sl Z lc A hF hR hS hL hret)
theorem Go.lload {i : Nat} {x : Int64} (hd : decode M.2.1 pc = .ok (.lload i, 2)) (hl : ls[i]? = some (some (vL x))) (k : Go V d M (pc + 2) ls (vL x :: st) μ Q) : Go V d M pc ls (st) μ Q :=
  fun p e R s m args below meth c H locs cs sl Z lc A hF hR hS hL hret => lv_lload hF.1 hF.2.1 hd (hL.2.2 _ (toL_mem.mpr ⟨_, hl, rfl⟩)) (k p e R s m args below meth c H locs cs sl Z lc A hF hR hS hL hret)
theorem Go.aload_n {k0 : Fin 4} {x : Nat} (hd : decode M.2.1 pc = .ok (.aload_n k0, 1)) (hl : ls[(k0 : Nat)]? = some (some (vR x))) (k : Go V d M (pc + 1) ls (vR x :: st) μ Q) : Go V d M pc ls (st) μ Q :=
  fun p e R s m args below meth c H locs cs sl Z lc A hF hR hS hL hret => lv_aload_n hF.1 hF.2.1 hd rfl (hL.2.2 _ (toL_mem.mpr ⟨_, hl, rfl⟩)) (k p e R s m args below meth c H locs cs sl Z lc A hF hR hS hL hret)
theorem Go.aload {i : Nat} {x : Nat} (hd : decode M.2.1 pc = .ok (.aload i, 2)) (hl : ls[i]? = some (some (vR x))) (k : Go V d M (pc + 2) ls (vR x :: st) μ Q) : Go V d M pc ls (st) μ Q :=
  fun p e R s m args below meth c H locs cs sl Z lc A hF hR hS hL hret => lv_aload hF.1 hF.2.1 hd (hL.2.2 _ (toL_mem.mpr ⟨_, hl, rfl⟩)) (k p e R s m args below meth c H locs cs sl Z lc A hF hR hS hL hret)
theorem Go.istore_n {k0 : Fin 4} {x : Int32} {ls' : List (Option AVal)} (hd : decode M.2.1 pc = .ok (.istore_n k0, 1)) (hn : (k0 : Nat) < M.2.2.1) (hl : lset ls (k0 : Nat) (vI x) = some ls') (k : Go V d M (pc + 1) ls' st μ Q) : Go V d M pc ls (vI x :: st) μ Q :=
  fun p e R s m args below meth c H locs cs sl Z lc A hF hR hS hL hret => lv_istore_n hF.1 hF.2.1 hd rfl hL hn rfl (fun lc2 h2 => k p e R s m args below meth c H locs cs sl Z lc2 A hF hR hS (lset_has hl h2) hret)
theorem Go.istore {i : Nat} {x : Int32} {ls' : List (Option AVal)} (hd : decode M.2.1 pc = .ok (.istore i, 2)) (hn : i < M.2.2.1) (hl : lset ls i (vI x) = some ls') (k : Go V d M (pc + 2) ls' st μ Q) : Go V d M pc ls (vI x :: st) μ Q :=
  fun p e R s m args below meth c H locs cs sl Z lc A hF hR hS hL hret => lv_istore hF.1 hF.2.1 hd hL hn rfl (fun lc2 h2 => k p e R s m args below meth c H locs cs sl Z lc2 A hF hR hS (lset_has hl h2) hret)
theorem Go.astore_n {k0 : Fin 4} {x : Nat} {ls' : List (Option AVal)} (hd : decode M.2.1 pc = .ok (.astore_n k0, 1)) (hn : (k0 : Nat) < M.2.2.1) (hl : lset ls (k0 : Nat) (vR x) = some ls') (k : Go V d M (pc + 1) ls' st μ Q) : Go V d M pc ls (vR x :: st) μ Q :=
  fun p e R s m args below meth c H locs cs sl Z lc A hF hR hS hL hret => lv_astore_n hF.1 hF.2.1 hd rfl hL hn rfl (fun lc2 h2 => k p e R s m args below meth c H locs cs sl Z lc2 A hF hR hS (lset_has hl h2) hret)
theorem Go.astore {i : Nat} {x : Nat} {ls' : List (Option AVal)} (hd : decode M.2.1 pc = .ok (.astore i, 2)) (hn : i < M.2.2.1) (hl : lset ls i (vR x) = some ls') (k : Go V d M (pc + 2) ls' st μ Q) : Go V d M pc ls (vR x :: st) μ Q :=
  fun p e R s m args below meth c H locs cs sl Z lc A hF hR hS hL hret => lv_astore hF.1 hF.2.1 hd hL hn rfl (fun lc2 h2 => k p e R s m args below meth c H locs cs sl Z lc2 A hF hR hS (lset_has hl h2) hret)
theorem Go.iinc {i : Nat} {n : Int} {x v : Int32} {ls' : List (Option AVal)} (hd : decode M.2.1 pc = .ok (.iinc i n, 3)) (hx : ls[i]? = some (some (vI x))) (hv : x + Int32.ofInt n = v) (hn : i < M.2.2.1) (hl : lset ls i (vI v) = some ls') (k : Go V d M (pc + 3) ls' st μ Q) : Go V d M pc ls st μ Q := by
  intro p e R s m args below meth c H locs cs sl Z lc A hF hR hS hL hret
  obtain ⟨kx, hkx⟩ := List.getElem?_of_mem (toL_mem.mpr ⟨_, hx, rfl⟩ : (i, gv V.2.2 (vI x)) ∈ toL V ls)
  exact lv_iinc hF.1 hF.2.1 hd hL hkx hv hn rfl (fun lc2 h2 => k p e R s m args below meth c H locs cs sl Z lc2 A hF hR hS (lset_has hl h2) hret)
theorem Go.iadd {x y : Int32} (hd : decode M.2.1 pc = .ok (.iadd, 1)) (k : Go V d M (pc + 1) ls (vI (x + y) :: st) μ Q) : Go V d M pc ls (vI y :: vI x :: st) μ Q :=
  fun p e R s m args below meth c H locs cs sl Z lc A hF hR hS hL hret => lv_iadd hF.1 hF.2.1 hd (k p e R s m args below meth c H locs cs sl Z lc A hF hR hS hL hret)
theorem Go.isub {x y : Int32} (hd : decode M.2.1 pc = .ok (.isub, 1)) (k : Go V d M (pc + 1) ls (vI (x - y) :: st) μ Q) : Go V d M pc ls (vI y :: vI x :: st) μ Q :=
  fun p e R s m args below meth c H locs cs sl Z lc A hF hR hS hL hret => lv_isub hF.1 hF.2.1 hd (k p e R s m args below meth c H locs cs sl Z lc A hF hR hS hL hret)
theorem Go.imul {x y : Int32} (hd : decode M.2.1 pc = .ok (.imul, 1)) (k : Go V d M (pc + 1) ls (vI (x * y) :: st) μ Q) : Go V d M pc ls (vI y :: vI x :: st) μ Q :=
  fun p e R s m args below meth c H locs cs sl Z lc A hF hR hS hL hret => lv_imul hF.1 hF.2.1 hd (k p e R s m args below meth c H locs cs sl Z lc A hF hR hS hL hret)
theorem Go.iand {x y : Int32} (hd : decode M.2.1 pc = .ok (.iand, 1)) (k : Go V d M (pc + 1) ls (vI (x &&& y) :: st) μ Q) : Go V d M pc ls (vI y :: vI x :: st) μ Q :=
  fun p e R s m args below meth c H locs cs sl Z lc A hF hR hS hL hret => lv_iand hF.1 hF.2.1 hd (k p e R s m args below meth c H locs cs sl Z lc A hF hR hS hL hret)
theorem Go.ior {x y : Int32} (hd : decode M.2.1 pc = .ok (.ior, 1)) (k : Go V d M (pc + 1) ls (vI (x ||| y) :: st) μ Q) : Go V d M pc ls (vI y :: vI x :: st) μ Q :=
  fun p e R s m args below meth c H locs cs sl Z lc A hF hR hS hL hret => lv_ior hF.1 hF.2.1 hd (k p e R s m args below meth c H locs cs sl Z lc A hF hR hS hL hret)
theorem Go.ixor {x y : Int32} (hd : decode M.2.1 pc = .ok (.ixor, 1)) (k : Go V d M (pc + 1) ls (vI (x ^^^ y) :: st) μ Q) : Go V d M pc ls (vI y :: vI x :: st) μ Q :=
  fun p e R s m args below meth c H locs cs sl Z lc A hF hR hS hL hret => lv_ixor hF.1 hF.2.1 hd (k p e R s m args below meth c H locs cs sl Z lc A hF hR hS hL hret)
theorem Go.ishl {x y : Int32} (hd : decode M.2.1 pc = .ok (.ishl, 1)) (k : Go V d M (pc + 1) ls (vI (x <<< (y &&& 31)) :: st) μ Q) : Go V d M pc ls (vI y :: vI x :: st) μ Q :=
  fun p e R s m args below meth c H locs cs sl Z lc A hF hR hS hL hret => lv_ishl hF.1 hF.2.1 hd (k p e R s m args below meth c H locs cs sl Z lc A hF hR hS hL hret)
theorem Go.ishr {x y : Int32} (hd : decode M.2.1 pc = .ok (.ishr, 1)) (k : Go V d M (pc + 1) ls (vI (x >>> (y &&& 31)) :: st) μ Q) : Go V d M pc ls (vI y :: vI x :: st) μ Q :=
  fun p e R s m args below meth c H locs cs sl Z lc A hF hR hS hL hret => lv_ishr hF.1 hF.2.1 hd (k p e R s m args below meth c H locs cs sl Z lc A hF hR hS hL hret)
theorem Go.idiv {x y : Int32} (hd : decode M.2.1 pc = .ok (.idiv, 1)) (hne : ¬ y = 0) (k : Go V d M (pc + 1) ls (vI (x / y) :: st) μ Q) : Go V d M pc ls (vI y :: vI x :: st) μ Q :=
  fun p e R s m args below meth c H locs cs sl Z lc A hF hR hS hL hret => lv_idiv hF.1 hF.2.1 hd hne (k p e R s m args below meth c H locs cs sl Z lc A hF hR hS hL hret)
theorem Go.irem {x y : Int32} (hd : decode M.2.1 pc = .ok (.irem, 1)) (hne : ¬ y = 0) (k : Go V d M (pc + 1) ls (vI (x - x / y * y) :: st) μ Q) : Go V d M pc ls (vI y :: vI x :: st) μ Q :=
  fun p e R s m args below meth c H locs cs sl Z lc A hF hR hS hL hret => lv_irem hF.1 hF.2.1 hd hne (k p e R s m args below meth c H locs cs sl Z lc A hF hR hS hL hret)
theorem Go.iushr {x y : Int32} (hd : decode M.2.1 pc = .ok (.iushr, 1)) (k : Go V d M (pc + 1) ls (vI ((x.toUInt32 >>> (y.toUInt32 &&& Int32.toUInt32 31)).toInt32) :: st) μ Q) : Go V d M pc ls (vI y :: vI x :: st) μ Q :=
  fun p e R s m args below meth c H locs cs sl Z lc A hF hR hS hL hret => lv_iushr hF.1 hF.2.1 hd rfl (k p e R s m args below meth c H locs cs sl Z lc A hF hR hS hL hret)
theorem Go.ineg {x : Int32} (hd : decode M.2.1 pc = .ok (.ineg, 1)) (k : Go V d M (pc + 1) ls (vI (-x) :: st) μ Q) : Go V d M pc ls (vI x :: st) μ Q :=
  fun p e R s m args below meth c H locs cs sl Z lc A hF hR hS hL hret => lv_ineg hF.1 hF.2.1 hd (k p e R s m args below meth c H locs cs sl Z lc A hF hR hS hL hret)
theorem Go.i2l {x : Int32} (hd : decode M.2.1 pc = .ok (.i2l, 1)) (k : Go V d M (pc + 1) ls (vL x.toInt64 :: st) μ Q) : Go V d M pc ls (vI x :: st) μ Q :=
  fun p e R s m args below meth c H locs cs sl Z lc A hF hR hS hL hret => lv_i2l hF.1 hF.2.1 hd rfl (k p e R s m args below meth c H locs cs sl Z lc A hF hR hS hL hret)
theorem Go.i2s {x : Int32} (hd : decode M.2.1 pc = .ok (.i2s, 1)) (k : Go V d M (pc + 1) ls (vI x.toInt16.toInt32 :: st) μ Q) : Go V d M pc ls (vI x :: st) μ Q :=
  fun p e R s m args below meth c H locs cs sl Z lc A hF hR hS hL hret => lv_i2s hF.1 hF.2.1 hd rfl (k p e R s m args below meth c H locs cs sl Z lc A hF hR hS hL hret)
theorem Go.i2b {x : Int32} (hd : decode M.2.1 pc = .ok (.i2b, 1)) (k : Go V d M (pc + 1) ls (vI x.toInt8.toInt32 :: st) μ Q) : Go V d M pc ls (vI x :: st) μ Q :=
  fun p e R s m args below meth c H locs cs sl Z lc A hF hR hS hL hret => lv_i2b hF.1 hF.2.1 hd rfl (k p e R s m args below meth c H locs cs sl Z lc A hF hR hS hL hret)
theorem Go.i2c {x : Int32} (hd : decode M.2.1 pc = .ok (.i2c, 1)) (k : Go V d M (pc + 1) ls (vI (x.toUInt32 % 65536).toInt32 :: st) μ Q) : Go V d M pc ls (vI x :: st) μ Q :=
  fun p e R s m args below meth c H locs cs sl Z lc A hF hR hS hL hret => lv_i2c hF.1 hF.2.1 hd rfl (k p e R s m args below meth c H locs cs sl Z lc A hF hR hS hL hret)
theorem Go.ladd {x y : Int64} (hd : decode M.2.1 pc = .ok (.ladd, 1)) (k : Go V d M (pc + 1) ls (vL (x + y) :: st) μ Q) : Go V d M pc ls (vL y :: vL x :: st) μ Q :=
  fun p e R s m args below meth c H locs cs sl Z lc A hF hR hS hL hret => lv_ladd hF.1 hF.2.1 hd (k p e R s m args below meth c H locs cs sl Z lc A hF hR hS hL hret)
theorem Go.lcmp {x y : Int64} (hd : decode M.2.1 pc = .ok (.lcmp, 1)) (k : Go V d M (pc + 1) ls (vI (lg_cmp x y) :: st) μ Q) : Go V d M pc ls (vL y :: vL x :: st) μ Q :=
  fun p e R s m args below meth c H locs cs sl Z lc A hF hR hS hL hret => W.lcmp hF.1 hF.2.1 hd (k p e R s m args below meth c H locs cs sl Z lc A hF hR hS hL hret)
theorem Go.dup {x : Int32} (hd : decode M.2.1 pc = .ok (.dup, 1)) (k : Go V d M (pc + 1) ls (vI x :: vI x :: st) μ Q) : Go V d M pc ls (vI x :: st) μ Q :=
  fun p e R s m args below meth c H locs cs sl Z lc A hF hR hS hL hret => lv_dup hF.1 hF.2.1 hd rfl (k p e R s m args below meth c H locs cs sl Z lc A hF hR hS hL hret)
theorem Go.dupR {x : Nat} (hd : decode M.2.1 pc = .ok (.dup, 1)) (k : Go V d M (pc + 1) ls (vR x :: vR x :: st) μ Q) : Go V d M pc ls (vR x :: st) μ Q :=
  fun p e R s m args below meth c H locs cs sl Z lc A hF hR hS hL hret => lv_dup hF.1 hF.2.1 hd rfl (k p e R s m args below meth c H locs cs sl Z lc A hF hR hS hL hret)
theorem Go.pop {x : Int32} (hd : decode M.2.1 pc = .ok (.pop, 1)) (k : Go V d M (pc + 1) ls (st) μ Q) : Go V d M pc ls (vI x :: st) μ Q :=
  fun p e R s m args below meth c H locs cs sl Z lc A hF hR hS hL hret => lv_pop hF.1 hF.2.1 hd rfl (k p e R s m args below meth c H locs cs sl Z lc A hF hR hS hL hret)
theorem Go.dup2 {x : Int32} {y : Nat} (hd : decode M.2.1 pc = .ok (.dup2, 1)) (k : Go V d M (pc + 1) ls (vI x :: vR y :: vI x :: vR y :: st) μ Q) : Go V d M pc ls (vI x :: vR y :: st) μ Q :=
  fun p e R s m args below meth c H locs cs sl Z lc A hF hR hS hL hret => lv_dup2_11 hF.1 hF.2.1 hd rfl rfl (k p e R s m args below meth c H locs cs sl Z lc A hF hR hS hL hret)
theorem Go.if_eq {x : Int32} {off : Int} {tgt : Nat} (hd : decode M.2.1 pc = .ok (.ifCond .eq off, 3)) (ht : (pc : Int) + off = (tgt : Int)) (kt : x = 0 → Go V d M tgt ls st μ Q) (kf : ¬ x = 0 → Go V d M (pc + 3) ls st μ Q) : Go V d M pc ls (vI x :: st) μ Q :=
  fun p e R s m args below meth c H locs cs sl Z lc A hF hR hS hL hret => lv_if_eq hF.1 hF.2.1 hd ht (fun hc => kt hc p e R s m args below meth c H locs cs sl Z lc A hF hR hS hL hret) (fun hc => kf hc p e R s m args below meth c H locs cs sl Z lc A hF hR hS hL hret)
theorem Go.icmp_eq {x y : Int32} {off : Int} {tgt : Nat} (hd : decode M.2.1 pc = .ok (.if_icmp .eq off, 3)) (ht : (pc : Int) + off = (tgt : Int)) (kt : x = y → Go V d M tgt ls st μ Q) (kf : ¬ x = y → Go V d M (pc + 3) ls st μ Q) : Go V d M pc ls (vI y :: vI x :: st) μ Q :=
  fun p e R s m args below meth c H locs cs sl Z lc A hF hR hS hL hret => lv_icmp_eq hF.1 hF.2.1 hd ht (fun hc => kt hc p e R s m args below meth c H locs cs sl Z lc A hF hR hS hL hret) (fun hc => kf hc p e R s m args below meth c H locs cs sl Z lc A hF hR hS hL hret)
theorem Go.if_ne {x : Int32} {off : Int} {tgt : Nat} (hd : decode M.2.1 pc = .ok (.ifCond .ne off, 3)) (ht : (pc : Int) + off = (tgt : Int)) (kt : ¬ x = 0 → Go V d M tgt ls st μ Q) (kf : x = 0 → Go V d M (pc + 3) ls st μ Q) : Go V d M pc ls (vI x :: st) μ Q :=
  fun p e R s m args below meth c H locs cs sl Z lc A hF hR hS hL hret => lv_if_ne hF.1 hF.2.1 hd ht (fun hc => kt hc p e R s m args below meth c H locs cs sl Z lc A hF hR hS hL hret) (fun hc => kf hc p e R s m args below meth c H locs cs sl Z lc A hF hR hS hL hret)
theorem Go.icmp_ne {x y : Int32} {off : Int} {tgt : Nat} (hd : decode M.2.1 pc = .ok (.if_icmp .ne off, 3)) (ht : (pc : Int) + off = (tgt : Int)) (kt : ¬ x = y → Go V d M tgt ls st μ Q) (kf : x = y → Go V d M (pc + 3) ls st μ Q) : Go V d M pc ls (vI y :: vI x :: st) μ Q :=
  fun p e R s m args below meth c H locs cs sl Z lc A hF hR hS hL hret => lv_icmp_ne hF.1 hF.2.1 hd ht (fun hc => kt hc p e R s m args below meth c H locs cs sl Z lc A hF hR hS hL hret) (fun hc => kf hc p e R s m args below meth c H locs cs sl Z lc A hF hR hS hL hret)
theorem Go.if_lt {x : Int32} {off : Int} {tgt : Nat} (hd : decode M.2.1 pc = .ok (.ifCond .lt off, 3)) (ht : (pc : Int) + off = (tgt : Int)) (kt : x < 0 → Go V d M tgt ls st μ Q) (kf : ¬ x < 0 → Go V d M (pc + 3) ls st μ Q) : Go V d M pc ls (vI x :: st) μ Q :=
  fun p e R s m args below meth c H locs cs sl Z lc A hF hR hS hL hret => lv_if_lt hF.1 hF.2.1 hd ht (fun hc => kt hc p e R s m args below meth c H locs cs sl Z lc A hF hR hS hL hret) (fun hc => kf hc p e R s m args below meth c H locs cs sl Z lc A hF hR hS hL hret)
theorem Go.icmp_lt {x y : Int32} {off : Int} {tgt : Nat} (hd : decode M.2.1 pc = .ok (.if_icmp .lt off, 3)) (ht : (pc : Int) + off = (tgt : Int)) (kt : x < y → Go V d M tgt ls st μ Q) (kf : ¬ x < y → Go V d M (pc + 3) ls st μ Q) : Go V d M pc ls (vI y :: vI x :: st) μ Q :=
  fun p e R s m args below meth c H locs cs sl Z lc A hF hR hS hL hret => lv_icmp_lt hF.1 hF.2.1 hd ht (fun hc => kt hc p e R s m args below meth c H locs cs sl Z lc A hF hR hS hL hret) (fun hc => kf hc p e R s m args below meth c H locs cs sl Z lc A hF hR hS hL hret)
theorem Go.if_ge {x : Int32} {off : Int} {tgt : Nat} (hd : decode M.2.1 pc = .ok (.ifCond .ge off, 3)) (ht : (pc : Int) + off = (tgt : Int)) (kt : 0 ≤ x → Go V d M tgt ls st μ Q) (kf : ¬ 0 ≤ x → Go V d M (pc + 3) ls st μ Q) : Go V d M pc ls (vI x :: st) μ Q :=
  fun p e R s m args below meth c H locs cs sl Z lc A hF hR hS hL hret => lv_if_ge hF.1 hF.2.1 hd ht (fun hc => kt hc p e R s m args below meth c H locs cs sl Z lc A hF hR hS hL hret) (fun hc => kf hc p e R s m args below meth c H locs cs sl Z lc A hF hR hS hL hret)
theorem Go.icmp_ge {x y : Int32} {off : Int} {tgt : Nat} (hd : decode M.2.1 pc = .ok (.if_icmp .ge off, 3)) (ht : (pc : Int) + off = (tgt : Int)) (kt : y ≤ x → Go V d M tgt ls st μ Q) (kf : ¬ y ≤ x → Go V d M (pc + 3) ls st μ Q) : Go V d M pc ls (vI y :: vI x :: st) μ Q :=
  fun p e R s m args below meth c H locs cs sl Z lc A hF hR hS hL hret => lv_icmp_ge hF.1 hF.2.1 hd ht (fun hc => kt hc p e R s m args below meth c H locs cs sl Z lc A hF hR hS hL hret) (fun hc => kf hc p e R s m args below meth c H locs cs sl Z lc A hF hR hS hL hret)
theorem Go.if_gt {x : Int32} {off : Int} {tgt : Nat} (hd : decode M.2.1 pc = .ok (.ifCond .gt off, 3)) (ht : (pc : Int) + off = (tgt : Int)) (kt : 0 < x → Go V d M tgt ls st μ Q) (kf : ¬ 0 < x → Go V d M (pc + 3) ls st μ Q) : Go V d M pc ls (vI x :: st) μ Q :=
  fun p e R s m args below meth c H locs cs sl Z lc A hF hR hS hL hret => lv_if_gt hF.1 hF.2.1 hd ht (fun hc => kt hc p e R s m args below meth c H locs cs sl Z lc A hF hR hS hL hret) (fun hc => kf hc p e R s m args below meth c H locs cs sl Z lc A hF hR hS hL hret)
theorem Go.icmp_gt {x y : Int32} {off : Int} {tgt : Nat} (hd : decode M.2.1 pc = .ok (.if_icmp .gt off, 3)) (ht : (pc : Int) + off = (tgt : Int)) (kt : y < x → Go V d M tgt ls st μ Q) (kf : ¬ y < x → Go V d M (pc + 3) ls st μ Q) : Go V d M pc ls (vI y :: vI x :: st) μ Q :=
  fun p e R s m args below meth c H locs cs sl Z lc A hF hR hS hL hret => lv_icmp_gt hF.1 hF.2.1 hd ht (fun hc => kt hc p e R s m args below meth c H locs cs sl Z lc A hF hR hS hL hret) (fun hc => kf hc p e R s m args below meth c H locs cs sl Z lc A hF hR hS hL hret)
theorem Go.if_le {x : Int32} {off : Int} {tgt : Nat} (hd : decode M.2.1 pc = .ok (.ifCond .le off, 3)) (ht : (pc : Int) + off = (tgt : Int)) (kt : x ≤ 0 → Go V d M tgt ls st μ Q) (kf : ¬ x ≤ 0 → Go V d M (pc + 3) ls st μ Q) : Go V d M pc ls (vI x :: st) μ Q :=
  fun p e R s m args below meth c H locs cs sl Z lc A hF hR hS hL hret => lv_if_le hF.1 hF.2.1 hd ht (fun hc => kt hc p e R s m args below meth c H locs cs sl Z lc A hF hR hS hL hret) (fun hc => kf hc p e R s m args below meth c H locs cs sl Z lc A hF hR hS hL hret)
theorem Go.icmp_le {x y : Int32} {off : Int} {tgt : Nat} (hd : decode M.2.1 pc = .ok (.if_icmp .le off, 3)) (ht : (pc : Int) + off = (tgt : Int)) (kt : x ≤ y → Go V d M tgt ls st μ Q) (kf : ¬ x ≤ y → Go V d M (pc + 3) ls st μ Q) : Go V d M pc ls (vI y :: vI x :: st) μ Q :=
  fun p e R s m args below meth c H locs cs sl Z lc A hF hR hS hL hret => lv_icmp_le hF.1 hF.2.1 hd ht (fun hc => kt hc p e R s m args below meth c H locs cs sl Z lc A hF hR hS hL hret) (fun hc => kf hc p e R s m args below meth c H locs cs sl Z lc A hF hR hS hL hret)
theorem Go.goto {off : Int} {tgt : Nat} (hd : decode M.2.1 pc = .ok (.goto off, 3)) (ht : (pc : Int) + off = (tgt : Int)) (k : Go V d M tgt ls st μ Q) : Go V d M pc ls st μ Q :=
  fun p e R s m args below meth c H locs cs sl Z lc A hF hR hS hL hret => lv_goto hF.1 hF.2.1 hd ht (k p e R s m args below meth c H locs cs sl Z lc A hF hR hS hL hret)
theorem Go.tswD {dflt lo hi : Int} {offs : Array Int} {len : Nat} {x : Int32} {tgt : Nat} (hd : decode M.2.1 pc = .ok (.tableswitch dflt lo hi offs, len)) (h : x.toInt < lo ∨ hi < x.toInt) (ht : (pc : Int) + dflt = (tgt : Int)) (k : Go V d M tgt ls st μ Q) : Go V d M pc ls (vI x :: st) μ Q :=
  fun p e R s m args below meth c H locs cs sl Z lc A hF hR hS hL hret => lv_tableOut hF.1 hF.2.1 hd h ht (k p e R s m args below meth c H locs cs sl Z lc A hF hR hS hL hret)
theorem Go.tsw {dflt lo hi : Int} {offs : Array Int} {len : Nat} {x : Int32} {off : Int} {tgt : Nat} (v : Int32) (hx : x = v) (hd : decode M.2.1 pc = .ok (.tableswitch dflt lo hi offs, len)) (h1 : ¬ v.toInt < lo) (h2 : ¬ hi < v.toInt) (ho : offs[(v.toInt - lo).toNat]? = some off) (ht : (pc : Int) + off = (tgt : Int)) (k : Go V d M tgt ls st μ Q) : Go V d M pc ls (vI x :: st) μ Q := by
  subst hx
  exact fun p e R s m args below meth c H locs cs sl Z lc A hF hR hS hL hret => lv_tableIn hF.1 hF.2.1 hd h1 h2 ho ht (k p e R s m args below meth c H locs cs sl Z lc A hF hR hS hL hret)
theorem Go.lsw {dflt : Int} {ps : Array (Int × Int)} {len : Nat} {x : Int32} {off : Int} {tgt : Nat} (hd : decode M.2.1 pc = .ok (.lookupswitch dflt ps, len)) (hp : (ps.toList.zip (ps.toList.drop 1)).all (fun (a, next) => a.1 < next.1) = true) (ho : Op.lookupswitch.offset ps.toList dflt x.toInt = off) (ht : (pc : Int) + off = (tgt : Int)) (k : Go V d M tgt ls st μ Q) : Go V d M pc ls (vI x :: st) μ Q :=
  fun p e R s m args below meth c H locs cs sl Z lc A hF hR hS hL hret => lv_lookup hF.1 hF.2.1 hd hp ho ht (k p e R s m args below meth c H locs cs sl Z lc A hF hR hS hL hret)
-- fields
def fld (o k : Nat) : Option (Nat × Option Nat) := match lay[o]? with
  | some (0, c, fs) => (fs[k]?).map (fun q => (c, q))
  | _ => none
theorem fld_of {o k ci : Nat} {q : Option Nat} (h : fld o k = some (ci, q)) : ∃ fs, lay[o]? = some (0, ci, fs) ∧ fs[k]? = some q := by
  unfold fld at h
  split at h
  · rename_i c fs hl
    cases hk : fs[k]? with
    | none => rw [hk] at h; cases h
    | some z => rw [hk] at h; cases h; exact ⟨fs, hl, hk⟩
  · cases h
def FL (own : String) (idx ci k : Nat) : Prop := ci < 8 ∧ k < (cT ci).2.2 ∧ Cond.fieldLink own idx ((cT ci).2.1 k).1 ((cT ci).2.1 k).2.1 ((cT ci).2.1 k).2.2.1 ∈ T0
def ClsOK (ci : Nat) : Prop := clsW[ci]? = some (cT ci) ∧ (∀ w ∈ u_ws (cT ci).1 (cT ci).2.1 (cT ci).2.2, w ∈ T0) ∧ (∀ k, k < (cT ci).2.2 → parseFieldDescriptor ((cT ci).2.1 k).2.2.1 = some (cTy ci k)) ∧ (∀ a, a < (cT ci).2.2 → ∀ b, b < (cT ci).2.2 → a ≠ b → ((cT ci).2.1 a).2.1 ≠ ((cT ci).2.1 b).2.1)
theorem cls_ok : ∀ ci, ci < 8 → ClsOK ci
  | 0, _ => ⟨rfl, by decide +kernel, tyX1_ok, nmX1⟩
  | 1, _ => ⟨rfl, by decide +kernel, tyX3_ok, nmX3⟩
  | 2, _ => ⟨rfl, by decide +kernel, tyX4_ok, nmX4⟩
  | 3, _ => ⟨rfl, by decide +kernel, tyX5_ok, nmX5⟩
  | 4, _ => ⟨rfl, by decide +kernel, tyX6_ok, nmX6⟩
  | 5, _ => ⟨rfl, by decide +kernel, tyX7_ok, nmX7⟩
  | 6, _ => ⟨rfl, by decide +kernel, tyX8_ok, nmX8⟩
  | 7, _ => ⟨rfl, by decide +kernel, tyX9_ok, nmX9⟩
  | n + 8, h => absurd h (by omega)
theorem Go.getI {idx o ci k : Nat} (hd : decode M.2.1 pc = .ok (.getfield idx, 3)) (hf : FL M.1.cls idx ci k) (hl : fld o k = some (ci, none)) (kk : Go V d M (pc + 3) ls (vI (μ o k) :: st) μ Q) : Go V d M pc ls (vR o :: st) μ Q := by
  intro p e R s m args below meth c H locs cs sl Z lc A hF hR hS hL hret
  obtain ⟨fs, h1, h2⟩ := fld_of hl
  obtain ⟨c1, c2, c3, c4⟩ := cls_ok ci hf.1
  refine va_get (D := Dv V) (v := .int (μ o k)) hF.1 hF.2.1 hF.2.2.2.2.1 c2 hF.2.2.2.1 hF.2.2.2.2.2.1 hS.1 o (cel_get V μ h1) c1 k hf.2.1 (hF.2.2.2.2.1 _ hf.2.2) (fun _ h9 => h9) ?_ hd (kk p e R s m args below meth c H locs cs sl Z lc A hF hR hS hL hret)
  rw [List.getElem?_mapIdx, h2]
  rfl
theorem Go.getR {idx o ci k r : Nat} (hd : decode M.2.1 pc = .ok (.getfield idx, 3)) (hf : FL M.1.cls idx ci k) (hl : fld o k = some (ci, some r)) (kk : Go V d M (pc + 3) ls (vR r :: st) μ Q) : Go V d M pc ls (vR o :: st) μ Q := by
  intro p e R s m args below meth c H locs cs sl Z lc A hF hR hS hL hret
  obtain ⟨fs, h1, h2⟩ := fld_of hl
  obtain ⟨c1, c2, c3, c4⟩ := cls_ok ci hf.1
  refine va_get (D := Dv V) (v := .ref (V.2.2.1 r)) hF.1 hF.2.1 hF.2.2.2.2.1 c2 hF.2.2.2.1 hF.2.2.2.2.2.1 hS.1 o (cel_get V μ h1) c1 k hf.2.1 (hF.2.2.2.2.1 _ hf.2.2) (fun _ h9 => h9) ?_ hd (kk p e R s m args below meth c H locs cs sl Z lc A hF hR hS hL hret)
  rw [List.getElem?_mapIdx, h2]
  rfl
theorem ent_put {f : Nat → Int32} {ci k : Nat} {fs : List (Option Nat)} (h : fs[k]? = some none) (x : Int32) : (Sum.inr (ci, (fs.mapIdx (fvl V f)).set k (.int x)) : va_E) = entf V (upd f k x) (0, ci, fs) := by
  show _ = Sum.inr (ci, fs.mapIdx (fvl V (upd f k x)))
  congr 2
  apply List.ext_getElem?
  intro j
  by_cases hj : j = k
  · subst hj
    have hlt : j < fs.length := (List.getElem?_eq_some_iff.mp h).1
    rw [List.getElem?_set_self (by rw [List.length_mapIdx]; exact hlt), List.getElem?_mapIdx, h]
    simp [upd, fvl]
  · rw [List.getElem?_set_ne (Ne.symm hj), List.getElem?_mapIdx, List.getElem?_mapIdx]
    cases fs[j]? with
    | none => rfl
    | some q =>
      cases q with
      | none => simp [upd, hj, fvl]
      | some r => rfl
theorem Go.put {idx o ci k : Nat} {x : Int32} (hd : decode M.2.1 pc = .ok (.putfield idx, 3)) (hf : FL M.1.cls idx ci k) (hl : fld o k = some (ci, none)) (hfin : ((cT ci).2.1 k).2.2.2 = false) (hn : narrow (cTy ci k) (.int x) = .int x) (hfit : fits (cTy ci k) (.int x) = true) (kk : Go V d M (pc + 3) ls st (ms μ o k x) Q) : Go V d M pc ls (vI x :: vR o :: st) μ Q := by
  intro p e R s m args below meth c H locs cs sl Z lc A hF hR hS hL hret
  obtain ⟨fs, h1, h2⟩ := fld_of hl
  obtain ⟨c1, c2, c3, c4⟩ := cls_ok ci hf.1
  have hg := cel_get V μ h1
  refine va_put (D := Dv V) (v := .int x) hF.1 hF.2.1 hF.2.2.2.2.1 c2 (cTy ci) c3 c4 hF.2.2.2.1 hF.2.2.2.2.2.1 hS.1 hS.2.1 hS.2.2 o hg c1 k hf.2.1 (hF.2.2.2.2.1 _ hf.2.2) (fun _ h9 => h9) hfin (c3 k hf.2.1) hn hfit (by rw [List.length_mapIdx]; exact (List.getElem?_eq_some_iff.mp h2).1) hd (fun H1 locs1 hP hD hS1 => ?_)
  rw [ent_put h2 x, cel_set V μ h1] at hP hD
  exact kk p e R s m args below meth c H1 locs1 cs sl Z lc A hF hR ⟨hP, hD, hS1⟩ hL hret
-- arrays
def alen (o : Nat) : Option Nat := match lay[o]? with
  | some (1, n, _) => some n
  | _ => none
def aref (o j : Nat) : Option Nat := match lay[o]? with
  | some (t + 2, _, rs) => (rs[j]?).join
  | _ => none
theorem alen_of {o n : Nat} (h : alen o = some n) : ∃ q, lay[o]? = some (1, n, q) := by
  unfold alen at h
  split at h
  · cases h; exact ⟨_, by assumption⟩
  · cases h
theorem lay_small : ∀ q ∈ lay, q.2.1 < 4000 ∧ q.1 < 5 ∧ q.2.2.length < 4000 := by decide +kernel
theorem alen_small {o n : Nat} (h : alen o = some n) : n < 2 ^ 31 := by
  obtain ⟨q, h1⟩ := alen_of h
  exact Nat.lt_trans (lay_small _ (List.mem_of_getElem? h1)).1 (by decide)
theorem aref_of {o j r : Nat} (h : aref o j = some r) : ∃ t n rs, lay[o]? = some (t + 2, n, rs) ∧ rs[j]? = some (some r) := by
  unfold aref at h
  split at h
  · rename_i t n rs hl
    cases hk : rs[j]? with
    | none => rw [hk] at h; cases h
    | some z => rw [hk] at h; cases z with
      | none => cases h
      | some z => cases h; exact ⟨t, n, rs, hl, hk⟩
  · cases h
theorem Go.iaload {o n : Nat} {i : Int32} (j : Nat) (hd : decode M.2.1 pc = .ok (.iaload, 1)) (hl : alen o = some n) (hj : j < n) (hi : i = nI j) (kk : Go V d M (pc + 1) ls (vI (μ o j) :: st) μ Q) : Go V d M pc ls (vI i :: vR o :: st) μ Q := by
  intro p e R s m args below meth c H locs cs sl Z lc A hF hR hS hL hret
  obtain ⟨q, h1⟩ := alen_of hl
  have hs := alen_small hl
  subst hi
  refine va_iald (D := Dv V) hF.1 hF.2.1 hF.2.2.2.2.2.1 hS.1 o 0 (cel_get V μ h1) rfl (vp_in_nI hj hs) hd ?_
  rw [nI_clamp (Nat.lt_trans hj hs)]
  exact kk p e R s m args below meth c H locs cs sl Z lc A hF hR hS hL hret
theorem Go.iastore {o n : Nat} {i x : Int32} (j : Nat) (hd : decode M.2.1 pc = .ok (.iastore, 1)) (hl : alen o = some n) (hj : j < n) (hi : i = nI j) (kk : Go V d M (pc + 1) ls st (ms μ o j x) Q) : Go V d M pc ls (vI x :: vI i :: vR o :: st) μ Q := by
  intro p e R s m args below meth c H locs cs sl Z lc A hF hR hS hL hret
  obtain ⟨q, h1⟩ := alen_of hl
  have hs := alen_small hl
  subst hi
  refine va_iast (D := Dv V) hF.1 hF.2.1 hF.2.2.2.2.2.1 hS.1 hS.2.1 hS.2.2 o 0 (cel_get V μ h1) rfl (vp_in_nI hj hs) hd (fun H1 locs1 hP hD hS1 => ?_)
  rw [nI_clamp (Nat.lt_trans hj hs)] at hP hD
  have hc := cel_set V μ h1 (upd (μ o) j x)
  rw [show (Sum.inl (cAv V 0, n, Sum.inl (upd (μ o) j x)) : va_E) = entf V (upd (μ o) j x) (1, n, q) from rfl, hc] at hP hD
  exact kk p e R s m args below meth c H1 locs1 cs sl Z lc A hF hR ⟨hP, hD, hS1⟩ hL hret
theorem Go.alength {o n : Nat} (hd : decode M.2.1 pc = .ok (.arraylength, 1)) (hl : alen o = some n) (kk : Go V d M (pc + 1) ls (vI (nI n) :: st) μ Q) : Go V d M pc ls (vR o :: st) μ Q := by
  intro p e R s m args below meth c H locs cs sl Z lc A hF hR hS hL hret
  obtain ⟨q, h1⟩ := alen_of hl
  exact va_alen (D := Dv V) (v := nI n) hF.1 hF.2.1 hF.2.2.2.2.2.1 hS.1 o 0 (cel_get V μ h1) rfl rfl hd (kk p e R s m args below meth c H locs cs sl Z lc A hF hR hS hL hret)
theorem Go.aaload {o r : Nat} {i : Int32} (j : Nat) (hd : decode M.2.1 pc = .ok (.aaload, 1)) (hl : aref o j = some r) (hi : i = nI j) (kk : Go V d M (pc + 1) ls (vR r :: st) μ Q) : Go V d M pc ls (vI i :: vR o :: st) μ Q := by
  intro p e R s m args below meth c H locs cs sl Z lc A hF hR hS hL hret
  obtain ⟨t, n, rs, h1, h2⟩ := aref_of hl
  have hj : j < rs.length := (List.getElem?_eq_some_iff.mp h2).1
  obtain ⟨-, ht5, hs5⟩ := lay_small _ (List.mem_of_getElem? h1)
  have hs : rs.length < 2 ^ 31 := Nat.lt_trans hs5 (by decide)
  subst hi
  have hv : va_rf ((fun j => (rs.getD j none).map V.2.2.1) (nI j).toNatClampNeg) = .ref (V.2.2.1 r) := by
    rw [nI_clamp (Nat.lt_trans hj hs)]
    show va_rf ((rs.getD j none).map V.2.2.1) = _
    rw [List.getD_eq_getElem?_getD, h2]
    rfl
  have hcell := hS.1 o _ (cel_get V μ h1)
  have hK := hF.2.2.2.2.2.1.2
  have go : ∀ (ty : FieldType), ty.isReference = true → (tysW V)[t + 1]? = some (cAv V (t + 1), ty) → W p V.1 e R s m args below meth c H locs cs sl Z (F0 m pc lc (.int (nI j) :: .ref (V.2.2.1 o) :: st.map (gv V.2.2))) := by
    intro ty hty htt
    refine W.aald (ty := ty) (v := .ref (V.2.2.1 r)) hF.1 hF.2.1 hcell ((hK (t + 1) _ htt).1 rs.length (fun j => va_rf ((rs.getD j none).map V.2.2.1))) hty (fun q => by cases q) (by show ¬ (nI j < 0 ∨ (arrV _ _ _).slots.size ≤ _); rw [arrV_size]; exact vp_in_nI hj hs) ?_ rfl rfl hd (kk p e R s m args below meth c H locs cs sl Z lc A hF hR hS hL hret)
    show (arrV _ _ _).slots[_]? = _
    rw [arrV_read _ _ (by rw [nI_clamp (Nat.lt_trans hj hs)]; exact hj)]
    exact congrArg some hv
  match t, ht5, go with
  | 0, _, go => exact go (.object RX5) rfl rfl
  | 1, _, go => exact go (.object RX6) rfl rfl
  | 2, _, go => exact go (.array .int) rfl rfl
  | t + 3, h, _ => exact absurd h (by omega)
-- what nobody writes
def roA (S : Scr) (o : Nat) : Option Scr := if o = 200 then some (6, seaC) else if o = 220 then some S else none
theorem ro_T {A : Nat → Prop} {s : State} {H : Heap} {o n : Nat} {f : Nat → Int32} (h : ROW V A s H) (hl : roA V.2.1 o = some (n, f)) : va_T .int (V.2.2.1 o) n (fun j => .int (f j)) A s H := by
  unfold roA at hl
  split at hl
  · rename_i e; subst e; cases hl; exact h.1.2
  · split at hl
    · rename_i e; subst e
      have e2 : V.2.1 = (n, f) := Option.some.inj hl
      have := h.2.2.2.2
      rw [e2] at this
      exact this
    · cases hl
theorem Go.ialoadR {o n : Nat} {f : Nat → Int32} {i : Int32} (j : Nat) (hd : decode M.2.1 pc = .ok (.iaload, 1)) (hl : roA V.2.1 o = some (n, f)) (hn : n < 2 ^ 31) (hj : j < n) (hi : i = nI j) (kk : Go V d M (pc + 1) ls (vI (f j) :: st) μ Q) : Go V d M pc ls (vI i :: vR o :: st) μ Q := by
  intro p e R s m args below meth c H locs cs sl Z lc A hF hR hS hL hret
  subst hi
  exact va_ti (v := .int (f j)) hF.1 hF.2.1 (ro_T hF.2.2.2.2.2.2.2 hl) hS.2.2 (vp_in_nI hj hn) (by rw [nI_clamp (Nat.lt_trans hj hn)]) hd (kk p e R s m args below meth c H locs cs sl Z lc A hF hR hS hL hret)
theorem Go.alengthR {o n : Nat} {f : Nat → Int32} (hd : decode M.2.1 pc = .ok (.arraylength, 1)) (hl : roA V.2.1 o = some (n, f)) (kk : Go V d M (pc + 1) ls (vI (nI n) :: st) μ Q) : Go V d M pc ls (vR o :: st) μ Q := by
  intro p e R s m args below meth c H locs cs sl Z lc A hF hR hS hL hret
  exact va_tlen (v := nI n) hF.1 hF.2.1 (ro_T hF.2.2.2.2.2.2.2 hl) hS.2.2 rfl hd (kk p e R s m args below meth c H locs cs sl Z lc A hF hR hS hL hret)
theorem Go.baload {i : Int32} (q j : Nat) (hd : decode M.2.1 pc = .ok (.baload, 1)) (hq : q < 6) (hj : j < lenS.getD q 0) (hi : i = nI j) (kk : Go V d M (pc + 1) ls (vI ((bytS.getD q []).getD j 0) :: st) μ Q) : Go V d M pc ls (vI i :: vR (211 + q) :: st) μ Q := by
  intro p e R s m args below meth c H locs cs sl Z lc A hF hR hS hL hret
  subst hi
  have hsm : ∀ q, q < 6 → lenS.getD q 0 < 2 ^ 31 := by decide
  exact va_tb (v := .int ((bytS.getD q []).getD j 0)) hF.1 hF.2.1 (hF.2.2.2.2.2.2.2.2.2.1.1.1 q hq).2.2.2 hS.2.2 (vp_in_nI hj (hsm q hq)) (by rw [nI_clamp (Nat.lt_trans hj (hsm q hq))]) hd (kk p e R s m args below meth c H locs cs sl Z lc A hF hR hS hL hret)
theorem Go.blength (q : Nat) (hd : decode M.2.1 pc = .ok (.arraylength, 1)) (hq : q < 6) (kk : Go V d M (pc + 1) ls (vI (nI (lenS.getD q 0)) :: st) μ Q) : Go V d M pc ls (vR (211 + q) :: st) μ Q := by
  intro p e R s m args below meth c H locs cs sl Z lc A hF hR hS hL hret
  exact va_tlen (v := nI (lenS.getD q 0)) hF.1 hF.2.1 (hF.2.2.2.2.2.2.2.2.2.1.1.1 q hq).2.2.2 hS.2.2 rfl hd (kk p e R s m args below meth c H locs cs sl Z lc A hF hR hS hL hret)
theorem Go.strValue {idx : Nat} (q : Nat) (hd : decode M.2.1 pc = .ok (.getfield idx, 3)) (hq : q < 6) (hw : Cond.fieldLink M.1.cls idx "java/lang/String" "value" "[B" ∈ T0) (kk : Go V d M (pc + 3) ls (vR (211 + q) :: st) μ Q) : Go V d M pc ls (vR (201 + q) :: st) μ Q := by
  intro p e R s m args below meth c H locs cs sl Z lc A hF hR hS hL hret
  exact vk_getf hF.1 hF.2.1 (hF.2.2.2.2.2.2.2.2.2.1.1.1 q hq).2.2.1 hS.2.2 hF.2.2.2.1 (hF.2.2.2.2.1 _ hw) (fun _ h9 => h9) hd (kk p e R s m args below meth c H locs cs sl Z lc A hF hR hS hL hret)
theorem Go.strCoder {idx : Nat} (q : Nat) (hd : decode M.2.1 pc = .ok (.getfield idx, 3)) (hq : q < 6) (hw : Cond.fieldLink M.1.cls idx "java/lang/String" "coder" "B" ∈ T0) (kk : Go V d M (pc + 3) ls (vI 0 :: st) μ Q) : Go V d M pc ls (vR (201 + q) :: st) μ Q := by
  intro p e R s m args below meth c H locs cs sl Z lc A hF hR hS hL hret
  exact vk_getf hF.1 hF.2.1 (hF.2.2.2.2.2.2.2.2.2.1.1.1 q hq).2.1 hS.2.2 hF.2.2.2.1 (hF.2.2.2.2.1 _ hw) (fun _ h9 => h9) hd (kk p e R s m args below meth c H locs cs sl Z lc A hF hR hS hL hret)
theorem Go.ldcS {idx : Nat} (q : Nat) (hd : decode M.2.1 pc = .ok (.ldc idx, 2)) (hq : q < 6) (hM : M.1.cls = RX4) (hi : strI q = idx) (kk : Go V d M (pc + 2) ls (vR (201 + q) :: st) μ Q) : Go V d M pc ls st μ Q := by
  intro p e R s m args below meth c H locs cs sl Z lc A hF hR hS hL hret
  subst hi
  have hZ := hF.2.2.2.2.2.2.2.2.2.1.2 q hq
  rw [← hM] at hZ
  exact va_ldcS hF.1 hF.2.1 hF.2.2.2.1 hZ hd (kk p e R s m args below meth c H locs cs sl Z lc A hF hR hS hL hret)
theorem Go.getSea {idx : Nat} (hd : decode M.2.1 pc = .ok (.getstatic idx, 3)) (hw : Cond.fieldLink M.1.cls idx "TideIsland" "MOST_OF_SEA" "[I" ∈ T0) (kk : Go V d M (pc + 3) ls (vR 200 :: st) μ Q) : Go V d M pc ls st μ Q := by
  intro p e R s m args below meth c H locs cs sl Z lc A hF hR hS hL hret
  exact va_gets hF.1 hF.2.1 hF.2.2.2.2.2.2.2.1.1 hS.2.2 hF.2.2.2.1 (hF.2.2.2.2.1 _ hw) (fun _ h9 => h9) hd (kk p e R s m args below meth c H locs cs sl Z lc A hF hR hS hL hret)
theorem Go.getCompact {idx : Nat} (hd : decode M.2.1 pc = .ok (.getstatic idx, 3)) (hw : Cond.fieldLink M.1.cls idx "java/lang/String" "COMPACT_STRINGS" "Z" ∈ T0) (kk : Go V d M (pc + 3) ls (vI 1 :: st) μ Q) : Go V d M pc ls st μ Q := by
  intro p e R s m args below meth c H locs cs sl Z lc A hF hR hS hL hret
  exact va_gets hF.1 hF.2.1 hF.2.2.2.2.2.2.2.2.1.1 hS.2.2 hF.2.2.2.1 (hF.2.2.2.2.1 _ hw) (fun _ h9 => h9) hd (kk p e R s m args below meth c H locs cs sl Z lc A hF hR hS hL hret)
theorem Go.getFormatter {idx : Nat} (hd : decode M.2.1 pc = .ok (.getstatic idx, 3)) (hw : Cond.fieldLink M.1.cls idx "jdk/internal/util/Preconditions" "SIOOBE_FORMATTER" "Ljava/util/function/BiFunction;" ∈ T0) (kk : Go V d M (pc + 3) ls (vQ :: st) μ Q) : Go V d M pc ls st μ Q := by
  intro p e R s m args below meth c H locs cs sl Z lc A hF hR hS hL hret
  exact va_gets hF.1 hF.2.1 hF.2.2.2.2.2.2.2.2.1.2.1 hS.2.2 hF.2.2.2.1 (hF.2.2.2.2.1 _ hw) (fun _ h9 => h9) hd (kk p e R s m args below meth c H locs cs sl Z lc A hF hR hS hL hret)
theorem Go.copyi {idx o0 o1 n0 n1 : Nat} {sp dp n : Int32} (a b k : Nat) (hd : decode M.2.1 pc = .ok (.invokestatic idx, 3)) (hw : Cond.methodLink M.1.cls idx arraycopyName ∈ T0) (hl0 : alen o0 = some n0) (hl1 : alen o1 = some n1) (ea : sp = nI a) (eb : dp = nI b) (ek : n = nI k) (h0 : a + k ≤ n0) (h1 : b + k ≤ n1) (hst : st.length ≤ 4)
    (kk : Go V (d + 1) M (pc + 3) ls st (mw μ o1 (va_cpy (μ o0) (μ o1) a b k)) Q) : Go V (d + 1) M pc ls (vI n :: vI dp :: vR o1 :: vI sp :: vR o0 :: st) μ Q := by
  intro p e R s m args below meth c H locs cs sl Z lc A hF hR hS hL hret
  obtain ⟨q0, e0⟩ := alen_of hl0
  obtain ⟨q1, e1⟩ := alen_of hl1
  have s0 := alen_small hl0
  have s1 := alen_small hl1
  subst ea; subst eb; subst ek
  have ca : (nI a).toNatClampNeg = a := nI_clamp (by omega)
  have cb : (nI b).toNatClampNeg = b := nI_clamp (by omega)
  have ck : (nI k).toNatClampNeg = k := nI_clamp (by omega)
  have hcat : ((st.map (gv V.2.2)).map fun v => v.category).sum ≤ 8 := cat_le hst
  refine va_copyi (D := Dv V) (rest := st.map (gv V.2.2)) hF.1 hF.2.1 (by rw [hF.2.2.1]; exact hL.1.symm) hF.2.2.2.1 (hF.2.2.2.2.1 _ hw) (hF.2.2.2.2.1 _ w_native) (hF.2.2.2.2.1 _ w_acstatic) (hF.2.2.2.2.1 _ w_acinit) hF.2.2.2.2.2.1 hS.1 hS.2.1 hS.2.2 o0 o1 0 0 (cel_get V μ e0) (cel_get V μ e1) rfl rfl rfl (nI_pos (by omega)) (nI_pos (by omega)) (nI_pos (by omega)) (by rw [ca, ck]; exact h0) (by rw [cb, ck]; exact h1) (fun i hi => rfl) (by omega) ?_ hd (fun H1 locs1 hP hD hS1 => ?_)
  · have hw5 : nativeFrameWords "java/lang/System" "arraycopy" 5 + 11 ≤ 20 := by decide
    omega
  · rw [ca, cb, ck] at hP hD
    have hc := cel_set V μ e1 (va_cpy (μ o0) (μ o1) a b k)
    rw [show (Sum.inl (cAv V 0, n1, Sum.inl (va_cpy (μ o0) (μ o1) a b k)) : va_E) = entf V (va_cpy (μ o0) (μ o1) a b k) (1, n1, q1) from rfl, hc] at hP hD
    exact kk p e R s m args below meth c H1 locs1 cs sl Z lc A hF hR ⟨hP, hD, hS1⟩ hL hret
end GO
