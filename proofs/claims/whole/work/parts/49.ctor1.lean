/-! ===== constructors: frames over a world that grows; every rule is a row of the kit ===== -/
abbrev Ec : Type := Launch × va_G × (Nat → ClassId)
abbrev Vc (E : Ec) : VV := (E.1, ((0, fun _ => 0), (fun i => i, E.2.1.1, E.2.1.2, E.2.2, Value.null)))
def va_AOI (U : State) : Prop := (Cond.arrayOver (.array .int)).before #[] U = true
theorem va_AOI.moved {u U : State} (hvm : u.vm.Alike U.vm) (h : va_AOI u) : va_AOI U := Jvm.Stand.arrayOver_alikeB hvm h
abbrev nestW : List Cond := [.methodLinkNest RX8 9 yX3_init RX8, .methodLinkNest RX8 33 yX7_init RX8, .methodLinkNest RX8 63 yX5_init RX8, .methodLinkNest RX8 64 yX6_init RX8, .methodLinkNest RX6 17 yX5_init RX8]
def XC (U : State) : Prop := (va_AO RX5 U ∧ va_AO RX6 U ∧ va_AOI U) ∧ va_Nw (.methodLinkNest RX8 9 yX3_init RX8) U ∧ va_Nw (.methodLinkNest RX8 33 yX7_init RX8) U ∧ va_Nw (.methodLinkNest RX8 63 yX5_init RX8) U ∧ va_Nw (.methodLinkNest RX8 64 yX6_init RX8) U ∧ va_Nw (.methodLinkNest RX6 17 yX5_init RX8) U
theorem XC.same {u U : State} (hv : U.vm = u.vm) (h : XC u) : XC U := by
  have ha : u.vm.Alike U.vm := by rw [hv]; exact Vm.Alike.refl _
  obtain ⟨⟨a1, a2, a3⟩, b1, b2, b3, b4, b5⟩ := h
  exact ⟨⟨a1.moved ha, a2.moved ha, a3.moved ha⟩, b1.same rfl hv.symm, b2.same rfl hv.symm, b3.same rfl hv.symm, b4.same rfl hv.symm, b5.same rfl hv.symm⟩
theorem XC.warm {s U : State} (hW : s.WarmedH U.vm) (h : XC s) : XC U := by
  have ha : s.vm.Alike U.vm := hW.alike
  obtain ⟨⟨a1, a2, a3⟩, b1, b2, b3, b4, b5⟩ := h
  exact ⟨⟨a1.moved ha, a2.moved ha, a3.moved ha⟩, b1.warmM hW, b2.warmM hW, b3.warmM hW, b4.warmM hW, b5.warmM hW⟩
def StC (E : Ec) (ws : va_W) (s : State) (H : Heap) (locs : List Loc) (A : Nat → Prop) : Prop := va_P (Dv (Vc E)) clsW ws H ∧ va_D A ws ∧ va_S A s.heap H locs
def FixC (E : Ec) (p : Program) (s : State) (m : MethodId) (args : Array Value) (meth : Method) (c : Code) (A : Nat → Prop) (M : Mthd) : Prop :=
  p.tables.exec = Jvm.exec ∧ c.code = M.2.1 ∧ c.maxLocals = M.2.2.1 ∧ s.vm.findClass M.1.cls = some m.cls ∧ (∀ w ∈ T0, w.before args s = true) ∧ va_K (Dv (Vc E)) clsW (tysW (Vc E)) s ∧ (∀ q, s.heap.size ≤ q → A q) ∧ XC s ∧ meth.name = M.1.name
/-- method M at pc over the world ws, with cs cells and sl slots made, of mc and ms in all -/
def Gc (E : Ec) (d mc ms : Nat) (M : Mthd) (pc : Nat) (ls : List (Option AVal)) (st : List AVal) (ws : va_W) (cs sl : Nat) (Q : va_W → Prop) : Prop :=
  ∀ (p : Program) (e : Env) (R : Room) (s : State) (m : MethodId) (args : Array Value) (below : List Frame) (meth : Method) (c : Code) (H : Heap) (locs : List Loc) (Z : State → Prop) (lc : Array Slot) (A : Nat → Prop),
    FixC E p s m args meth c A M → (d ≤ R.frames ∧ 40 * d ≤ R.locals ∧ mc ≤ R.cells ∧ ms ≤ R.slots) → StC E ws s H locs A → lv_has lc M.2.2.1 (toL (Vc E) ls) →
    (∀ (pc' : Nat) (H' : Heap) (locs' : List Loc) (lc' : Array Slot) (ws' : va_W), Q ws' → StC E ws' s H' locs' A → decode M.2.1 pc' = .ok (.return_, 1) → W p E.1 e R s m args below meth c H' locs' mc ms Z (F0 m pc' lc' [])) →
    W p E.1 e R s m args below meth c H locs cs sl Z (F0 m pc lc (st.map (gv (Vc E).2.2)))
section GC
variable {E : Ec} {d mc ms : Nat} {M : Mthd} {pc : Nat} {ls : List (Option AVal)} {st : List AVal} {ws : va_W} {cs sl : Nat} {Q : va_W → Prop}
theorem Gc.mono {Q' : va_W → Prop} (h : Gc E d mc ms M pc ls st ws cs sl Q) (hq : ∀ w, Q w → Q' w) : Gc E d mc ms M pc ls st ws cs sl Q' :=
  fun p e R s m args below meth c H locs Z lc A hF hR hS hL hret => h p e R s m args below meth c H locs Z lc A hF hR hS hL (fun pc' H' locs' lc' ws' hq' => hret pc' H' locs' lc' ws' (hq ws' hq'))
theorem Gc.at (pc' : Nat) (h : pc = pc') (k : Gc E d mc ms M pc' ls st ws cs sl Q) : Gc E d mc ms M pc ls st ws cs sl Q := by subst h; exact k
theorem Gc.eqw {ws' : va_W} (h : ws = ws') (k : Gc E d mc ms M pc ls st ws' cs sl Q) : Gc E d mc ms M pc ls st ws cs sl Q := by subst h; exact k
theorem Gc.ret (hd : decode M.2.1 pc = .ok (.return_, 1)) (h1 : cs = mc) (h2 : sl = ms) (hQ : Q ws) : Gc E d mc ms M pc ls [] ws cs sl Q := by
  intro p e R s m args below meth c H locs Z lc A hF hR hS hL hret
  subst h1; subst h2
  exact hret pc H locs lc ws hQ hS hd
theorem Gc.iconst {n : Int} {v : Int32} (hd : decode M.2.1 pc = .ok (.iconst n, 1)) (hv : Int32.ofInt n = v) (k : Gc E d mc ms M (pc + 1) ls (vI v :: st) ws cs sl Q) : Gc E d mc ms M pc ls st ws cs sl Q :=
  fun p e R s m args below meth c H locs Z lc A hF hR hS hL hret => lv_iconst hF.1 hF.2.1 hd hv (k p e R s m args below meth c H locs Z lc A hF hR hS hL hret)
theorem Gc.bipush {n : Int} {v : Int32} (hd : decode M.2.1 pc = .ok (.bipush n, 2)) (hv : (Int8.ofInt n).toInt32 = v) (k : Gc E d mc ms M (pc + 2) ls (vI v :: st) ws cs sl Q) : Gc E d mc ms M pc ls st ws cs sl Q :=
  fun p e R s m args below meth c H locs Z lc A hF hR hS hL hret => lv_bipush hF.1 hF.2.1 hd hv (k p e R s m args below meth c H locs Z lc A hF hR hS hL hret)
theorem Gc.sipush {n : Int} {v : Int32} (hd : decode M.2.1 pc = .ok (.sipush n, 3)) (hv : (Int16.ofInt n).toInt32 = v) (k : Gc E d mc ms M (pc + 3) ls (vI v :: st) ws cs sl Q) : Gc E d mc ms M pc ls st ws cs sl Q :=
  fun p e R s m args below meth c H locs Z lc A hF hR hS hL hret => lv_sipush hF.1 hF.2.1 hd hv (k p e R s m args below meth c H locs Z lc A hF hR hS hL hret)
theorem Gc.ldc {index : Nat} {v : Int32} (hd : decode M.2.1 pc = .ok (.ldc index, 2)) (hw : Cond.constant M.1.cls index v ∈ T0) (k : Gc E d mc ms M (pc + 2) ls (vI v :: st) ws cs sl Q) : Gc E d mc ms M pc ls st ws cs sl Q :=
  fun p e R s m args below meth c H locs Z lc A hF hR hS hL hret => lv_ldc hF.1 hF.2.1 hF.2.2.2.1 (hF.2.2.2.2.1 _ hw) hd (k p e R s m args below meth c H locs Z lc A hF hR hS hL hret)
theorem Gc.iload_n {k0 : Fin 4} {x : Int32} (hd : decode M.2.1 pc = .ok (.iload_n k0, 1)) (hl : ls[(k0 : Nat)]? = some (some (vI x))) (k : Gc E d mc ms M (pc + 1) ls (vI x :: st) ws cs sl Q) : Gc E d mc ms M pc ls st ws cs sl Q :=
  fun p e R s m args below meth c H locs Z lc A hF hR hS hL hret => lv_iload_n hF.1 hF.2.1 hd rfl (hL.2.2 _ (toL_mem.mpr ⟨_, hl, rfl⟩)) (k p e R s m args below meth c H locs Z lc A hF hR hS hL hret)
theorem Gc.aload_n {k0 : Fin 4} {x : Nat} (hd : decode M.2.1 pc = .ok (.aload_n k0, 1)) (hl : ls[(k0 : Nat)]? = some (some (vR x))) (k : Gc E d mc ms M (pc + 1) ls (vR x :: st) ws cs sl Q) : Gc E d mc ms M pc ls st ws cs sl Q :=
  fun p e R s m args below meth c H locs Z lc A hF hR hS hL hret => lv_aload_n hF.1 hF.2.1 hd rfl (hL.2.2 _ (toL_mem.mpr ⟨_, hl, rfl⟩)) (k p e R s m args below meth c H locs Z lc A hF hR hS hL hret)
theorem Gc.istore_n {k0 : Fin 4} {x : Int32} {ls' : List (Option AVal)} (hd : decode M.2.1 pc = .ok (.istore_n k0, 1)) (hn : (k0 : Nat) < M.2.2.1) (hl : lset ls (k0 : Nat) (vI x) = some ls') (k : Gc E d mc ms M (pc + 1) ls' st ws cs sl Q) : Gc E d mc ms M pc ls (vI x :: st) ws cs sl Q :=
  fun p e R s m args below meth c H locs Z lc A hF hR hS hL hret => lv_istore_n hF.1 hF.2.1 hd rfl hL hn rfl (fun lc2 h2 => k p e R s m args below meth c H locs Z lc2 A hF hR hS (lset_has hl h2) hret)
theorem Gc.iinc {i : Nat} {n : Int} {x v : Int32} {ls' : List (Option AVal)} (hd : decode M.2.1 pc = .ok (.iinc i n, 3)) (hx : ls[i]? = some (some (vI x))) (hv : x + Int32.ofInt n = v) (hn : i < M.2.2.1) (hl : lset ls i (vI v) = some ls') (k : Gc E d mc ms M (pc + 3) ls' st ws cs sl Q) : Gc E d mc ms M pc ls st ws cs sl Q := by
  intro p e R s m args below meth c H locs Z lc A hF hR hS hL hret
  obtain ⟨kx, hkx⟩ := List.getElem?_of_mem (toL_mem.mpr ⟨_, hx, rfl⟩ : (i, gv (Vc E).2.2 (vI x)) ∈ toL (Vc E) ls)
  exact lv_iinc hF.1 hF.2.1 hd hL hkx hv hn rfl (fun lc2 h2 => k p e R s m args below meth c H locs Z lc2 A hF hR hS (lset_has hl h2) hret)
theorem Gc.iadd {x y : Int32} (hd : decode M.2.1 pc = .ok (.iadd, 1)) (k : Gc E d mc ms M (pc + 1) ls (vI (x + y) :: st) ws cs sl Q) : Gc E d mc ms M pc ls (vI y :: vI x :: st) ws cs sl Q :=
  fun p e R s m args below meth c H locs Z lc A hF hR hS hL hret => lv_iadd hF.1 hF.2.1 hd (k p e R s m args below meth c H locs Z lc A hF hR hS hL hret)
theorem Gc.imul {x y : Int32} (hd : decode M.2.1 pc = .ok (.imul, 1)) (k : Gc E d mc ms M (pc + 1) ls (vI (x * y) :: st) ws cs sl Q) : Gc E d mc ms M pc ls (vI y :: vI x :: st) ws cs sl Q :=
  fun p e R s m args below meth c H locs Z lc A hF hR hS hL hret => lv_imul hF.1 hF.2.1 hd (k p e R s m args below meth c H locs Z lc A hF hR hS hL hret)
theorem Gc.dupR {x : Nat} (hd : decode M.2.1 pc = .ok (.dup, 1)) (k : Gc E d mc ms M (pc + 1) ls (vR x :: vR x :: st) ws cs sl Q) : Gc E d mc ms M pc ls (vR x :: st) ws cs sl Q :=
  fun p e R s m args below meth c H locs Z lc A hF hR hS hL hret => lv_dup hF.1 hF.2.1 hd rfl (k p e R s m args below meth c H locs Z lc A hF hR hS hL hret)
theorem Gc.icmp_ge {x y : Int32} {off : Int} {tgt : Nat} (hd : decode M.2.1 pc = .ok (.if_icmp .ge off, 3)) (ht : (pc : Int) + off = (tgt : Int)) (kt : y ≤ x → Gc E d mc ms M tgt ls st ws cs sl Q) (kf : ¬ y ≤ x → Gc E d mc ms M (pc + 3) ls st ws cs sl Q) : Gc E d mc ms M pc ls (vI y :: vI x :: st) ws cs sl Q :=
  fun p e R s m args below meth c H locs Z lc A hF hR hS hL hret => lv_icmp_ge hF.1 hF.2.1 hd ht (fun hc => kt hc p e R s m args below meth c H locs Z lc A hF hR hS hL hret) (fun hc => kf hc p e R s m args below meth c H locs Z lc A hF hR hS hL hret)
theorem Gc.goto {off : Int} {tgt : Nat} (hd : decode M.2.1 pc = .ok (.goto off, 3)) (ht : (pc : Int) + off = (tgt : Int)) (k : Gc E d mc ms M tgt ls st ws cs sl Q) : Gc E d mc ms M pc ls st ws cs sl Q :=
  fun p e R s m args below meth c H locs Z lc A hF hR hS hL hret => lv_goto hF.1 hF.2.1 hd ht (k p e R s m args below meth c H locs Z lc A hF hR hS hL hret)
theorem Gc.get {idx ci k a : Nat} {v : AVal} (q0 : Nat) {fs : List Value} (hd : decode M.2.1 pc = .ok (.getfield idx, 3)) (hf : FL M.1.cls idx ci k) (he : ws[q0]? = some (a, .inr (ci, fs))) (hv : fs[k]? = some (gv (Vc E).2.2 v)) (kk : Gc E d mc ms M (pc + 3) ls (v :: st) ws cs sl Q) : Gc E d mc ms M pc ls (vR a :: st) ws cs sl Q := by
  intro p e R s m args below meth c H locs Z lc A hF hR hS hL hret
  obtain ⟨c1, c2, c3, c4⟩ := cls_ok ci hf.1
  exact va_get (D := Dv (Vc E)) hF.1 hF.2.1 hF.2.2.2.2.1 c2 hF.2.2.2.1 hF.2.2.2.2.2.1 hS.1 q0 he c1 k hf.2.1 (hF.2.2.2.2.1 _ hf.2.2) (fun _ h9 => h9) hv hd (kk p e R s m args below meth c H locs Z lc A hF hR hS hL hret)
theorem Gc.put {idx ci k a : Nat} {v : AVal} (q0 : Nat) {fs : List Value} (hd : decode M.2.1 pc = .ok (.putfield idx, 3)) (hf : FL M.1.cls idx ci k) (he : ws[q0]? = some (a, .inr (ci, fs))) (hfin : ((cT ci).2.1 k).2.2.2 = false) (hn : narrow (cTy ci k) (gv (Vc E).2.2 v) = gv (Vc E).2.2 v) (hfit : fits (cTy ci k) (gv (Vc E).2.2 v) = true) (hl : k < fs.length) (kk : Gc E d mc ms M (pc + 3) ls st (ws.set q0 (a, .inr (ci, fs.set k (gv (Vc E).2.2 v)))) cs sl Q) : Gc E d mc ms M pc ls (v :: vR a :: st) ws cs sl Q := by
  intro p e R s m args below meth c H locs Z lc A hF hR hS hL hret
  obtain ⟨c1, c2, c3, c4⟩ := cls_ok ci hf.1
  exact va_put (D := Dv (Vc E)) hF.1 hF.2.1 hF.2.2.2.2.1 c2 (cTy ci) c3 c4 hF.2.2.2.1 hF.2.2.2.2.2.1 hS.1 hS.2.1 hS.2.2 q0 he c1 k hf.2.1 (hF.2.2.2.2.1 _ hf.2.2) (fun _ h9 => h9) hfin (c3 k hf.2.1) hn hfit hl hd (fun H1 locs1 hP hD hS1 => kk p e R s m args below meth c H1 locs1 Z lc A hF hR ⟨hP, hD, hS1⟩ hL hret)
theorem Gc.putF {idx ci k a : Nat} {v : AVal} (q0 : Nat) {fs : List Value} (hd : decode M.2.1 pc = .ok (.putfield idx, 3)) (hf : FL M.1.cls idx ci k) (he : ws[q0]? = some (a, .inr (ci, fs))) (hfin : ((cT ci).2.1 k).2.2.2 = true) (hin : M.1.name = "<init>") (hdecl : ((cT ci).2.1 k).1 = M.1.cls) (hn : narrow (cTy ci k) (gv (Vc E).2.2 v) = gv (Vc E).2.2 v) (hfit : fits (cTy ci k) (gv (Vc E).2.2 v) = true) (hl : k < fs.length) (kk : Gc E d mc ms M (pc + 3) ls st (ws.set q0 (a, .inr (ci, fs.set k (gv (Vc E).2.2 v)))) cs sl Q) : Gc E d mc ms M pc ls (v :: vR a :: st) ws cs sl Q := by
  intro p e R s m args below meth c H locs Z lc A hF hR hS hL hret
  obtain ⟨c1, c2, c3, c4⟩ := cls_ok ci hf.1
  exact va_putF (D := Dv (Vc E)) hF.1 hF.2.1 hF.2.2.2.2.1 c2 (cTy ci) c3 c4 hF.2.2.2.1 hF.2.2.2.2.2.1 hS.1 hS.2.1 hS.2.2 q0 he c1 k hf.2.1 (hF.2.2.2.2.1 _ hf.2.2) (fun _ h9 => h9) hfin (hF.2.2.2.2.2.2.2.2.trans hin) hdecl (c3 k hf.2.1) hn hfit hl hd (fun H1 locs1 hP hD hS1 => kk p e R s m args below meth c H1 locs1 Z lc A hF hR ⟨hP, hD, hS1⟩ hL hret)
theorem Gc.iastore {a n : Nat} {f : Nat → Int32} {i x : Int32} (q0 j : Nat) (hd : decode M.2.1 pc = .ok (.iastore, 1)) (he : ws[q0]? = some (a, .inl (E.2.2 0, n, .inl f))) (hs : n < 2 ^ 31) (hj : j < n) (hi : i = nI j) (kk : Gc E d mc ms M (pc + 1) ls st (ws.set q0 (a, .inl (E.2.2 0, n, .inl (upd f j x)))) cs sl Q) : Gc E d mc ms M pc ls (vI x :: vI i :: vR a :: st) ws cs sl Q := by
  intro p e R s m args below meth c H locs Z lc A hF hR hS hL hret
  subst hi
  refine va_iast (D := Dv (Vc E)) hF.1 hF.2.1 hF.2.2.2.2.2.1 hS.1 hS.2.1 hS.2.2 q0 0 he rfl (vp_in_nI hj hs) hd (fun H1 locs1 hP hD hS1 => ?_)
  rw [nI_clamp (Nat.lt_trans hj hs)] at hP hD
  exact kk p e R s m args below meth c H1 locs1 Z lc A hF hR ⟨hP, hD, hS1⟩ hL hret
theorem Gc.alen {a n : Nat} {f : Nat → Int32} (q0 : Nat) (hd : decode M.2.1 pc = .ok (.arraylength, 1)) (he : ws[q0]? = some (a, .inl (E.2.2 0, n, .inl f))) (kk : Gc E d mc ms M (pc + 1) ls (vI (nI n) :: st) ws cs sl Q) : Gc E d mc ms M pc ls (vR a :: st) ws cs sl Q := by
  intro p e R s m args below meth c H locs Z lc A hF hR hS hL hret
  exact va_alen (D := Dv (Vc E)) (v := nI n) hF.1 hF.2.1 hF.2.2.2.2.2.1 hS.1 q0 0 he (ty := .int) rfl rfl hd (kk p e R s m args below meth c H locs Z lc A hF hR hS hL hret)
theorem Gc.newi {n : Int32} {N : Nat} (hd : decode M.2.1 pc = .ok (.newarray .int, 2)) (hw : Cond.arrayClass .int ∈ T0) (hn : n = nI N) (hN : N ≤ 4000) (hc : cs + 1 ≤ mc) (hs : sl + N ≤ ms) (kk : ∀ q, Gc E d mc ms M (pc + 2) ls (vR q :: st) (ws ++ [(q, .inl (E.2.2 0, N, .inl (fun _ => 0)))]) (cs + 1) (sl + N) Q) : Gc E d mc ms M pc ls (vI n :: st) ws cs sl Q := by
  intro p e R s m args below meth c H locs Z lc A hF hR hS hL hret
  subst hn
  refine va_newa (D := Dv (Vc E)) (atype := .int) (ty := .int) (N' := N) (a0 := (N, .inl (fun _ => 0))) hF.1 hF.2.1 (hF.2.2.2.2.1 _ hw) rfl hF.2.2.2.2.2.1 hS.1 hS.2.1 hS.2.2 hF.2.2.2.2.2.2.1 (fun cA => rfl) (by rw [sI_lt]; show ¬ (nI N).toInt < (nI 0).toInt; rw [nT, nT]; omega) (nI_clamp (by omega)) (by show N * 4 ≤ _; omega) (by omega) (by omega) hd (fun q cA H1 hK hP hD hS1 => ?_)
  have e : cA = E.2.2 0 := by
    have h1 := (hK.2 4 (cA, .int) rfl).2
    have h2 := (hF.2.2.2.2.2.1.2 0 (E.2.2 0, .int) rfl).2
    exact Option.some.inj (h1.symm.trans h2)
  subst e
  exact kk q p e R s m args below meth c H1 locs Z lc A hF hR ⟨hP, hD, hS1⟩ hL hret
end GC
