/-! ===== constructors: the world as this, and what came since ===== -/
def Wd (ws : va_W) (k : Nat) (x : Nat × va_E) (l : va_W) : va_W := ws.set k x ++ l
section WD
variable {ws : va_W} {k : Nat} {x y : Nat × va_E} {l l2 : va_W}
theorem Wd.len : (Wd ws k x l).length = ws.length + l.length := by unfold Wd; rw [List.length_append, List.length_set]
theorem Wd.put (hk : k < ws.length) : (Wd ws k x l).set k y = Wd ws k y l := by
  unfold Wd; rw [List.set_append_left _ _ (by rw [List.length_set]; exact hk), List.set_set]
theorem Wd.app : Wd ws k x l ++ l2 = Wd ws k x (l ++ l2) := by unfold Wd; rw [List.append_assoc]
theorem Wd.get (hk : k < ws.length) : (Wd ws k x l)[k]? = some x := by
  unfold Wd; rw [List.getElem?_append_left (by rw [List.length_set]; exact hk), List.getElem?_set_self hk]
theorem Wd.getl (i : Nat) : (Wd ws k x l)[ws.length + i]? = l[i]? := by
  unfold Wd; rw [List.getElem?_append_right (by rw [List.length_set]; omega), List.length_set, Nat.add_sub_cancel_left]
theorem Wd.setl (i : Nat) : (Wd ws k x l).set (ws.length + i) y = Wd ws k x (l.set i y) := by
  unfold Wd; rw [List.set_append_right _ _ (by rw [List.length_set]; omega), List.length_set, Nat.add_sub_cancel_left]
theorem Wd.sub {i : Nat} : Wd (Wd ws k x l) (ws.length + i) y l2 = Wd ws k x (l.set i y ++ l2) := by
  show (Wd ws k x l).set (ws.length + i) y ++ l2 = _
  rw [Wd.setl, Wd.app]
theorem Wd.init (h : ws[k]? = some x) : ws = Wd ws k x [] := by
  unfold Wd
  rw [List.append_nil]
  apply List.ext_getElem?
  intro j
  by_cases e : j = k
  · subst e
    rw [List.getElem?_set_self (List.getElem?_eq_some_iff.mp h).1, h]
  · rw [List.getElem?_set_ne (Ne.symm e)]
end WD
section GW
variable {E : Ec} {d mc ms : Nat} {M M' : Mthd} {pc idx n : Nat} {ls : List (Option AVal)} {st : List AVal} {ws l : va_W} {w : Nat} {x : Nat × va_E} {cs sl : Nat} {Q : va_W → Prop}
theorem Gc.getW {ci k a : Nat} {v : AVal} {fs : List Value} (hw : w < ws.length) (hd : decode M.2.1 pc = .ok (.getfield idx, 3)) (hf : FL M.1.cls idx ci k) (hv : fs[k]? = some (gv (Vc E).2.2 v)) (kk : Gc E d mc ms M (pc + 3) ls (v :: st) (Wd ws w (a, .inr (ci, fs)) l) cs sl Q) : Gc E d mc ms M pc ls (vR a :: st) (Wd ws w (a, .inr (ci, fs)) l) cs sl Q :=
  Gc.get w hd hf (Wd.get hw) hv kk
theorem Gc.putW {ci k a : Nat} {v : AVal} {fs : List Value} (hw : w < ws.length) (hd : decode M.2.1 pc = .ok (.putfield idx, 3)) (hf : FL M.1.cls idx ci k) (hfin : ((cT ci).2.1 k).2.2.2 = false) (hn : narrow (cTy ci k) (gv (Vc E).2.2 v) = gv (Vc E).2.2 v) (hfit : fits (cTy ci k) (gv (Vc E).2.2 v) = true) (hl : k < fs.length) (kk : Gc E d mc ms M (pc + 3) ls st (Wd ws w (a, .inr (ci, fs.set k (gv (Vc E).2.2 v))) l) cs sl Q) : Gc E d mc ms M pc ls (v :: vR a :: st) (Wd ws w (a, .inr (ci, fs)) l) cs sl Q :=
  Gc.put w hd hf (Wd.get hw) hfin hn hfit hl (Gc.eqw (Wd.put hw) kk)
theorem Gc.putFW {ci k a : Nat} {v : AVal} {fs : List Value} (hw : w < ws.length) (hd : decode M.2.1 pc = .ok (.putfield idx, 3)) (hf : FL M.1.cls idx ci k) (hfin : ((cT ci).2.1 k).2.2.2 = true) (hin : M.1.name = "<init>") (hdecl : ((cT ci).2.1 k).1 = M.1.cls) (hn : narrow (cTy ci k) (gv (Vc E).2.2 v) = gv (Vc E).2.2 v) (hfit : fits (cTy ci k) (gv (Vc E).2.2 v) = true) (hl : k < fs.length) (kk : Gc E d mc ms M (pc + 3) ls st (Wd ws w (a, .inr (ci, fs.set k (gv (Vc E).2.2 v))) l) cs sl Q) : Gc E d mc ms M pc ls (v :: vR a :: st) (Wd ws w (a, .inr (ci, fs)) l) cs sl Q :=
  Gc.putF w hd hf (Wd.get hw) hfin hin hdecl hn hfit hl (Gc.eqw (Wd.put hw) kk)
theorem Gc.iastoreW {a n : Nat} {f : Nat → Int32} {i y : Int32} (t j : Nat) (hd : decode M.2.1 pc = .ok (.iastore, 1)) (he : l[t]? = some (a, .inl (E.2.2 0, n, .inl f))) (hs : n < 2 ^ 31) (hj : j < n) (hi : i = nI j) (kk : Gc E d mc ms M (pc + 1) ls st (Wd ws w x (l.set t (a, .inl (E.2.2 0, n, .inl (upd f j y))))) cs sl Q) : Gc E d mc ms M pc ls (vI y :: vI i :: vR a :: st) (Wd ws w x l) cs sl Q :=
  Gc.iastore (ws.length + t) j hd ((Wd.getl t).trans he) hs hj hi (Gc.eqw (Wd.setl t) kk)
theorem Gc.newiW {i : Int32} {N : Nat} (hd : decode M.2.1 pc = .ok (.newarray .int, 2)) (hi : i = nI N) (hN : N ≤ 4000) (hc : cs + 1 ≤ mc) (hs : sl + N ≤ ms) (hw : Cond.arrayClass .int ∈ T0) (kk : ∀ q, Gc E d mc ms M (pc + 2) ls (vR q :: st) (Wd ws w x (l ++ [(q, .inl (E.2.2 0, N, .inl (fun _ => 0)))])) (cs + 1) (sl + N) Q) : Gc E d mc ms M pc ls (vI i :: st) (Wd ws w x l) cs sl Q :=
  Gc.newi hd hw hi hN hc hs (fun q => Gc.eqw Wd.app (kk q))
theorem Gc.newW {ci N : Nat} {fs : List Value} (hd : decode M.2.1 pc = .ok (.new idx, 3)) (hci : ci < 8) (hN : (cT ci).2.2 = N) (hcl : Cond.classLink M.1.cls idx (cT ci).1 ∈ T0) (hinst : Cond.instantiable (cT ci).1 N ∈ T0) (hini : Cond.initialized (cT ci).1 ∈ T0) (hfs : ∀ j, j < N → defaultValue (cTy ci j) = vp_V fs j) (hc : cs + 1 ≤ mc) (hs : sl + N ≤ ms) (kk : ∀ q, Gc E d mc ms M (pc + 3) ls (vR q :: st) (Wd ws w x (l ++ [(q, .inr (ci, fs))])) (cs + 1) (sl + N) Q) : Gc E d mc ms M pc ls st (Wd ws w x l) cs sl Q :=
  Gc.new hd hci hN hcl hinst hini hfs hc hs (fun q => Gc.eqw Wd.app (kk q))
theorem Gc.newqW {C : String} {k N : Nat} {i : Int32} (hd : decode M.2.1 pc = .ok (.anewarray idx, 3)) (hk : (tysW (Vc E))[k]? = some (E.2.2 k, .object C)) (hao : ∀ s, XC s → va_AO C s) (hcl : Cond.classLink M.1.cls idx C ∈ T0) (hi : i = nI N) (hN : N ≤ 4000) (hc : cs + 1 ≤ mc) (hs : sl + N ≤ ms) (kk : ∀ q, Gc E d mc ms M (pc + 3) ls (vR q :: st) (Wd ws w x (l ++ [(q, .inl (E.2.2 k, N, .inr (.inr (.inr (.inr (fun _ => none))))))])) (cs + 1) (sl + N) Q) : Gc E d mc ms M pc ls (vI i :: st) (Wd ws w x l) cs sl Q :=
  Gc.newq hd hk hao hcl hi hN hc hs (fun q => Gc.eqw Wd.app (kk q))
theorem Gc.aastoreW {k a v ci N : Nat} {f : Nat → Option Nat} {i : Int32} {vs : List Value} {r : vw_C} (t tk j : Nat) (hd : decode M.2.1 pc = .ok (.aastore, 1)) (he : l[t]? = some (a, .inl (E.2.2 k, N, .inr (.inr (.inr (.inr f)))))) (hk : (tysW (Vc E))[k]? = some (E.2.2 k, .object r.1)) (hv : l[tk]? = some (v, .inr (ci, vs))) (hc : clsW[ci]? = some r) (hN : N < 2 ^ 31) (hj : j < N) (hi : i = nI j) (kk : Gc E d mc ms M (pc + 1) ls st (Wd ws w x (l.set t (a, .inl (E.2.2 k, N, .inr (.inr (.inr (.inr (va_up f j (some v))))))))) cs sl Q) : Gc E d mc ms M pc ls (vR v :: vI i :: vR a :: st) (Wd ws w x l) cs sl Q :=
  Gc.aastore (ws.length + t) (ws.length + tk) j hd ((Wd.getl t).trans he) hk ((Wd.getl tk).trans hv) hc hN hj hi (Gc.eqw (Wd.setl t) kk)
end GW
theorem tI : Cond.arrayClass .int ∈ T0 := T0_at 57 (by decide +kernel) (by decide +kernel)
theorem tObj : Cond.instanceMethod objectInit ∈ T0 := T0_at 26 (by decide +kernel) (by decide +kernel)
theorem tObjC : Cond.code objectInit ⟨#[0xb1]⟩ 1 none ∈ T0 := T0_at 27 (by decide +kernel) (by decide +kernel)
