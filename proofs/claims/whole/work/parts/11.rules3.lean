/-! ===== contracts with a memory behind them ===== -/
def RetI (V : VV) (d : Nat) (M : Mthd) (As : List AVal) (μ : Memo) (x : Int32) (P : Memo → Prop) : Prop := Go V d M 0 (entF M As) [] μ (fun r μ' => r = some (vI x) ∧ P μ')
def RetU (V : VV) (d : Nat) (M : Mthd) (As : List AVal) (μ : Memo) (P : Memo → Prop) : Prop := Go V d M 0 (entF M As) [] μ (fun r μ' => r = none ∧ P μ')
theorem RetI.of {V : VV} {d : Nat} {M : Mthd} {As : List AVal} {μ μ' : Memo} {x : Int32} {P : Memo → Prop} (h : Ret V d M As μ (some (vI x)) μ') (hp : P μ') : RetI V d M As μ x P := Go.mono h (by rintro r m2 ⟨rfl, rfl⟩; exact ⟨rfl, hp⟩)
theorem RetI.eq {V : VV} {d : Nat} {M : Mthd} {As : List AVal} {μ : Memo} {x y : Int32} {P : Memo → Prop} (h : RetI V d M As μ x P) (e : x = y) : RetI V d M As μ y P := e ▸ h
theorem Ret.eq {V : VV} {d : Nat} {M : Mthd} {As : List AVal} {μ μ' : Memo} {x y : Int32} (h : Ret V d M As μ (some (vI x)) μ') (e : x = y) : Ret V d M As μ (some (vI y)) μ' := e ▸ h
theorem RetI.mono {V : VV} {d : Nat} {M : Mthd} {As : List AVal} {μ : Memo} {x : Int32} {P P' : Memo → Prop} (h : RetI V d M As μ x P) (hp : ∀ m, P m → P' m) : RetI V d M As μ x P' := Go.mono h (fun _ _ q => ⟨q.1, hp _ q.2⟩)
theorem RetU.mono {V : VV} {d : Nat} {M : Mthd} {As : List AVal} {μ : Memo} {P P' : Memo → Prop} (h : RetU V d M As μ P) (hp : ∀ m, P m → P' m) : RetU V d M As μ P' := Go.mono h (fun _ _ q => ⟨q.1, hp _ q.2⟩)
section CALLS3
variable {V : VV} {d : Nat} {M M' : Mthd} {pc idx n : Nat} {ls : List (Option AVal)} {μ μ' : Memo} {Q : Option AVal → Memo → Prop} {P : Memo → Prop}
theorem Go.callSx {x : Int32} (As rest : List AVal) {st : List AVal} (hd : decode M.2.1 pc = .ok (.invokestatic idx, 3)) (hk : LkS M.1.cls idx M' n) (hn : As.length = n) (hlen : (entL As).length ≤ M'.2.2.1) (hst : st = As.reverse ++ rest) (hrest : rest.length ≤ 4) (hc : RetI V d M' As μ x P) (k : ∀ m, P m → Go V (d + 1) M (pc + 3) ls (vI x :: rest) m Q) : Go V (d + 1) M pc ls st μ Q :=
  Go.callS As rest hd hk.1 hk.2.1 hk.2.2 hn hlen hst hrest (Go.mono hc (by rintro r m2 ⟨rfl, h⟩; exact k m2 h))
theorem Go.callSu (As rest : List AVal) {st : List AVal} (hd : decode M.2.1 pc = .ok (.invokestatic idx, 3)) (hk : LkS M.1.cls idx M' n) (hn : As.length = n) (hlen : (entL As).length ≤ M'.2.2.1) (hst : st = As.reverse ++ rest) (hrest : rest.length ≤ 4) (hc : RetU V d M' As μ P) (k : ∀ m, P m → Go V (d + 1) M (pc + 3) ls rest m Q) : Go V (d + 1) M pc ls st μ Q :=
  Go.callS As rest hd hk.1 hk.2.1 hk.2.2 hn hlen hst hrest (Go.mono hc (by rintro r m2 ⟨rfl, h⟩; exact k m2 h))
theorem Go.callVx {x : Int32} (o : Nat) (As rest : List AVal) {st : List AVal} (hd : decode M.2.1 pc = .ok (.invokevirtual idx, 3)) (hk : LkV M.1.cls idx M' n) (hrc : rcvOK o M'.1.cls) (hn : As.length = n) (hlen : (entL (vR o :: As)).length ≤ M'.2.2.1) (hst : st = As.reverse ++ vR o :: rest) (hrest : rest.length ≤ 4) (hc : RetI V d M' (vR o :: As) μ x P) (k : ∀ m, P m → Go V (d + 1) M (pc + 3) ls (vI x :: rest) m Q) : Go V (d + 1) M pc ls st μ Q :=
  Go.callV o As rest hd hk.1 hk.2.1 hk.2.2.1 hk.2.2.2 hrc hn hlen hst hrest (Go.mono hc (by rintro r m2 ⟨rfl, h⟩; exact k m2 h))
theorem Go.callVu (o : Nat) (As rest : List AVal) {st : List AVal} (hd : decode M.2.1 pc = .ok (.invokevirtual idx, 3)) (hk : LkV M.1.cls idx M' n) (hrc : rcvOK o M'.1.cls) (hn : As.length = n) (hlen : (entL (vR o :: As)).length ≤ M'.2.2.1) (hst : st = As.reverse ++ vR o :: rest) (hrest : rest.length ≤ 4) (hc : RetU V d M' (vR o :: As) μ P) (k : ∀ m, P m → Go V (d + 1) M (pc + 3) ls rest m Q) : Go V (d + 1) M pc ls st μ Q :=
  Go.callV o As rest hd hk.1 hk.2.1 hk.2.2.1 hk.2.2.2 hrc hn hlen hst hrest (Go.mono hc (by rintro r m2 ⟨rfl, h⟩; exact k m2 h))
theorem Go.mono_d {st : List AVal} {d2 : Nat} (h : Go V d M pc ls st μ Q) (hd : d ≤ d2) : Go V d2 M pc ls st μ Q :=
  fun p e R s m args below meth c H locs cs sl Z lc A hF hR hS hL hret => h p e R s m args below meth c H locs cs sl Z lc A hF ⟨Nat.le_trans hd hR.1, Nat.le_trans (Nat.mul_le_mul_left 40 hd) hR.2.1, hR.2.2⟩ hS hL hret
def lmask (bs : List Bool) (ls : List (Option AVal)) : List (Option AVal) := List.zipWith (fun b o => if b = true then o else none) bs ls
theorem lmask_get {bs : List Bool} {ls : List (Option AVal)} {i : Nat} {v : AVal} (h : (lmask bs ls)[i]? = some (some v)) : ls[i]? = some (some v) := by
  unfold lmask at h
  rw [List.getElem?_zipWith] at h
  cases hb : bs[i]? with
  | none => rw [hb] at h; cases h
  | some b =>
    cases ho : ls[i]? with
    | none => rw [hb, ho] at h; cases h
    | some o =>
      rw [hb, ho] at h
      cases b
      · cases h
      · exact h
theorem Go.mask {st : List AVal} {ls' : List (Option AVal)} (bs : List Bool) (hl : lmask bs ls = ls') (k : Go V d M pc ls' st μ Q) : Go V d M pc ls st μ Q := by
  intro p e R s m args below meth c H locs cs sl Z lc A hF hR hS hL hret
  refine k p e R s m args below meth c H locs cs sl Z lc A hF hR hS ⟨hL.1, hL.2.1, ?_⟩ hret
  rintro ⟨j, w⟩ hj
  obtain ⟨v, h1, rfl⟩ := toL_mem.mp hj
  subst hl
  exact hL.2.2 _ (toL_mem.mpr ⟨v, lmask_get h1, rfl⟩)
end CALLS3
/-- only the cells of X have changed -/
def Fr (X : List Nat) (μ μ' : Memo) : Prop := ∀ o, o ∉ X → μ' o = μ o
theorem Fr.rf (X : List Nat) (μ : Memo) : Fr X μ μ := fun _ _ => rfl
theorem Fr.trans {X : List Nat} {a b c : Memo} (h1 : Fr X a b) (h2 : Fr X b c) : Fr X a c := fun o ho => (h2 o ho).trans (h1 o ho)
theorem Fr.wide {X Y : List Nat} {a b : Memo} (h : Fr X a b) (hs : ∀ o, o ∈ X → o ∈ Y) : Fr Y a b := fun o ho => h o (fun q => ho (hs o q))
theorem Fr.mw {X : List Nat} {a b : Memo} (h : Fr X a b) {o : Nat} (f : Nat → Int32) (ho : o ∈ X) : Fr X a (mw b o f) := fun q hq => by
  rw [mw_ne b f (fun e => hq (by rw [e]; exact ho))]; exact h q hq
theorem Fr.ms {X : List Nat} {a b : Memo} (h : Fr X a b) {o : Nat} (j : Nat) (x : Int32) (ho : o ∈ X) : Fr X a (ms b o j x) := Fr.mw h _ ho
theorem ms_self (μ : Memo) (o j : Nat) (x : Int32) : ms μ o j x o = upd (μ o) j x := mw_self _ _ _
theorem ms_ne (μ : Memo) {o q : Nat} (j : Nat) (x : Int32) (h : q ≠ o) : ms μ o j x q = μ q := mw_ne _ _ h
theorem upd_self (f : Nat → Int32) (k : Nat) (x : Int32) : upd f k x k = x := by simp [upd]
theorem upd_ne (f : Nat → Int32) {k j : Nat} (x : Int32) (h : j ≠ k) : upd f k x j = f j := by simp [upd, h]
