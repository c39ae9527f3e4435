/-! ===== calls: a callee's Go is a contract of it ===== -/
abbrev wsM (M : Mthd) : List Cond := Cond.code M.1 M.2.1 M.2.2.1 M.2.2.2 :: T0
abbrev rmW (d : Nat) : Room := { frames := d, cells := 0, slots := 0, locals := 40 * d }
def PreW (V : VV) (μ : Memo) (sz : Nat) (U : State) : Prop := U.heap.size = sz ∧ va_P (Dv V) clsW (cel V μ) U.heap ∧ va_K (Dv V) clsW (tysW V) U ∧ va_D (fun _ => True) (cel V μ) ∧ ROW V (va_A (cel V μ) sz) U U.heap
def QgW (V : VV) (Q : Option AVal → Memo → Prop) (A1 : Nat → Prop) : Array Value → State → Outcome → State → Prop := fun _ st oc t => (∃ (r : Option AVal) (μ' : Memo), oc = .returned (r.map (gv V.2.2)) ∧ Q r μ' ∧ va_P (Dv V) clsW (cel V μ') t.heap) ∧ va_F A1 st t
theorem met_of {V : VV} {d : Nat} {M : Mthd} {As : List AVal} {μ : Memo} {Q : Option AVal → Memo → Prop} {sz : Nat} (hq : V.2.2.2.2.2.2.category = 1) (hn : plainName M.1.cls = true) (hlen : (entL As).length ≤ M.2.2.1) (hG : Go V d M 0 (entF M As) [] μ Q) :
    Met V.1 M.1 (wsM M) (rmW d) (va_Pc (As.map (gv V.2.2)) (PreW V μ sz)) (QgW V Q (va_A (cel V μ) sz)) 0 0 (va_A (cel V μ) sz) := by
  refine Met.ofW (cc := M.2.1) (maxL := M.2.2.1) (ret := M.2.2.2) hn rfl ?_
  intro p e s m args below meth c s₁ B hml hv
  obtain ⟨rfl, hsz, hP, hK, hD0, hRO⟩ := hv
  have hts := atoms_spec (ws := wsM M) B.pre
  subst hsz
  have hl := lv_entry (As.map (gv V.2.2)) (n := M.2.2.1) (by rw [entL_len V hq]; exact hlen)
  rw [lg_entry_eq]
  refine hG p e _ s m _ below meth c s.heap [] 0 0 _ _ (va_A (cel V μ) s.heap.size) ⟨B.exec, B.bytes, hml, findClass_of_methodNamed B.named, fun w h => hts w (List.mem_cons_of_mem _ h), hK, fun q h => Or.inr h, hRO⟩ ⟨Nat.le_refl d, Nat.le_refl (40 * d), Nat.le_refl 0, Nat.le_refl 0⟩ ⟨hP, hD0.self, va_S.rf⟩ (entF_has hq hl) ?_
  intro pc' H' locs' lc' r μ' hQ hSt hRet
  have hlocks := B.notSynchronized
  rcases hRet with ⟨x, ty, rfl, hdg, hty, hnar⟩ | ⟨rfl, hdg, hty⟩ | ⟨i, n, rfl, hdg, hty⟩
  · exact W.zret (ty := ty) B.exec B.bytes (B.returns.trans hty) hnar (fun t ht hW => ⟨⟨some (vI x), μ', rfl, hQ, by rw [ht]; exact hSt.1⟩, hSt.2.2.F ht⟩) hSt.2.2.2.2 hdg hlocks
  · exact W.vret B.exec B.bytes (B.returns.trans hty) (fun t ht hW => ⟨⟨none, μ', rfl, hQ, by rw [ht]; exact hSt.1⟩, hSt.2.2.F ht⟩) hSt.2.2.2.2 hdg hlocks
  · exact W.aret (v := .ref (V.2.2.1 i)) B.exec B.bytes (B.returns.trans hty) (Or.inl ⟨n, rfl⟩) (Or.inr ⟨_, rfl⟩) (fun t ht hW => ⟨⟨some (vR i), μ', rfl, hQ, by rw [ht]; exact hSt.1⟩, hSt.2.2.F ht⟩) hSt.2.2.2.2 hdg hlocks
theorem callG {V : VV} {p : Program} {e : Env} {R : Room} {s : State} {m : MethodId} {args : Array Value} {below : List Frame} {meth : Method} {c : Code} {H : Heap} {locs : List Loc} {cs sl : Nat} {Z : State → Prop} {pc : Nat} {lc : Array Slot} {st0 rest : List Value} {Q : Option AVal → Memo → Prop} {A A1 : Nat → Prop} {a : Array Value}
    (hr : va_Run p V.1 e R s m args below meth c H locs cs sl 0 0 (F0 m pc lc st0) rest (QgW V Q A1 a) A1) (hS : va_S A s.heap H locs) (hA : ∀ q, A1 q → A q)
    (kk : ∀ (r : Option AVal) (μ' : Memo) (H1 : Heap) (locs1 : List Loc), Q r μ' → va_P (Dv V) clsW (cel V μ') H1 → va_S A s.heap H1 locs1 → W p V.1 e R s m args below meth c H1 locs1 cs sl Z (F0 m (pc + 3) lc ((r.map (gv V.2.2)).toList ++ rest))) : W p V.1 e R s m args below meth c H locs cs sl Z (F0 m pc lc st0) := by
  intro T hT X
  obtain ⟨v, st₀, t, T', L, h0, X', hL, e1, e2, ⟨⟨r, μ', hv, hq, hp⟩, hz, hk⟩, st⟩ := hr T hT X
  cases hv
  rw [h0] at hz hk
  obtain ⟨t2, a1, b1⟩ := kk r μ' T'.heap (locs ++ L) hq (by rw [e1]; exact hp)
    ⟨Nat.le_trans hS.1 (by rw [e1]; exact hz), fun q h1 h2 => by rw [e1, hk q (Nat.lt_of_lt_of_le h1 hS.1) (fun z => h2 (hA q z))]; exact hS.2.1 q h1 h2, fun q hq => by
      rcases List.mem_append.mp hq with h | h
      · exact hS.2.2 q h
      · exact hA _ (hL q h)⟩ T' rfl X'
  exact ⟨t2, st t2 a1, b1⟩
theorem preW_blind {V : VV} {μ : Memo} {sz : Nat} {av : List Value} : FrameBlind (va_Pc av (PreW V μ sz)) := by
  intro a U g mk h
  obtain ⟨q0, q1, qP, qK, qD, qR⟩ := h
  exact ⟨q0, q1, qP, va_K.moved (u := U) (U := U.calling g mk a) (Vm.Alike.refl U.vm) qK, qD, ROW.same (u := U) (U := U.calling g mk a) rfl qR⟩
theorem freeW {V : VV} {μ : Memo} {p : Program} {s : State} {m : MethodId} {args : Array Value} {c : Code} {A : Nat → Prop} {M : Mthd} {H : Heap} {locs : List Loc} (hF : FixW V p s m args c A M) (hS : StW V μ s H locs A) : ∀ q, va_A (cel V μ) H.size q → A q := by
  intro q h
  rcases h with ⟨k, e, h⟩ | h
  · exact hS.2.1.2 k (q, e) h
  · exact hF.2.2.2.2.2.2.1 q (Nat.le_trans hS.2.2.1 h)
theorem preW_at {V : VV} {μ : Memo} {p : Program} {s : State} {m : MethodId} {args : Array Value} {c : Code} {A : Nat → Prop} {M : Mthd} {H : Heap} {locs : List Loc} (hF : FixW V p s m args c A M) (hS : StW V μ s H locs A) (av : List Value) :
    ∀ U : State, U.heap = H → s.WarmedH U.vm → va_Pc av (PreW V μ H.size) av.toArray U := by
  intro U hU hW
  refine ⟨rfl, by rw [hU], by rw [hU]; exact hS.1, va_K.moved hW.alike hF.2.2.2.2.2.1, hS.2.1.weaken (fun _ _ _ _ => trivial), ?_⟩
  rw [hU]
  exact hF.2.2.2.2.2.2.2.warm hW hS.2.2.2.1 (freeW hF hS)
section CALLS
variable {V : VV} {d : Nat} {M M' : Mthd} {pc idx n : Nat} {ls : List (Option AVal)} {rest : List AVal} {μ : Memo} {Q : Option AVal → Memo → Prop} {As : List AVal}
/-- what the tables say of a callee -/
def MthOK (M' : Mthd) (n : Nat) : Prop := Cond.code M'.1 M'.2.1 M'.2.2.1 M'.2.2.2 ∈ T0 ∧ Cond.initialized M'.1.cls ∈ T0 ∧ (M'.1.cls ≠ "java/lang/invoke/MethodHandle" ∧ M'.1.cls ≠ "java/lang/invoke/VarHandle") ∧ (parseMethodDescriptor M'.1.desc).map (fun d => d.parameters.length) = some n ∧ M'.2.2.1 ≤ 20 ∧ plainName M'.1.cls = true
theorem callB_W {p : Program} {R : Room} {s : State} {m : MethodId} {args : Array Value} {c : Code} {A : Nat → Prop} {cs sl : Nat} (hM : MthOK M' n) (hF : FixW V p s m args c A M) (hR : d + 1 ≤ R.frames ∧ 40 * (d + 1) ≤ R.locals ∧ cs ≤ R.cells ∧ sl ≤ R.slots) :
    (rmW d).cells = 0 ∧ (rmW d).slots = 0 ∧ (rmW d).frames + 1 ≤ R.frames ∧ 8 + (M'.2.2.1 + 11) + (rmW d).locals ≤ R.locals ∧ (∀ w ∈ wsM M', ∀ (a' : Array Value) (U : State), s.WarmedH U.vm → w.before a' U = true) ∧ Cond.code M'.1 M'.2.1 M'.2.2.1 M'.2.2.2 ∈ wsM M' := by
  obtain ⟨h1, h2, h3, h4, h5, h6⟩ := hM
  refine ⟨rfl, rfl, hR.1, ?_, ?_, List.mem_cons_self⟩
  · have := hR.2.1
    show 8 + (M'.2.2.1 + 11) + 40 * d ≤ R.locals
    omega
  · intro w hw a' U hW
    have hT : w ∈ T0 := by
      rcases List.mem_cons.mp hw with rfl | h
      · exact h1
      · exact h
    exact word_at hW (good_of_word (T0_in hT).2) (hF.2.2.2.2.1 w hT)
theorem desc_n {y : MethodName} (h : (parseMethodDescriptor y.desc).map (fun d => d.parameters.length) = some n) : ∀ sig, parseMethodDescriptor y.desc = some sig → n = sig.parameters.length := by
  intro sig hs
  rw [hs] at h
  exact (Option.some.inj h).symm
theorem kont {p : Program} {e : Env} {R : Room} {s : State} {m : MethodId} {args : Array Value} {below : List Frame} {meth : Method} {c : Code} {H : Heap} {locs : List Loc} {cs sl : Nat} {Z : State → Prop} {lc : Array Slot} {A : Nat → Prop} {r : Option AVal} {μ' : Memo}
    (hG : Go V (d + 1) M (pc + 3) ls (r.toList ++ rest) μ' Q) (hF : FixW V p s m args c A M) (hR : d + 1 ≤ R.frames ∧ 40 * (d + 1) ≤ R.locals ∧ cs ≤ R.cells ∧ sl ≤ R.slots) (hD : va_D A (cel V μ)) (hP : va_P (Dv V) clsW (cel V μ') H) (hS : va_S A s.heap H locs) (hL : lv_has lc M.2.2.1 (toL V ls))
    (hret : ∀ (pc' : Nat) (H' : Heap) (locs' : List Loc) (lc' : Array Slot) (r : Option AVal) (μ' : Memo), Q r μ' → StW V μ' s H' locs' A → RetW M pc' r → W p V.1 e R s m args below meth c H' locs' cs sl Z (F0 m pc' lc' (r.toList.map (gv V.2.2)))) :
    W p V.1 e R s m args below meth c H locs cs sl Z (F0 m (pc + 3) lc ((r.map (gv V.2.2)).toList ++ rest.map (gv V.2.2))) := by
  have h := hG p e R s m args below meth c H locs cs sl Z lc A hF hR ⟨hP, cel_D hD, hS⟩ hL hret
  have he : (r.toList ++ rest).map (gv V.2.2) = (r.map (gv V.2.2)).toList ++ rest.map (gv V.2.2) := by
    cases r <;> rfl
  rw [he] at h
  exact h
theorem Go.callS (As rest : List AVal) {st : List AVal} (hd : decode M.2.1 pc = .ok (.invokestatic idx, 3)) (hw : Cond.methodLink M.1.cls idx M'.1 ∈ T0) (hs : Cond.static M'.1 ∈ T0) (hM : MthOK M' n) (hn : As.length = n) (hlen : (entL As).length ≤ M'.2.2.1) (hst : st = As.reverse ++ rest) (hrest : rest.length ≤ 4)
    (k : Go V d M' 0 (entF M' As) [] μ (fun r μ' => Go V (d + 1) M (pc + 3) ls (r.toList ++ rest) μ' Q)) : Go V (d + 1) M pc ls st μ Q := by
  intro p e R s m args below meth c H locs cs sl Z lc A hF hR hS hL hret
  subst hst
  rw [List.map_append, List.map_reverse]
  obtain ⟨b1, b2, b3, b4, b5, b6⟩ := callB_W (d := d) hM hF hR
  refine callG (va_runS (As := As.map (gv V.2.2)) (rest := rest.map (gv V.2.2)) (own := M.1.cls) (Ts := T0) (index := idx) (y := M'.1) (bytes := M'.2.1) (maxL := M'.2.2.1) (ret := M'.2.2.2) (n := n) ⟨hF.1, hF.2.1, hF.2.2.1, hF.2.2.2.1, hF.2.2.2.2.1⟩ (met_of (sz := H.size) hF.2.2.2.2.2.2.2.2.1.2.2 hM.2.2.2.2.2 hlen k) ⟨⟨b1, b2, b3, b4, b5, b6, hF.2.2.2.2.1 _ hM.1, hF.2.2.2.2.1 _ hM.2.1, hM.2.2.1, desc_n hM.2.2.2.1, hF.2.2.2.2.1 _ hw⟩, hF.2.2.2.2.1 _ hs⟩ ⟨preW_blind, preW_at hF hS _⟩ rfl (by rw [List.length_map]; exact hn) hL.1 rfl (lv_room (cat_le hrest)) hd ⟨hR.2.2.1, hR.2.2.2⟩) hS.2.2 (freeW hF hS) ?_
  intro r μ' H1 locs1 hq hP hS1
  exact kont hq hF hR hS.2.1 hP hS1 hL hret
theorem Go.callN (As rest : List AVal) {st : List AVal} (hd : decode M.2.1 pc = .ok (.invokestatic 90, 3)) (hMc : M.1.cls = RX1) (hM1 : M'.1 = yX8_hold) (hs : Cond.static M'.1 ∈ T0) (hM : MthOK M' n) (hn : As.length = n) (hlen : (entL As).length ≤ M'.2.2.1) (hst : st = As.reverse ++ rest) (hrest : rest.length ≤ 4)
    (k : Go V d M' 0 (entF M' As) [] μ (fun r μ' => Go V (d + 1) M (pc + 3) ls (r.toList ++ rest) μ' Q)) : Go V (d + 1) M pc ls st μ Q := by
  intro p e R s m args below meth c H locs cs sl Z lc A hF hR hS hL hret
  subst hst
  rw [List.map_append, List.map_reverse]
  have hNw := hF.2.2.2.2.2.2.2.2.2.2.1
  rw [← hMc, ← hM1] at hNw
  refine callG (va_runSN (As := As.map (gv V.2.2)) (rest := rest.map (gv V.2.2)) (own := M.1.cls) (host := RX8) (Ts := T0) (index := 90) (y := M'.1) (bytes := M'.2.1) (maxL := M'.2.2.1) (ret := M'.2.2.2) (n := n) ⟨hF.1, hF.2.1, hF.2.2.1, hF.2.2.2.1, hF.2.2.2.2.1⟩ (met_of (sz := H.size) hF.2.2.2.2.2.2.2.2.1.2.2 hM.2.2.2.2.2 hlen k) ⟨⟨callB_W (d := d) hM hF hR, hF.2.2.2.2.1 _ hM.1, hF.2.2.2.2.1 _ hM.2.1, hM.2.2.1, desc_n hM.2.2.2.1, va_Nw.use rfl hNw⟩, hF.2.2.2.2.1 _ hs, trivial⟩ ⟨preW_blind, preW_at hF hS _⟩ rfl (by rw [List.length_map]; exact hn) hL.1 rfl (lv_room (cat_le hrest)) hd ⟨hR.2.2.1, hR.2.2.2⟩) hS.2.2 (freeW hF hS) ?_
  intro r μ' H1 locs1 hq hP hS1
  exact kont hq hF hR hS.2.1 hP hS1 hL hret
/-- the receiver's class -/
def rcvOK (o : Nat) (C : String) : Prop := (∃ ci fs q, lay[o]? = some (0, ci, fs) ∧ clsW[ci]? = some q ∧ q.1 = C) ∨ ∃ q, q < 6 ∧ o = 201 + q ∧ C = "java/lang/String"
theorem Go.callV (o : Nat) (As rest : List AVal) {st : List AVal} (hd : decode M.2.1 pc = .ok (.invokevirtual idx, 3)) (hw : Cond.methodLink M.1.cls idx M'.1 ∈ T0) (hi : Cond.instanceMethod M'.1 ∈ T0) (hsel : Cond.selects M'.1.cls M'.1 M'.1 ∈ T0) (hM : MthOK M' n) (hrc : rcvOK o M'.1.cls) (hn : As.length = n) (hlen : (entL (vR o :: As)).length ≤ M'.2.2.1) (hst : st = As.reverse ++ vR o :: rest) (hrest : rest.length ≤ 4)
    (k : Go V d M' 0 (entF M' (vR o :: As)) [] μ (fun r μ' => Go V (d + 1) M (pc + 3) ls (r.toList ++ rest) μ' Q)) : Go V (d + 1) M pc ls st μ Q := by
  intro p e R s m args below meth c H locs cs sl Z lc A hF hR hS hL hret
  subst hst
  rw [List.map_append, List.map_reverse]
  obtain ⟨b1, b2, b3, b4, b5, b6⟩ := callB_W (d := d) hM hF hR
  have hrecv : ∃ cellB : Cell, H[V.2.2.1 o]? = some cellB ∧ cellB.vm.isStatics = false ∧ s.vm.findClass M'.1.cls = some cellB.cls := by
    rcases hrc with ⟨ci, fs, q, h1, h2, h3⟩ | ⟨q, h1, rfl, h3⟩
    · have := va_recv hF.2.2.2.2.2.1 hS.1 h2 (cel_get V μ h1)
      rw [h3] at this
      exact this
    · rw [h3]
      exact vk_recv (adK := fun i => V.2.2.1 (201 + i)) (i := q) hF.2.2.2.2.2.2.2.2.2.1.1 h1 hS.2.2
  refine callG (va_runV (As := As.map (gv V.2.2)) (rest := rest.map (gv V.2.2)) (b := V.2.2.1 o) (C := M'.1.cls) (own := M.1.cls) (Ts := T0) (index := idx) (y := M'.1) (bytes := M'.2.1) (maxL := M'.2.2.1) (ret := M'.2.2.2) (n := n) ⟨hF.1, hF.2.1, hF.2.2.1, hF.2.2.2.1, hF.2.2.2.2.1⟩ (met_of (sz := H.size) hF.2.2.2.2.2.2.2.2.1.2.2 hM.2.2.2.2.2 hlen k) ⟨⟨b1, b2, b3, b4, b5, b6, hF.2.2.2.2.1 _ hM.1, hF.2.2.2.2.1 _ hM.2.1, hM.2.2.1, desc_n hM.2.2.2.1, hF.2.2.2.2.1 _ hw⟩, hF.2.2.2.2.1 _ hi, hF.2.2.2.2.1 _ hsel⟩ ⟨preW_blind, hrecv, preW_at hF hS _⟩ rfl (by rw [List.length_map]; exact hn) hL.1 rfl (lv_room (cat_le hrest)) hd ⟨hR.2.2.1, hR.2.2.2⟩) hS.2.2 (freeW hF hS) ?_
  intro r μ' H1 locs1 hq hP hS1
  exact kont hq hF hR hS.2.1 hP hS1 hL hret
end CALLS
