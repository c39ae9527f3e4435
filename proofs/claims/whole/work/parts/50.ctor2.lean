/-! ===== constructors: what is made, and calls ===== -/
section GC2
variable {E : Ec} {d mc ms : Nat} {M M' : Mthd} {pc idx n : Nat} {ls : List (Option AVal)} {st : List AVal} {ws : va_W} {cs sl : Nat} {Q : va_W → Prop}
theorem Gc.new {ci N : Nat} {fs : List Value} (hd : decode M.2.1 pc = .ok (.new idx, 3)) (hci : ci < 8) (hN : (cT ci).2.2 = N) (hcl : Cond.classLink M.1.cls idx (cT ci).1 ∈ T0) (hinst : Cond.instantiable (cT ci).1 N ∈ T0) (hini : Cond.initialized (cT ci).1 ∈ T0) (hfs : ∀ j, j < N → defaultValue (cTy ci j) = vp_V fs j) (hc : cs + 1 ≤ mc) (hs : sl + N ≤ ms) (kk : ∀ q, Gc E d mc ms M (pc + 3) ls (vR q :: st) (ws ++ [(q, .inr (ci, fs))]) (cs + 1) (sl + N) Q) : Gc E d mc ms M pc ls st ws cs sl Q := by
  intro p e R s m args below meth c H locs Z lc A hF hR hS hL hret
  obtain ⟨c1, c2, c3, c4⟩ := cls_ok ci hci
  subst hN
  exact va_new (D := Dv (Vc E)) hF.1 hF.2.1 hF.2.2.2.2.1 c2 (cTy ci) c3 hF.2.2.2.1 (hF.2.2.2.2.1 _ hcl) (hF.2.2.2.2.1 _ hinst) (hF.2.2.2.2.1 _ hini) hF.2.2.2.2.2.1 hS.1 hS.2.1 hS.2.2 hF.2.2.2.2.2.2.1 c1 hfs (by omega) (by omega) hd (fun q H1 hP hD hS1 => kk q p e R s m args below meth c H1 locs Z lc A hF hR ⟨hP, hD, hS1⟩ hL hret)
theorem Gc.newq {C : String} {k N : Nat} {i : Int32} (hd : decode M.2.1 pc = .ok (.anewarray idx, 3)) (hk : (tysW (Vc E))[k]? = some (E.2.2 k, .object C)) (hao : ∀ s, XC s → va_AO C s) (hcl : Cond.classLink M.1.cls idx C ∈ T0) (hi : i = nI N) (hN : N ≤ 4000) (hc : cs + 1 ≤ mc) (hs : sl + N ≤ ms) (kk : ∀ q, Gc E d mc ms M (pc + 3) ls (vR q :: st) (ws ++ [(q, .inl (E.2.2 k, N, .inr (.inr (.inr (.inr (fun _ => none))))))]) (cs + 1) (sl + N) Q) : Gc E d mc ms M pc ls (vI i :: st) ws cs sl Q := by
  intro p e R s m args below meth c H locs Z lc A hF hR hS hL hret
  subst hi
  refine va_newq (D := Dv (Vc E)) (N' := N) hF.1 hF.2.1 hF.2.2.2.1 (hF.2.2.2.2.1 _ hcl) (hao s hF.2.2.2.2.2.2.2.1) hF.2.2.2.2.2.1 hS.1 hS.2.1 hS.2.2 hF.2.2.2.2.2.2.1 (by rw [sI_lt]; show ¬ (nI N).toInt < (nI 0).toInt; rw [nT, nT]; omega) (nI_clamp (by omega)) (by omega) (by omega) (by omega) hd (fun q cA H1 hK hP hD hS1 => ?_)
  have e : cA = E.2.2 k := by
    obtain ⟨kA, comp, -, -, -, h1⟩ := (hK.2 4 (cA, .object C) rfl).2
    obtain ⟨kB, comp2, -, -, -, h2⟩ := (hF.2.2.2.2.2.1.2 k (E.2.2 k, .object C) hk).2
    exact Option.some.inj (h1.symm.trans h2)
  subst e
  exact kk q p e R s m args below meth c H1 locs Z lc A hF hR ⟨hP, hD, hS1⟩ hL hret
theorem Gc.aastore {k a v ci N : Nat} {f : Nat → Option Nat} {i : Int32} {vs : List Value} {r : vw_C} (q0 qk j : Nat) (hd : decode M.2.1 pc = .ok (.aastore, 1)) (he : ws[q0]? = some (a, .inl (E.2.2 k, N, .inr (.inr (.inr (.inr f)))))) (hk : (tysW (Vc E))[k]? = some (E.2.2 k, .object r.1)) (hv : ws[qk]? = some (v, .inr (ci, vs))) (hc : clsW[ci]? = some r) (hN : N < 2 ^ 31) (hj : j < N) (hi : i = nI j) (kk : Gc E d mc ms M (pc + 1) ls st (ws.set q0 (a, .inl (E.2.2 k, N, .inr (.inr (.inr (.inr (va_up f j (some v)))))))) cs sl Q) : Gc E d mc ms M pc ls (vR v :: vI i :: vR a :: st) ws cs sl Q := by
  intro p e R s m args below meth c H locs Z lc A hF hR hS hL hret
  subst hi
  refine va_astq (D := Dv (Vc E)) hF.1 hF.2.1 hF.2.2.2.2.2.1 hS.1 hS.2.1 hS.2.2 q0 k qk ci he hk hv hc (vp_in_nI hj hN) hd (fun H1 locs1 hP hD hS1 => ?_)
  rw [nI_clamp (Nat.lt_trans hj hN)] at hP hD
  exact kk p e R s m args below meth c H1 locs1 Z lc A hF hR ⟨hP, hD, hS1⟩ hL hret
theorem Gc.obj {a : Nat} (hd : decode M.2.1 pc = .ok (.invokespecial idx, 3)) (hw : Cond.methodLink M.1.cls idx objectInit ∈ T0) (hi : Cond.instanceMethod objectInit ∈ T0) (hcd : Cond.code objectInit ⟨#[0xb1]⟩ 1 none ∈ T0) (hd1 : 1 ≤ d) (kk : Gc E d mc ms M (pc + 3) ls [] ws cs sl Q) : Gc E d mc ms M pc ls [vR a] ws cs sl Q := by
  intro p e R s m args below meth c H locs Z lc A hF hR hS hL hret
  exact W.objInit hF.1 hF.2.1 hF.2.2.2.1 (hF.2.2.2.2.1 _ hw) (hF.2.2.2.2.1 _ hi) (hF.2.2.2.2.1 _ hcd) rfl (by rw [hF.2.2.1]; exact hL.1) rfl hd (by omega) (by have := hR.2.1; show 2 * 0 + 0 + 12 ≤ R.locals; omega) (kk p e R s m args below meth c H locs Z lc A hF hR hS hL hret)
/-! calls -/
abbrev rmC (d mc ms : Nat) : Room := { frames := d, cells := mc, slots := ms, locals := 40 * d }
def PreC (E : Ec) (ws : va_W) (sz : Nat) (U : State) : Prop := U.heap.size = sz ∧ va_P (Dv (Vc E)) clsW ws U.heap ∧ va_K (Dv (Vc E)) clsW (tysW (Vc E)) U ∧ va_D (fun _ => True) ws ∧ XC U
def QgC (E : Ec) (Q : va_W → Prop) (A1 : Nat → Prop) : Array Value → State → Outcome → State → Prop := fun _ st oc t => (∃ ws' : va_W, oc = .returned none ∧ Q ws' ∧ va_P (Dv (Vc E)) clsW ws' t.heap ∧ va_D A1 ws') ∧ va_F A1 st t
theorem met_c {As : List AVal} {sz : Nat} (hn : plainName M.1.cls = true) (hlen : (entL As).length ≤ M.2.2.1) (hM4 : M.2.2.2 = none) (hG : Gc E d mc ms M 0 (entF M As) [] ws 0 0 Q) :
    Met E.1 M.1 (wsM M) (rmC d mc ms) (va_Pc (As.map (gv (Vc E).2.2)) (PreC E ws sz)) (QgC E Q (va_A ws sz)) mc ms (va_A ws sz) := by
  refine Met.ofW (cc := M.2.1) (maxL := M.2.2.1) (ret := M.2.2.2) hn rfl ?_
  intro p e s m args below meth c s₁ B hml hv
  obtain ⟨rfl, hsz, hP, hK, hD0, hX⟩ := hv
  have hts := atoms_spec (ws := wsM M) B.pre
  subst hsz
  have hl := lv_entry (As.map (gv (Vc E).2.2)) (n := M.2.2.1) (by rw [entL_len (Vc E) rfl]; exact hlen)
  rw [lg_entry_eq]
  refine hG p e _ s m _ below meth c s.heap [] _ _ (va_A ws s.heap.size) ⟨B.exec, B.bytes, hml, findClass_of_methodNamed B.named, fun w h => hts w (List.mem_cons_of_mem _ h), hK, fun q h => Or.inr h, hX, (name_of_methodNamed B.named B.method).1⟩ ⟨Nat.le_refl d, Nat.le_refl (40 * d), Nat.le_refl mc, Nat.le_refl ms⟩ ⟨hP, hD0.self, va_S.rf⟩ (entF_has (V := Vc E) rfl hl) ?_
  intro pc' H' locs' lc' ws' hQ hSt hdg
  have hlocks := B.notSynchronized
  exact W.vret B.exec B.bytes (B.returns.trans hM4) (fun t ht hW => ⟨⟨ws', rfl, hQ, by rw [ht]; exact hSt.1, hSt.2.1⟩, hSt.2.2.F ht⟩) hSt.2.2.2.2 hdg hlocks
theorem callC {p : Program} {e : Env} {R : Room} {s : State} {m : MethodId} {args : Array Value} {below : List Frame} {meth : Method} {c : Code} {H : Heap} {locs : List Loc} {mc' ms' : Nat} {Z : State → Prop} {lc : Array Slot} {st0 rest : List Value} {A A1 : Nat → Prop} {a : Array Value}
    (hr : va_Run p E.1 e R s m args below meth c H locs cs sl mc' ms' (F0 m pc lc st0) rest (QgC E Q A1 a) A1) (hS : va_S A s.heap H locs) (hA : ∀ q, A1 q → A q)
    (kk : ∀ (ws' : va_W) (H1 : Heap) (locs1 : List Loc), Q ws' → StC E ws' s H1 locs1 A → W p E.1 e R s m args below meth c H1 locs1 (cs + mc') (sl + ms') Z (F0 m (pc + 3) lc rest)) : W p E.1 e R s m args below meth c H locs cs sl Z (F0 m pc lc st0) := by
  intro T hT X
  obtain ⟨v, st₀, t, T', L, h0, X', hL, e1, e2, ⟨⟨ws', hv, hq, hp, hd⟩, hz, hk⟩, st⟩ := hr T hT X
  cases hv
  rw [h0] at hz hk
  obtain ⟨t2, a1, b1⟩ := kk ws' T'.heap (locs ++ L) hq ⟨by rw [e1]; exact hp, hd.weaken (fun _ q _ h => hA q.1 h),
    ⟨Nat.le_trans hS.1 (by rw [e1]; exact hz), fun q h1 h2 => by rw [e1, hk q (Nat.lt_of_lt_of_le h1 hS.1) (fun z => h2 (hA q z))]; exact hS.2.1 q h1 h2, fun q hq => by
      rcases List.mem_append.mp hq with h | h
      · exact hS.2.2 q h
      · exact hA _ (hL q h)⟩⟩ T' rfl X'
  exact ⟨t2, st t2 a1, b1⟩
theorem preC_blind {sz : Nat} {av : List Value} : FrameBlind (va_Pc av (PreC E ws sz)) := by
  intro a U g mk h
  obtain ⟨q0, q1, qP, qK, qD, qX⟩ := h
  exact ⟨q0, q1, qP, va_K.moved (u := U) (U := U.calling g mk a) (Vm.Alike.refl U.vm) qK, qD, XC.same (u := U) (U := U.calling g mk a) rfl qX⟩
theorem freeC {p : Program} {s : State} {m : MethodId} {args : Array Value} {meth : Method} {c : Code} {A : Nat → Prop} {H : Heap} {locs : List Loc} (hF : FixC E p s m args meth c A M) (hS : StC E ws s H locs A) : ∀ q, va_A ws H.size q → A q := by
  intro q h
  rcases h with ⟨k, e, h⟩ | h
  · exact hS.2.1.2 k (q, e) h
  · exact hF.2.2.2.2.2.2.1 q (Nat.le_trans hS.2.2.1 h)
theorem preC_at {p : Program} {s : State} {m : MethodId} {args : Array Value} {meth : Method} {c : Code} {A : Nat → Prop} {H : Heap} {locs : List Loc} (hF : FixC E p s m args meth c A M) (hS : StC E ws s H locs A) (av : List Value) :
    ∀ U : State, U.heap = H → s.WarmedH U.vm → va_Pc av (PreC E ws H.size) av.toArray U := by
  intro U hU hW
  exact ⟨rfl, by rw [hU], by rw [hU]; exact hS.1, va_K.moved hW.alike hF.2.2.2.2.2.1, hS.2.1.weaken (fun _ _ _ _ => trivial), hF.2.2.2.2.2.2.2.1.warm hW⟩
theorem callB_C {p : Program} {R : Room} {s : State} {m : MethodId} {args : Array Value} {meth : Method} {c : Code} {A : Nat → Prop} {mc' ms' : Nat} (hM : MthOK M' n) (hF : FixC E p s m args meth c A M) (hR : d + 1 ≤ R.frames ∧ 40 * (d + 1) ≤ R.locals ∧ mc ≤ R.cells ∧ ms ≤ R.slots) :
    (rmC d mc' ms').cells = mc' ∧ (rmC d mc' ms').slots = ms' ∧ (rmC d mc' ms').frames + 1 ≤ R.frames ∧ 8 + (M'.2.2.1 + 11) + (rmC d mc' ms').locals ≤ R.locals ∧ (∀ w ∈ wsM M', ∀ (a' : Array Value) (U : State), s.WarmedH U.vm → w.before a' U = true) ∧ Cond.code M'.1 M'.2.1 M'.2.2.1 M'.2.2.2 ∈ wsM M' := by
  obtain ⟨h1, h2, h3, h4, h5, h6⟩ := hM
  refine ⟨rfl, rfl, hR.1, ?_, ?_, List.mem_cons_self⟩
  · have := hR.2.1
    show 8 + (M'.2.2.1 + 11) + 40 * d ≤ R.locals
    omega
  · intro w hw a' U hW
    have hT : w ∈ T0 := by
      rcases List.mem_cons.mp hw with rfl | h
      · exact h1
      · exact h
    exact word_at hW (good_of_word (T0_in hT).2) (hF.2.2.2.2.1 w hT)
/-- a constructor that the tables link -/
theorem Gc.ctor {mc' ms' a : Nat} (As rest : List AVal) {st : List AVal} (hd : decode M.2.1 pc = .ok (.invokespecial idx, 3)) (hw : Cond.methodLink M.1.cls idx M'.1 ∈ T0) (hi : Cond.instanceMethod M'.1 ∈ T0) (hnm : M'.1.name = "<init>") (hM : MthOK M' n) (hM4 : M'.2.2.2 = none) (hn : As.length = n) (hlen : (entL (vR a :: As)).length ≤ M'.2.2.1) (hst : st = As.reverse ++ vR a :: rest) (hrest : rest.length ≤ 4) (hc : cs + mc' ≤ mc) (hs : sl + ms' ≤ ms)
    (k : Gc E d mc' ms' M' 0 (entF M' (vR a :: As)) [] ws 0 0 (fun ws' => Gc E (d + 1) mc ms M (pc + 3) ls rest ws' (cs + mc') (sl + ms') Q)) : Gc E (d + 1) mc ms M pc ls st ws cs sl Q := by
  intro p e R s m args below meth c H locs Z lc A hF hR hS hL hret
  subst hst
  rw [List.map_append, List.map_reverse]
  obtain ⟨b1, b2, b3, b4, b5, b6⟩ := callB_C (d := d) (mc' := mc') (ms' := ms') hM hF hR
  have hr := va_runI (As := As.map (gv (Vc E).2.2)) (rest := rest.map (gv (Vc E).2.2)) (b := a) (own := M.1.cls) (Ts := T0) (index := idx) (y := M'.1) (bytes := M'.2.1) (maxL := M'.2.2.1) (n := n) (p := p) (l := E.1) (e := e) (R := R) (s := s) (m := m) (args := args) (below := below) (meth := meth) (c := c) (H := H) (locs := locs) (cells := cs) (slots := sl) (g := F0 m pc lc ((As.map (gv (Vc E).2.2)).reverse ++ .ref a :: rest.map (gv (Vc E).2.2))) ⟨hF.1, hF.2.1, hF.2.2.1, hF.2.2.2.1, hF.2.2.2.2.1⟩ (met_c (sz := H.size) hM.2.2.2.2.2 hlen hM4 k) ⟨⟨b1, b2, b3, b4, b5, by rw [← hM4]; exact b6, by rw [← hM4]; exact hF.2.2.2.2.1 _ hM.1, hF.2.2.2.2.1 _ hM.2.1, hM.2.2.1, desc_n hM.2.2.2.1, hF.2.2.2.2.1 _ hw⟩, hnm, hF.2.2.2.2.1 _ hi⟩ ⟨preC_blind, preC_at hF hS _⟩ rfl (by rw [List.length_map]; exact hn) hL.1 rfl (lv_room (cat_le (V := Vc E) hrest)) hd ⟨by omega, by omega⟩
  exact callC hr hS.2.2 (freeC hF hS) (fun ws' H1 locs1 hq hSt => hq p e R s m args below meth c H1 locs1 Z lc A hF hR hSt hL hret)
/-- a nest mate's constructor -/
theorem Gc.ctorN {mc' ms' a : Nat} (As rest : List AVal) {st : List AVal} (hd : decode M.2.1 pc = .ok (.invokespecial idx, 3)) (hw : ∀ s, XC s → va_Nw (.methodLinkNest M.1.cls idx M'.1 RX8) s) (hi : Cond.instanceMethod M'.1 ∈ T0) (hnm : M'.1.name = "<init>") (hM : MthOK M' n) (hM4 : M'.2.2.2 = none) (hn : As.length = n) (hlen : (entL (vR a :: As)).length ≤ M'.2.2.1) (hst : st = As.reverse ++ vR a :: rest) (hrest : rest.length ≤ 4) (hc : cs + mc' ≤ mc) (hs : sl + ms' ≤ ms)
    (k : Gc E d mc' ms' M' 0 (entF M' (vR a :: As)) [] ws 0 0 (fun ws' => Gc E (d + 1) mc ms M (pc + 3) ls rest ws' (cs + mc') (sl + ms') Q)) : Gc E (d + 1) mc ms M pc ls st ws cs sl Q := by
  intro p e R s m args below meth c H locs Z lc A hF hR hS hL hret
  subst hst
  rw [List.map_append, List.map_reverse]
  have hb := callB_C (d := d) (mc' := mc') (ms' := ms') hM hF hR
  rw [hM4] at hb
  have hr := va_runIN (As := As.map (gv (Vc E).2.2)) (rest := rest.map (gv (Vc E).2.2)) (b := a) (own := M.1.cls) (host := RX8) (Ts := T0) (index := idx) (y := M'.1) (bytes := M'.2.1) (maxL := M'.2.2.1) (n := n) (p := p) (l := E.1) (e := e) (R := R) (s := s) (m := m) (args := args) (below := below) (meth := meth) (c := c) (H := H) (locs := locs) (cells := cs) (slots := sl) (g := F0 m pc lc ((As.map (gv (Vc E).2.2)).reverse ++ .ref a :: rest.map (gv (Vc E).2.2))) ⟨hF.1, hF.2.1, hF.2.2.1, hF.2.2.2.1, hF.2.2.2.2.1⟩ (met_c (sz := H.size) hM.2.2.2.2.2 hlen hM4 k) ⟨⟨hb, by rw [← hM4]; exact hF.2.2.2.2.1 _ hM.1, hF.2.2.2.2.1 _ hM.2.1, hM.2.2.1, desc_n hM.2.2.2.1, va_Nw.use rfl (hw s hF.2.2.2.2.2.2.2.1)⟩, hnm, hF.2.2.2.2.1 _ hi⟩ ⟨preC_blind, preC_at hF hS _⟩ rfl (by rw [List.length_map]; exact hn) hL.1 rfl (lv_room (cat_le (V := Vc E) hrest)) hd ⟨by omega, by omega⟩
  exact callC hr hS.2.2 (freeC hF hS) (fun ws' H1 locs1 hq hSt => hq p e R s m args below meth c H1 locs1 Z lc A hF hR hSt hL hret)
theorem Gc.callS {mc' ms' : Nat} (As rest : List AVal) {st : List AVal} (hd : decode M.2.1 pc = .ok (.invokestatic idx, 3)) (hw : Cond.methodLink M.1.cls idx M'.1 ∈ T0) (hi : Cond.static M'.1 ∈ T0) (hM : MthOK M' n) (hM4 : M'.2.2.2 = none) (hn : As.length = n) (hlen : (entL As).length ≤ M'.2.2.1) (hst : st = As.reverse ++ rest) (hrest : rest.length ≤ 4) (hc : cs + mc' ≤ mc) (hs : sl + ms' ≤ ms)
    (k : Gc E d mc' ms' M' 0 (entF M' As) [] ws 0 0 (fun ws' => Gc E (d + 1) mc ms M (pc + 3) ls rest ws' (cs + mc') (sl + ms') Q)) : Gc E (d + 1) mc ms M pc ls st ws cs sl Q := by
  intro p e R s m args below meth c H locs Z lc A hF hR hS hL hret
  subst hst
  rw [List.map_append, List.map_reverse]
  obtain ⟨b1, b2, b3, b4, b5, b6⟩ := callB_C (d := d) (mc' := mc') (ms' := ms') hM hF hR
  have hr := va_runS (As := As.map (gv (Vc E).2.2)) (rest := rest.map (gv (Vc E).2.2)) (own := M.1.cls) (Ts := T0) (index := idx) (y := M'.1) (bytes := M'.2.1) (maxL := M'.2.2.1) (ret := M'.2.2.2) (n := n) (p := p) (l := E.1) (e := e) (R := R) (s := s) (m := m) (args := args) (below := below) (meth := meth) (c := c) (H := H) (locs := locs) (cells := cs) (slots := sl) (g := F0 m pc lc ((As.map (gv (Vc E).2.2)).reverse ++ rest.map (gv (Vc E).2.2))) ⟨hF.1, hF.2.1, hF.2.2.1, hF.2.2.2.1, hF.2.2.2.2.1⟩ (met_c (sz := H.size) hM.2.2.2.2.2 hlen hM4 k) ⟨⟨b1, b2, b3, b4, b5, b6, hF.2.2.2.2.1 _ hM.1, hF.2.2.2.2.1 _ hM.2.1, hM.2.2.1, desc_n hM.2.2.2.1, hF.2.2.2.2.1 _ hw⟩, hF.2.2.2.2.1 _ hi⟩ ⟨preC_blind, preC_at hF hS _⟩ rfl (by rw [List.length_map]; exact hn) hL.1 rfl (lv_room (cat_le (V := Vc E) hrest)) hd ⟨by omega, by omega⟩
  exact callC hr hS.2.2 (freeC hF hS) (fun ws' H1 locs1 hq hSt => hq p e R s m args below meth c H1 locs1 Z lc A hF hR hSt hL hret)
end GC2
