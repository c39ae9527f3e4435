/-! THE CLAIM OUT OF ONE WALK OF THE LAW'S BODY. Your part is whole_start (and what it stands on); all else here is the same for every law, but numbers. -/
def R_law : String := "TideIslandLaw"
def lw_P (b : Addr) (xs : List Int32) (args : Array Value) (s : State) : Prop := args = #[.ref b] ∧ s.IntsAt b xs ∧ xs.length ≤ 384 ∧ (Jvm.Cond.and given_1 narrow_1).before args s = true
def lw_Q (_ : Array Value) (s : State) (o : Outcome) (t : State) : Prop := o = .returned (some (.int 1)) ∧ Framed s o t [] 600000 7302250
def lw_Z (below : List Frame) (a : Array Value) (s : State) : State → Prop := fun t => ∃ o, t.status = .running ∧ Ended t below o ∧ lw_Q a s o t
/-- the law's own end, with 1 on the stack, nothing written that was there before, its room as the claim has it -/
theorem lw_ret {p : Program} {l : Launch} {e : Env} {s : State} {m : MethodId} {below : List Frame} {meth : Method} {c : Code} {b : Nat} (hx : p.tables.exec = Jvm.exec) (hb : c.code = code) (hr : meth.sig.returnType = ret) (hlocks : meth.locks = false) {pc : Nat} {H : Heap} {ls : Array Slot} (hdg : decode code pc = .ok (.ireturn, 1)) : W p l e room_1 s m #[Value.ref b] below meth c H [] 600000 7302250 (lw_Z below #[Value.ref b] s) (F0 m pc ls [.int 1]) := by
  intro T hT X
  obtain ⟨fs, hret, hrun, hended, hW, hframe⟩ := X.leave (v := some (.int 1)) (hlocks := hlocks) (fun h => by rw [hr] at h; cases h)
  have hmeth' : T.vm.method? m = some meth := X.method'
  refine ⟨T.setFrames fs, ?_, .returned (some (.int 1)), hrun, hended, rfl, ⟨_, rfl⟩, hW, hframe⟩
  jvm_step X.here [X.here.top, hx, hb, hdg, hmeth', hr, ret, narrow_b1]
  (try refine ⟨rfl, ?_⟩); (try refine ⟨rfl, ?_⟩)
  first | (intro acts; rw [hret _ acts rfl rfl rfl]) | rw [hret _ _ rfl rfl rfl]
  exact Steps.refl _
/-- what holds at the law's entry: the machine, the code, the tables' words (any of lw_tbl by 'hts w (by decide +kernel)'), the script of L ints xs at the cell b, what the Statement gives of the start (any of its parts by flat_of_before) -/
def lw_At (p : Program) (s : State) (m : MethodId) (meth : Method) (c : Code) (b L : Nat) (xs : Nat → Int32) : Prop :=
  p.tables.exec = Jvm.exec ∧ c.code = code ∧ meth.sig.returnType = ret ∧ c.maxLocals = 4 ∧ s.vm.findClass R_law = some m.cls ∧ (∀ w ∈ lw_tbl, w.before #[Value.ref b] s = true) ∧ va_X b L xs s s.heap ∧ b < s.heap.size ∧ meth.locks = false ∧ (Jvm.Cond.and given_1 narrow_1).before #[Value.ref b] s = true
-- ===== YOUR PART BEGINS =====
theorem whole_start {p : Program} {e : Env} {s : State} {m : MethodId} {below : List Frame} {meth : Method} {c : Code} (l : Launch) (hflags : l.flags = flags0) {b L : Nat} {xs : Nat → Int32} (hL : L ≤ 384) (C0 : lw_At p s m meth c b L xs) : W p l e room_1 s m #[Value.ref b] below meth c s.heap [] 0 0 (lw_Z below #[Value.ref b] s) (entryFrame m ([Value.ref b] : List Value).toArray 4) := by
  obtain ⟨hx, hb, hr, hml, hown, hts, hX, hbl, hlocks, hgv⟩ := id C0
  obtain ⟨aS, adK, adV, fm, hROW⟩ := start_row hts hX hbl hgv
  obtain ⟨D, cA, hK⟩ := start_K hts
  have hT0 : ∀ w ∈ T0, w.before #[Value.ref b] s = true := fun w hw => hts w (T0_in hw).1
  have hF : FixC (l, D, cA) p s m #[Value.ref b] meth c (fun q => s.heap.size ≤ q) (⟨RL, meth.name, ""⟩, cL_law, 4, some .boolean) := ⟨hx, hb, hml, hown, hT0, hK, fun _ h => h, start_XC hts, rfl⟩
  have hA : ∀ q : Nat, s.heap.size ≤ q → (fun q : Nat => s.heap.size ≤ q) q := fun _ h => h
  have hS : va_S (fun q : Nat => s.heap.size ≤ q) s.heap s.heap [] := va_S.rf
  have hP : va_P D clsW [] s.heap := fun k q h => by simp at h
  have hD : va_D (fun q : Nat => s.heap.size ≤ q) [] := ⟨fun i j p q h => by simp at h, fun k q h => by simp at h⟩
  have hl := lv_entry ([.ref b]) (n := 4) (Nat.le_of_ble_eq_true rfl)
  rw [lg_entry_eq]
  generalize (lg_sl ([.ref b]) ++ List.replicate (4 - (lg_sl ([.ref b])).length) Slot.unset).toArray = lc at hl ⊢
  have hl : lv_has lc 4 [(0, .ref b)] := hl
  obtain ⟨c1, c2, c3, c4⟩ := cls_ok 6 (by decide)
  refine va_new (D := D) (ci := 6) (fs := [.null, .null, .null, .null, .null, .null, .null, .null, .null, .int 0, .int 0]) (N := 11) hx hb hT0 c2 (cTy 6) c3 hown (hT0 (.classLink RL 7 (cT 6).1) (T0_at 20 (by decide +kernel) (by decide +kernel))) (hT0 (.instantiable (cT 6).1 11) (T0_at 21 (by decide +kernel) (by decide +kernel))) (hT0 (.initialized (cT 6).1) (T0_at 1 (by decide +kernel) (by decide +kernel))) hK hP hD hS hA c1 (by decide) (Nat.le_of_ble_eq_true rfl) (Nat.le_of_ble_eq_true rfl) dL_law_0 (fun a0 H1 hP1 hD1 hS1 => ?_)
  refine lv_dup hx hb dL_law_3 rfl ?_
  refine Wctor (E := (l, D, cA)) (d := 3) (M := (⟨RL, meth.name, ""⟩, cL_law, 4, some .boolean)) (M' := mX8_init) (mc' := 75) (ms' := 2606) (ws := [(a0, .inr (6, [.null, .null, .null, .null, .null, .null, .null, .null, .null, .int 0, .int 0]))]) hF ⟨Nat.le_of_ble_eq_true rfl, Nat.le_of_ble_eq_true rfl, Nat.le_of_ble_eq_true rfl, Nat.le_of_ble_eq_true rfl⟩ ⟨hP1, hD1, hS1⟩ hl.1 dL_law_4 lkL_i8 inX8_init rfl okX8_init rfl (Nat.le_of_ble_eq_true rfl) rfl (k_X8 (d := 0) (k := 0) rfl) ?_
  rintro w1 H2 locs2 ⟨ad, r, rfl⟩ ⟨hP2, hD2, hS2⟩
  refine lv_astore_n hx hb dL_law_7 rfl hl (by decide) rfl (fun lc2 hl2 => ?_)
  have hl2 : lv_has lc2 4 [(1, .ref a0), (0, .ref b)] := hl2
  generalize hw1 : Wd [(a0, .inr (6, [.null, .null, .null, .null, .null, .null, .null, .null, .null, .int 0, .int 0]))] 0 (a0, .inr (6, tiF ad)) (tiL (l, D, cA) ad r) = w1 at hP2 hD2
  obtain ⟨e1, e2, e3, e4⟩ := cls_ok 7 (by decide)
  refine va_new (D := D) (ci := 7) (fs := [.null, .null, .null, .int 0, .null, .null, .null, .null, .null, .null, .null, .null, .null, .null, .int 0, .int 0, .int 0, .int 0, .int 0, .int 0, .int 0, .int 0, .int 0, .int 0, .int 0, .null, .null, .null, .null, .int 0, .null]) (N := 31) hx hb hT0 e2 (cTy 7) e3 hown (hT0 (.classLink RL 10 (cT 7).1) (T0_at 904 (by decide +kernel) (by decide +kernel))) (hT0 (.instantiable (cT 7).1 31) (T0_at 905 (by decide +kernel) (by decide +kernel))) (hT0 (.initialized (cT 7).1) (T0_at 9 (by decide +kernel) (by decide +kernel))) hK hP2 hD2 hS2 hA e1 (by decide) (Nat.le_of_ble_eq_true rfl) (Nat.le_of_ble_eq_true rfl) dL_law_8 (fun a76 H3 hP3 hD3 hS3 => ?_)
  refine lv_dup hx hb dL_law_11 rfl ?_
  refine Wctor (E := (l, D, cA)) (d := 1) (M := (⟨RL, meth.name, ""⟩, cL_law, 4, some .boolean)) (M' := mX9_init) (mc' := 18) (ms' := 10161) hF ⟨Nat.le_of_ble_eq_true rfl, Nat.le_of_ble_eq_true rfl, Nat.le_of_ble_eq_true rfl, Nat.le_of_ble_eq_true rfl⟩ ⟨hP3, hD3, hS3⟩ hl2.1 dL_law_12 lkL_i9 inX9_init rfl okX9_init rfl (Nat.le_of_ble_eq_true rfl) rfl (k_X9 (d := 0) (k := w1.length) (by rw [List.getElem?_append_right (Nat.le_refl _), Nat.sub_self]; rfl)) ?_
  rintro w2 H4 locs4 ⟨ad2, rfl⟩ ⟨hP4, hD4, hS4⟩
  refine lv_astore_n hx hb dL_law_15 rfl hl2 (by decide) rfl (fun lc3 hl3 => ?_)
  have hl3 : lv_has lc3 4 [(2, .ref a76), (1, .ref a0), (0, .ref b)] := hl3
  refine lv_iconst (v := nI 0) hx hb dL_law_16 rfl ?_
  refine lv_istore_n hx hb dL_law_17 rfl hl3 (by decide) rfl (fun lc4 hl4 => ?_)
  have hl4 : lv_has lc4 4 [(3, .int (nI 0)), (2, .ref a76), (1, .ref a0), (0, .ref b)] := hl4
  rw [WdE, ← hw1] at hP4 hD4
  have hfl := flat95 (E := (l, D, cA)) (a0 := a0) (a76 := a76) (aS := aS) (b := b) (ad := ad) (r := r) (ad2 := ad2) (adK := adK) (adV := adV)
  have hw : Wd [(a0, .inr (6, [.null, .null, .null, .null, .null, .null, .null, .null, .null, .int 0, .int 0]))] 0 (a0, .inr (6, tiF ad)) (tiL (l, D, cA) ad r) = (a0, .inr (6, tiF ad)) :: tiL (l, D, cA) ad r := rfl
  rw [hw, hfl] at hP4 hD4
  have hlen95 : ∀ μ, (cel (mkV l L xs (adr a0 a76 aS b ad r ad2 adK adV) D cA fm) μ).length = 95 := fun μ => by rw [cel_len]; rfl
  have hP5 : va_P (Dv (mkV l L xs (adr a0 a76 aS b ad r ad2 adK adV) D cA fm)) clsW (cel (mkV l L xs (adr a0 a76 aS b ad r ad2 adK adV) D cA fm) mu0) H4 := hP4.by pos95 (cel95 adr_r)
  have hD5 : va_D (fun q : Nat => s.heap.size ≤ q) (cel (mkV l L xs (adr a0 a76 aS b ad r ad2 adK adV) D cA fm) mu0) := hD4.by pos95 (cel95 adr_r) (fun i j hi hj he => pos95_inj i (by rw [hlen95] at hi; exact hi) j (by rw [hlen95] at hj; exact hj) he)
  have hG := law_lp (V := mkV l L xs (adr a0 a76 aS b ad r ad2 adK adV) D cA fm) (d := 0) hL (L + 1) 0 mu0 (Nat.lt_succ_of_le (Nat.sub_le L 0)) (by omega) sim0
  refine hG p e room_1 s m #[Value.ref b] below meth c H4 locs4 _ _ _ lc4 (fun q : Nat => s.heap.size ≤ q) ⟨hx, hb, hml, hown, hT0, hK, hA, hROW (mkV l L xs (adr a0 a76 aS b ad r ad2 adK adV) D cA fm) rfl rfl adr_K adr_V rfl rfl⟩ ⟨Nat.le_of_ble_eq_true rfl, Nat.le_of_ble_eq_true rfl, Nat.le_of_ble_eq_true rfl, Nat.le_of_ble_eq_true rfl⟩ ⟨hP5, hD5, hS4⟩ ⟨hl4.1, hl4.2.1, ?_⟩ ?_
  · rintro ⟨j, w⟩ hj
    obtain ⟨v, h1, h2⟩ := toL_mem.mp hj
    match j, h1 with
    | 0, h1 => cases h1; rw [h2]; exact hl4.2.2 (0, .ref b) (List.mem_cons_of_mem _ (List.mem_cons_of_mem _ (List.mem_cons_of_mem _ List.mem_cons_self)))
    | 1, h1 => cases h1; rw [h2]; exact hl4.2.2 (1, .ref a0) (List.mem_cons_of_mem _ (List.mem_cons_of_mem _ List.mem_cons_self))
    | 2, h1 => cases h1; rw [h2]; exact hl4.2.2 (2, .ref a76) (List.mem_cons_of_mem _ List.mem_cons_self)
    | 3, h1 => cases h1; rw [h2]; exact hl4.2.2 (3, .int (nI 0)) List.mem_cons_self
    | j + 4, h1 => simp at h1
  · rintro pc' H' locs' lc' rr μ' rfl hSt hRet
    rcases hRet with ⟨x, ty, he, hdg, -, -⟩ | ⟨he, -⟩ | ⟨i, n, he, -⟩
    · exact W.widen (k := 600000) (n := 7302250) (Nat.le_of_ble_eq_true rfl) (Nat.le_of_ble_eq_true rfl) (va_forget (fun q hq => hSt.2.2.2.2 q hq) (lw_ret hx hb hr hlocks hdg))
    · cases he
    · cases he
-- ===== YOUR PART ENDS =====
set_option maxHeartbeats 4000000 in
theorem lw_walk (l : Launch) (hflags : l.flags = flags0) (b : Addr) (xs : List Int32) : MetFree l x (headSpec (Jvm.Cond.code x code maxLocals ret :: tables_1) room_1) (lw_P b xs) (fun _ _ _ _ _ => True) lw_Q := by
  refine MetFree.of_bodyS (code := code) (maxLocals := maxLocals) (ret := ret) (by decide) ?_ ?_
  · intro args s m h hn
    obtain ⟨meth, c, h1, h2, h3, h4, h5, h6, -, -⟩ := Cond.code_spec hn (atoms_spec (ws := Jvm.Cond.code x code maxLocals ret :: tables_1) h _ List.mem_cons_self)
    exact ⟨meth, c, h1, h2, h3, h4, h5, h6⟩
  · intro p e s m args below meth c s₁ B hml0 hP _
    obtain ⟨rfl, hx, hbd, hgv⟩ := hP
    obtain ⟨scr, harrAt, hlist, hof, hsmall⟩ := hx
    obtain ⟨hcb, hkn, -, -⟩ := State.arrayAt?_spec harrAt
    have hown : s.vm.findClass R_law = some m.cls := findClass_of_methodNamed B.named
    have hts0 : ∀ c ∈ (Jvm.Cond.code x code maxLocals ret :: tables_1), c.before #[Value.ref b] s = true := atoms_spec (ws := Jvm.Cond.code x code maxLocals ret :: tables_1) B.pre
    have hts : ∀ w ∈ lw_tbl, w.before #[Value.ref b] s = true := k2_hts_sels lw_privs (fun w hw => hts0 w (List.mem_cons_of_mem _ hw)) lw_privs_ok
    have hml : c.maxLocals = 4 := B.maxLocals_eq (hts0 _ List.mem_cons_self)
    have X₀ : Stand p l e room_1 s m #[Value.ref b] below meth c s₁ [] 0 0 := Stand.of_body B
    have hh0 : s₁.heap = s.heap := by rw [B.state]; rfl
    have hsz : scr.slots.size = xs.length := by rw [← Array.length_toList, hlist, List.length_map]
    have hval : ∀ j : Nat, j < xs.length → scr.slots[j]? = some (.int (xs.getD j 0)) := fun j hj => by
      rw [← Array.getElem?_toList, hlist]
      simp [hj]
    have hbl : b < s.heap.size := (Array.getElem?_eq_some_iff.mp hcb).1
    have hX : va_X b xs.length (fun j => xs.getD j 0) s s.heap := ⟨scr, hcb, hof, hkn, hsz, hval⟩
    have K : W p l e room_1 s m #[Value.ref b] below meth c s₁.heap [] 0 0 (lw_Z below #[Value.ref b] s) (entryFrame m ([Value.ref b] : List Value).toArray 4) := by
      rw [hh0]
      exact whole_start l hflags hbd ⟨B.exec, B.bytes, B.returns, hml, hown, hts, hX, hbl, B.notSynchronized, hgv⟩
    obtain ⟨t, a1, o, b1, b2, b3⟩ := K s₁ rfl X₀
    exact ⟨t, o, a1, b1, b2, b3⟩
theorem lw_pre_spec {args : Array Value} {s : State} (h : (Jvm.Cond.and given_1 narrow_1).before args s = true) (hr : rest_1_c.before args s = true) : ∃ (b : Addr) (xs : List Int32), lw_P b xs args s := by
  have hs := flat_of_before _ h
  have hq := flat_of_before _ hr
  have hc : (Cond.count 1).before args s = true := hs _ (by decide +kernel)
  have harr : (Cond.arrayOf (.arg 0) .int).before args s = true := hs _ (by decide +kernel)
  have hle : (Cond.le (.length (.arg 0)) (.int 384)).before args s = true := hs _ (by decide +kernel)
  have hlen : (Cond.isInt (.length (.arg 0))).before args s = true := hq _ (by decide +kernel)
  have hall : (Cond.all (.arg 0) (.isInt (.elem (.arg 0) (.index 0)))).before args s = true := hq _ (by decide +kernel)
  obtain ⟨b, xs, hb, hx⟩ := State.ints_of_pre rfl harr hlen hall
  have hsm : xs.length < 2 ^ 31 := hx.choose_spec.2.2.2
  have hev : (Term.length (.arg 0)).eval args s none [] s = some (.int xs.length.toInt32) := hx.length_eval hb
  have hv := Cond.le_ints hev (show (Term.int 384).eval args s none [] s = some (.int 384) from rfl)
  have hd : xs.length.toInt32 ≤ 384 := by
    simpa [Cond.before, Cond.holds, hv] using hle
  have hN : xs.length ≤ 384 := (Int32.ofNat_le_ofNat hsm (by decide)).mp (show Int32.ofNat xs.length ≤ Int32.ofNat 384 from hd)
  exact ⟨b, xs, Cond.one_arg hc (show args[0]? = some (.ref b) from hb), hx, hN, h⟩
theorem lw_comes (l : Launch) (hflags : l.flags = flags0) : Comes l x (Jvm.Cond.code x code maxLocals ret :: tables_1) room_1 (fun tb e args s => Calls_1 tb e args s ∧ rest_1 tb e args s ∧ Pre_1 tb e args s)
    (fun _ _ args s o t => lw_Q args s o t) := by
  intro p e ha hc hk s m args below hf hfit hheap happ hpre
  obtain ⟨b, xs, hP⟩ := lw_pre_spec hpre.2.2 hpre.2.1
  obtain ⟨k, o, h1, h2, h3, hQ⟩ := lw_walk l hflags b xs p e ha hc hk s m args below hf ((Spec.applies_iff_loose hf).mp happ).1 hP trivial
  exact ⟨k, o, h1, h2, h3, hQ⟩
theorem lw_frame {s t : State} {o : Outcome} {args : Array Value} (h : Framed s o t [] 600000 7302250) :
    Framed s o t (fieldLocs frame_1_writes args s ++ arrayLocs frame_1_arrays args s ++ staticLocs frame_1_statics s) 600000 7302250 := h
theorem lw_limb (L : Cond) (hL : ∀ (args : Array Value) (s t : State), L.after args s (.returned (some (.int 1))) t = true) :
    ArmFor flags0 classFile x code maxLocals ret World_1 tables_1 room_1 Calls_1 rest_1 Pre_1
      (fun tb e a s o t => postC L tb e a s o t ∧ Framed s o t (fieldLocs frame_1_writes a s ++ arrayLocs frame_1_arrays a s ++ staticLocs frame_1_statics s) 600000 7302250) := by
  intro l hflags _ _ p e ha hc hk s m args below hf hfit hheap happ hpre
  obtain ⟨k, o, h1, h2, h3, rfl, hF⟩ := lw_comes l hflags p e ha hc hk s m args below hf hfit hheap happ hpre
  exact ⟨k, _, h1, h2, h3, hL args s _, lw_frame hF⟩
theorem i_vc : Claimed_1_1 ∧ Claimed_1_2 := ⟨lw_limb limb_1_1 (fun args s t => by simp [limb_1_1, Cond.after, Cond.holds, Cond.value]), lw_limb limb_1_2 (fun args s t => Cond.after_iff.mpr (by
  first | (rw [show limb_1_2 = Cond.eq .result (.int 1) from rfl, Cond.eq_ints (x := 1) (y := 1) rfl rfl]; simp; done) | (simp [limb_1_2, Cond.value, Term.eval]; done)))⟩
