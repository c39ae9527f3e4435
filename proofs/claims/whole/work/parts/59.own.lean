/-! ===== the law's own calls of the constructors ===== -/
section WC
variable {E : Ec} {d : Nat} {M M' : Mthd} {pc idx : Nat} {ws : va_W} {cs sl : Nat} {Q : va_W → Prop}
theorem Wctor {p : Program} {e : Env} {R : Room} {s : State} {m : MethodId} {args : Array Value} {below : List Frame} {meth : Method} {c : Code} {H : Heap} {locs : List Loc} {mc' ms' a : Nat} {Z : State → Prop} {lc : Array Slot} {A : Nat → Prop} {v : Value} (hF : FixC E p s m args meth c A M) (hR : d + 1 ≤ R.frames ∧ 40 * (d + 1) ≤ R.locals ∧ cs + mc' ≤ R.cells ∧ sl + ms' ≤ R.slots) (hS : StC E ws s H locs A) (hL : lc.size = M.2.2.1)
    (hd : decode M.2.1 pc = .ok (.invokespecial idx, 3)) (hw : Cond.methodLink M.1.cls idx M'.1 ∈ T0) (hi : Cond.instanceMethod M'.1 ∈ T0) (hnm : M'.1.name = "<init>") (hM : MthOK M' 0) (hM4 : M'.2.2.2 = none) (hlen : (entL [vR a]).length ≤ M'.2.2.1) (hv : v = .ref a)
    (k : Gc E d mc' ms' M' 0 (entF M' [vR a]) [] ws 0 0 Q)
    (kk : ∀ (ws' : va_W) (H1 : Heap) (locs1 : List Loc), Q ws' → StC E ws' s H1 locs1 A → W p E.1 e R s m args below meth c H1 locs1 (cs + mc') (sl + ms') Z (F0 m (pc + 3) lc [v])) : W p E.1 e R s m args below meth c H locs cs sl Z (F0 m pc lc [.ref a, v]) := by
  obtain ⟨b1, b2, b3, b4, b5, b6⟩ := callB_C (d := d) (mc := cs + mc') (ms := sl + ms') (mc' := mc') (ms' := ms') hM hF hR
  have hr := va_runI (As := []) (rest := [v]) (b := a) (own := M.1.cls) (Ts := T0) (index := idx) (y := M'.1) (bytes := M'.2.1) (maxL := M'.2.2.1) (n := 0) (p := p) (l := E.1) (e := e) (R := R) (s := s) (m := m) (args := args) (below := below) (meth := meth) (c := c) (H := H) (locs := locs) (cells := cs) (slots := sl) (g := F0 m pc lc [.ref a, v]) ⟨hF.1, hF.2.1, hF.2.2.1, hF.2.2.2.1, hF.2.2.2.2.1⟩ (met_c (sz := H.size) hM.2.2.2.2.2 hlen hM4 k) ⟨⟨b1, b2, b3, b4, b5, by rw [← hM4]; exact b6, by rw [← hM4]; exact hF.2.2.2.2.1 _ hM.1, hF.2.2.2.2.1 _ hM.2.1, hM.2.2.1, desc_n hM.2.2.2.1, hF.2.2.2.2.1 _ hw⟩, hnm, hF.2.2.2.2.1 _ hi⟩ ⟨preC_blind, preC_at hF hS _⟩ rfl rfl hL rfl (by subst hv; exact Nat.le_of_ble_eq_true rfl) hd ⟨hR.2.2.1, hR.2.2.2⟩
  exact callC hr hS.2.2 (freeC hF hS) kk
end WC
theorem WdE {w1 l2 : va_W} {y0 y : Nat × va_E} : Wd (w1 ++ [y0]) w1.length y l2 = w1 ++ y :: l2 := by
  unfold Wd
  rw [List.set_append_right _ _ (Nat.le_refl _), Nat.sub_self, List.append_assoc]; rfl
def adr (a0 a76 aS b : Nat) (ad r ad2 adK adV : Nat → Nat) : Nat → Nat := fun i => if i < 95 then (if 39 ≤ i ∧ i < 53 then r (i - 39) else if i = 0 then a0 else if i < 76 then ad i else if i = 76 then a76 else ad2 i) else if i = 200 then aS else if i < 207 then adK (i - 201) else if i < 217 then adV (i - 211) else b
theorem adr_r {a0 a76 aS b : Nat} {ad r ad2 adK adV : Nat → Nat} : ∀ i, i < 14 → adr a0 a76 aS b ad r ad2 adK adV (39 + i) = r i := by
  intro i hi
  unfold adr
  rw [if_pos (by omega), if_pos (by omega), Nat.add_sub_cancel_left]
theorem adr_K {a0 a76 aS b : Nat} {ad r ad2 adK adV : Nat → Nat} : ∀ i, i < 6 → adr a0 a76 aS b ad r ad2 adK adV (201 + i) = adK i := by
  intro i hi
  unfold adr
  rw [if_neg (by omega), if_neg (by omega), if_pos (by omega), Nat.add_sub_cancel_left]
theorem adr_V {a0 a76 aS b : Nat} {ad r ad2 adK adV : Nat → Nat} : ∀ i, i < 6 → adr a0 a76 aS b ad r ad2 adK adV (211 + i) = adV i := by
  intro i hi
  unfold adr
  rw [if_neg (by omega), if_neg (by omega), if_neg (by omega), if_pos (by omega), Nat.add_sub_cancel_left]
theorem rng14 : List.range 14 = [0, 1, 2, 3, 4, 5, 6, 7, 8, 9, 10, 11, 12, 13] := rfl
set_option maxRecDepth 20000 in
theorem flat95 {E : Ec} {a0 a76 aS b : Nat} {ad r ad2 adK adV : Nat → Nat} : ((a0, .inr (6, tiF ad)) :: tiL E ad r) ++ (a76, .inr (7, mdF ad2)) :: mdL E ad2 = fl95 E.2.2 (adr a0 a76 aS b ad r ad2 adK adV) r := by
  simp only [tiL, pLaw, pIsl, pTape, pRead, pSheet, pSlot, mdL, rng14, List.map_cons, List.map_nil, List.cons_append, List.nil_append, List.append_assoc]
  rfl
theorem lkL_i8 : Cond.methodLink RL 9 yX8_init ∈ T0 := T0_at 22 (by decide +kernel) (by decide +kernel)
theorem lkL_i9 : Cond.methodLink RL 12 yX9_init ∈ T0 := T0_at 906 (by decide +kernel) (by decide +kernel)
