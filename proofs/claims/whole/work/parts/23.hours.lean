/-! ===== states that go on ===== -/
def FB (B : Nat) : List Nat := [1, 6, B, B + 1, B + 2, B + 3, B + 4, B + 5, B + 6, B + 7]
def TS (s s' : Nat → Int32) : Prop := s' 1 = s 1 ∧ ∀ j, 147 ≤ j → s' j = s j
def CI (B : Nat) (μ0 μ : Memo) (s0 s : Nat → Int32) : Prop := Isl B μ s ∧ Txr μ s ∧ TxtsOK s ∧ IsOK s ∧ TS s0 s ∧ Fr (FB B) μ0 μ
def FM : List Nat := [77, 88, 90, 91]
def MI (μ0 μ : Memo) (s : Nat → Int32) : Prop := μ 77 = s ∧ Fr FM μ0 μ
theorem MI.st {μ0 μ : Memo} {s : Nat → Int32} (h : MI μ0 μ s) (j : Nat) (x : Int32) : MI μ0 (ms μ 77 j x) (upd s j x) := ⟨by rw [ms_self, h.1], h.2.ms _ _ (by decide)⟩
theorem MI.fr {μ0 μ μ' : Memo} {s : Nat → Int32} (h : MI μ0 μ s) (k : Fr [90, 91] μ μ') : MI μ0 μ' s := ⟨(k 77 (by decide)).trans h.1, h.2.trans (k.wide (by decide))⟩
theorem MI.eq {μ0 μ : Memo} {s s' : Nat → Int32} (h : MI μ0 μ s) (e : s = s') : MI μ0 μ s' := e ▸ h
theorem FB_no {B o : Nat} (hB : isB B) (h : (2 ≤ o ∧ o ≤ 5) ∨ (31 ≤ o)) : o ∉ FB B := by
  simp only [FB, List.mem_cons, List.not_mem_nil, or_false]
  rcases hB with rfl | rfl | rfl <;> omega
theorem Txr.frB {B : Nat} {μ μ' : Memo} {s : Nat → Int32} (h : Txr μ s) (hB : isB B) (k : Fr (FB B) μ μ') : Txr μ' s :=
  h.same (k 2 (FB_no hB (by omega))) (k 3 (FB_no hB (by omega))) (k 4 (FB_no hB (by omega))) (fun t _ => k _ (FB_no hB (by omega)))
theorem CI.fr {B : Nat} {μ0 μ μ' : Memo} {s0 s : Nat → Int32} (h : CI B μ0 μ s0 s) (hB : isB B) (k : Fr [1, 6] μ μ') : CI B μ0 μ' s0 s := by
  obtain ⟨h1, h2, h3, h4, h5, h6⟩ := h
  exact ⟨h1.fr hB k, h2.fr h3.1 k, h3, h4, h5, h6.trans (k.wide (by simp only [FB, List.mem_cons, List.not_mem_nil, or_false]; omega))⟩
theorem CI.nw {B : Nat} {μ0 μ μ' : Memo} {s0 s s' : Nat → Int32} (h : CI B μ0 μ s0 s) (hB : isB B) (h1 : Isl B μ' s') (h2 : IsOK s') (h3 : TS s s') (h4 : Fr (FB B) μ μ') : CI B μ0 μ' s0 s' := by
  obtain ⟨_, k2, k3, _, k5, k6⟩ := h
  exact ⟨h1, (k2.frB hB h4).text k3 h3.1 h3.2, k3.same h3.1 h3.2, h2, ⟨h3.1.trans k5.1, fun j hj => (h3.2 j hj).trans (k5.2 j hj)⟩, k6.trans h4⟩
theorem TS.u {s : Nat → Int32} {j : Nat} (x : Int32) (h1 : j ≠ 1) (h2 : j < 147) : TS s (upd s j x) := ⟨upd_ne _ _ (by omega), fun i hi => upd_ne _ _ (by omega)⟩
theorem FBm {B i : Nat} (h : i ≤ 7) : B + i ∈ FB B := by
  simp only [FB, List.mem_cons, List.not_mem_nil, or_false]; omega
theorem CI.h8 {B : Nat} {μ0 μ : Memo} {s0 s : Nat → Int32} (h : CI B μ0 μ s0 s) : nH s ≤ 8 := h.2.2.2.1.2.2.2.1
theorem CI.kind {B : Nat} {μ0 μ : Memo} {s0 s : Nat → Int32} (h : CI B μ0 μ s0 s) (hB : isB B) {c : Nat} (hc : c < 30) {x : Int32} (hx : ∃ q, q < 6 ∧ x = nI q) : CI B μ0 (ms μ (B + 1) c x) s0 (upd s (11 + 4 * c) x) := by
  obtain ⟨q, hq, rfl⟩ := hx
  exact h.nw hB (h.1.kind hc h.h8 _) (h.2.2.2.1.kind hc hq) (TS.u _ (by omega) (by omega)) ((Fr.rf _ _).ms _ _ (FBm (by decide)))
theorem CI.height {B : Nat} {μ0 μ : Memo} {s0 s : Nat → Int32} (h : CI B μ0 μ s0 s) (hB : isB B) {c : Nat} (hc : c < 30) (x : Int32) : CI B μ0 (ms μ (B + 2) c x) s0 (upd s (11 + 4 * c + 1) x) :=
  h.nw hB (h.1.height hc h.h8 _) (h.2.2.2.1.height hc _) (TS.u _ (by omega) (by omega)) ((Fr.rf _ _).ms _ _ (FBm (by decide)))
theorem CI.corn {B : Nat} {μ0 μ : Memo} {s0 s : Nat → Int32} (h : CI B μ0 μ s0 s) (hB : isB B) {c : Nat} (hc : c < 30) {x : Int32} (hx : 0 ≤ x.toInt ∧ x.toInt ≤ 99) : CI B μ0 (ms μ (B + 3) c x) s0 (upd s (11 + 4 * c + 2) x) :=
  h.nw hB (h.1.corn hc h.h8 _) (h.2.2.2.1.corn hc hx) (TS.u _ (by omega) (by omega)) ((Fr.rf _ _).ms _ _ (FBm (by decide)))
theorem CI.owner {B : Nat} {μ0 μ : Memo} {s0 s : Nat → Int32} (h : CI B μ0 μ s0 s) (hB : isB B) {c : Nat} (hc : c < 30) {x y : Int32} (e : y = oN x) (hx : x = (-1) ∨ ∃ k, k < 8 ∧ x = nI k) : CI B μ0 (ms μ (B + 4) c y) s0 (upd s (11 + 4 * c + 3) x) :=
  h.nw hB (h.1.owner hc h.h8 e) (h.2.2.2.1.owner hc hx) (TS.u _ (by omega) (by omega)) ((Fr.rf _ _).ms _ _ (FBm (by decide)))
theorem CI.water {B : Nat} {μ0 μ : Memo} {s0 s : Nat → Int32} (h : CI B μ0 μ s0 s) (hB : isB B) {j : Nat} (hj : j < 6) (x : Int32) : CI B μ0 (ms μ (B + 5) j x) s0 (upd s (5 + j) x) :=
  h.nw hB (h.1.water hj _) (h.2.2.2.1.low _ (by omega) (by omega)) (TS.u _ (by omega) (by omega)) ((Fr.rf _ _).ms _ _ (FBm (by decide)))
theorem CI.place {B : Nat} {μ0 μ : Memo} {s0 s : Nat → Int32} (h : CI B μ0 μ s0 s) (hB : isB B) {j : Nat} (hj : j < nH s) {x y : Int32} (e : y = oN x) (hx : x = (-1) ∨ ∃ c, c < 30 ∧ x = nI c) : CI B μ0 (ms μ (B + 7) j y) s0 (upd s (131 + 2 * j + 1) x) :=
  h.nw hB (h.1.place hj h.h8 e) (h.2.2.2.1.place hj hx) (TS.u _ (by omega) (by have := h.h8; omega)) ((Fr.rf _ _).ms _ _ (FBm (by decide)))
theorem CI.z {B : Nat} {μ0 μ : Memo} {s0 s : Nat → Int32} (h : CI B μ0 μ s0 s) (hB : isB B) (x : Int32) : CI B μ0 (ms μ B 10 x) s0 (upd s 4 x) :=
  h.nw hB (h.1.z _) (h.2.2.2.1.low _ (by omega) (by omega)) (TS.u _ (by omega) (by omega)) ((Fr.rf _ _).ms _ _ (FBm (i := 0) (by decide)))
theorem CI.lost {B : Nat} {μ0 μ : Memo} {s0 s : Nat → Int32} (h : CI B μ0 μ s0 s) (hB : isB B) (x : Int32) : CI B μ0 (ms μ B 9 x) s0 (upd s 3 x) :=
  h.nw hB (h.1.lost _) (h.2.2.2.1.low _ (by omega) (by omega)) (TS.u _ (by omega) (by omega)) ((Fr.rf _ _).ms _ _ (FBm (i := 0) (by decide)))
theorem CI.hour {B : Nat} {μ0 μ : Memo} {s0 s : Nat → Int32} (h : CI B μ0 μ s0 s) (hB : isB B) (x : Int32) : CI B μ0 (ms μ B 8 x) s0 (upd s 2 x) :=
  h.nw hB (h.1.hour _) (h.2.2.2.1.low _ (by omega) (by omega)) (TS.u _ (by omega) (by omega)) ((Fr.rf _ _).ms _ _ (FBm (i := 0) (by decide)))
/-! what an hour does, as numbers -/
def drw (s : Nat → Int32) : Nat → Int32 := upd s 4 (zN (s 4))
def drv (s : Nat → Int32) : Int32 := iush (zN (s 4)) (nI 8)
def dealC (s : Nat → Int32) (c : Nat) : Nat → Int32 :=
  let s1 := upd (drw s) (11 + 4 * c) (irm (drv s) (nI 6))
  let s2 := upd (drw s1) (11 + 4 * c + 1) (irm (drv s1) (nI 21))
  upd (upd (drw s2) (11 + 4 * c + 3) (if irm (drv s2) (nI 9) = nI 8 then (-1) else irm (drv s2) (nI 9))) (11 + 4 * c + 2) (nI 0)
def dealL (s : Nat → Int32) (k : Nat) : Nat → Nat → Int32
  | 0 => s
  | j + 1 => dealL (dealC s k) (k + 1) j
def growC (s : Nat → Int32) (set : Int32) (c : Nat) : Nat → Int32 :=
  if isOfP (s (11 + 4 * c)) (nI 1) then upd s (11 + 4 * c + 2) (if bt set c = true then wiF (s (11 + 4 * c + 2) + growF s c) (nI 99) else nI 0) else s
def growL (s : Nat → Int32) (set : Int32) (k : Nat) : Nat → Nat → Int32
  | 0 => s
  | j + 1 => growL (growC s set k) set (k + 1) j
def moveC (s : Nat → Int32) (set : Int32) (h : Nat) : Nat → Int32 :=
  if s (131 + 2 * h + 1) = (-1) then s else
  if bt set (s (131 + 2 * h + 1)).toNatClampNeg = true then s else
  match fbF set (s (131 + 2 * h + 1)).toNatClampNeg 4 0 with
  | some q => upd s (131 + 2 * h + 1) (nI q)
  | none => upd (upd s (131 + 2 * h + 1) (-1)) 3 (s 3 + s (131 + 2 * h))
def moveL (s : Nat → Int32) (set : Int32) (k : Nat) : Nat → Nat → Int32
  | 0 => s
  | j + 1 => moveL (moveC s set k) set (k + 1) j
def stormS (s : Nat → Int32) : Nat → Int32 := upd (drw s) 8 (wiF (if s 9 ≤ irm (drv s) (nI 100) then s 8 - nI 1 else s 8 + nI 1) (nI 9))
def hourE (s : Nat → Int32) : Nat → Int32 := if irm (s 2) (nI 12) = 0 then stormS s else s
def hourF (s : Nat → Int32) : Nat → Int32 :=
  let s1 := growL s (dryF s (nI 0)) 0 30
  let s2 := moveL s1 (dryF s (nI 0)) 0 (nH s1)
  let s3 := hourE s2
  upd s3 2 (s3 2 + nI 1)
theorem upd_id (s : Nat → Int32) (j : Nat) : upd s j (s j) = s := by
  funext i; by_cases h : i = j
  · subst h; exact upd_self _ _ _
  · exact upd_ne _ _ h
theorem add_n1 (a : Int32) : a + (-1) = a - nI 1 := by
  rw [sI_eq, tI_add, tI_sub, nT, tI_n1]; omega
theorem add_0I (a : Int32) : a + nI 0 = a := by
  rw [sI_eq, tI_add, nT]; have := rngI a; omega
theorem wi_rng (a : Int32) : 0 ≤ (wiF a (nI 99)).toInt ∧ (wiF a (nI 99)).toInt ≤ 99 := by
  unfold wiF
  split
  · decide
  · split
    · decide
    · rename_i h1 h2
      simp only [sI_lt, nT, Int32.toInt_zero] at h1 h2; omega
theorem gr_rng (s : Nat → Int32) (c : Nat) : 0 ≤ (growF s c).toInt ∧ (growF s c).toInt ≤ 9 := by
  unfold growF
  split
  · decide
  · unfold wiF
    split
    · decide
    · split
      · decide
      · rename_i h1 h2
        simp only [sI_lt, nT, Int32.toInt_zero] at h1 h2; omega
theorem gr_min {a b : Int32} (ha : 0 ≤ a.toInt ∧ a.toInt ≤ 99) (hb : 0 ≤ b.toInt ∧ b.toInt ≤ 9) : minI (nI 99) (a + b) = wiF (a + b) (nI 99) := by
  unfold minI wiF
  have := tI_add a b
  rw [if_neg (show ¬ a + b < 0 by rw [sI_lt, Int32.toInt_zero]; omega)]
  split <;> split <;> first | rfl | (simp only [sI_lt, sI_le, nT] at *; rw [sI_eq, nT]; omega)
theorem moveC_0 (s : Nat → Int32) (set : Int32) (h : Nat) : moveC s set h 0 = s 0 := by
  unfold moveC
  split
  · rfl
  · split
    · rfl
    · cases fbF set (s (131 + 2 * h + 1)).toNatClampNeg 4 0 with
      | some q => exact upd_ne _ _ (by omega)
      | none => show upd _ _ _ 0 = s 0; rw [upd_ne _ _ (by omega), upd_ne _ _ (by omega)]
theorem moveC_nH (s : Nat → Int32) (set : Int32) (h : Nat) : nH (moveC s set h) = nH s := nH_same (moveC_0 s set h)
theorem growC_0 (s : Nat → Int32) (set : Int32) (h : Nat) : growC s set h 0 = s 0 ∧ TS s (growC s set h) ∨ ¬ h < 30 := by
  by_cases hh : h < 30
  · refine Or.inl ?_
    unfold growC
    split
    · exact ⟨upd_ne _ _ (by omega), TS.u _ (by omega) (by omega)⟩
    · exact ⟨rfl, rfl, fun _ _ => rfl⟩
  · exact Or.inr hh
theorem TS.tr {a b c : Nat → Int32} (h : TS a b) (k : TS b c) : TS a c := ⟨k.1.trans h.1, fun j hj => (k.2 j hj).trans (h.2 j hj)⟩
theorem growL_0 (set : Int32) : ∀ (j k : Nat) (s : Nat → Int32), k + j = 30 → growL s set k j 0 = s 0 ∧ TS s (growL s set k j)
  | 0, _, _, _ => ⟨rfl, rfl, fun _ _ => rfl⟩
  | j + 1, k, s, h => by
    have := growL_0 set j (k + 1) (growC s set k) (by omega)
    rcases growC_0 s set k with g | g
    · exact ⟨this.1.trans g.1, g.2.tr this.2⟩
    · exact absurd (by omega) g
theorem clN {n : Nat} (h : n < 1000) : (nI n).toNatClampNeg = n := by
  have := nT n
  rw [Int32.toNatClampNeg]
  omega
theorem fbF_lt {set : Int32} {c : Nat} (hc : c < 30) : ∀ (j i q : Nat), i + j = 4 → fbF set c j i = some q → q < 30
  | 0, i, q, _, h => by cases h
  | j + 1, i, q, h4, h => by
    rw [fbF] at h
    cases hq : nbO c i with
    | none => rw [hq] at h; exact fbF_lt hc j (i + 1) q (by omega) h
    | some r =>
      rw [hq] at h
      have hr := nbO_lt hc hq
      simp only [] at h
      split at h
      · injection h with h; omega
      · exact fbF_lt hc j (i + 1) q (by omega) h
theorem moveC_TS {s : Nat → Int32} (set : Int32) {h : Nat} (hh : h < 8) : TS s (moveC s set h) := by
  unfold moveC
  split
  · exact ⟨rfl, fun _ _ => rfl⟩
  · split
    · exact ⟨rfl, fun _ _ => rfl⟩
    · cases fbF set (s (131 + 2 * h + 1)).toNatClampNeg 4 0 with
      | some q => exact TS.u _ (by omega) (by omega)
      | none => exact (TS.u _ (by omega) (by omega)).tr (TS.u _ (by omega) (by omega))
theorem upd_upd_3 (s : Nat → Int32) {p : Nat} (x : Int32) (hp : 3 ≠ p) : upd (upd s p x) 3 (s 3 + nI 0) = upd s p x := by
  rw [add_0I]
  have := upd_id (upd s p x) 3
  rw [upd_ne _ _ hp] at this
  exact this
theorem moveC_dom {s : Nat → Int32} (hH : HouOK s) (set : Int32) {k : Nat} (hk : k < nH s) : HouOK (moveC s set k) := by
  have e0 := moveC_0 s set k
  have h8 := hH.1
  refine ⟨by rw [nH_same e0]; exact hH.1, by rw [nH_same e0, e0]; exact hH.2.1, fun e he => ?_⟩
  rw [nH_same e0] at he
  unfold moveC
  split
  · exact hH.2.2 e he
  · rename_i h1
    split
    · exact hH.2.2 e he
    · obtain ⟨c, hc, ec⟩ := (hH.2.2 k hk).resolve_left h1
      have hcl : (s (131 + 2 * k + 1)).toNatClampNeg = c := by rw [ec]; exact clN (by omega)
      rw [hcl]
      cases hf : fbF set c 4 0 with
      | some q =>
        show upd s (131 + 2 * k + 1) (nI q) (131 + 2 * e + 1) = (-1) ∨ ∃ c, c < 30 ∧ upd s (131 + 2 * k + 1) (nI q) (131 + 2 * e + 1) = nI c
        by_cases z : e = k
        · subst z; rw [upd_self]; exact Or.inr ⟨q, fbF_lt hc 4 0 q (by decide) hf, rfl⟩
        · rw [upd_ne _ _ (by omega)]; exact hH.2.2 e he
      | none =>
        show upd (upd s (131 + 2 * k + 1) (-1)) 3 (s 3 + s (131 + 2 * k)) (131 + 2 * e + 1) = (-1) ∨ ∃ c, c < 30 ∧ upd (upd s (131 + 2 * k + 1) (-1)) 3 (s 3 + s (131 + 2 * k)) (131 + 2 * e + 1) = nI c
        rw [upd_ne _ _ (by omega)]
        by_cases z : e = k
        · subst z; rw [upd_self]; exact Or.inl rfl
        · rw [upd_ne _ _ (by omega)]; exact hH.2.2 e he
theorem moveL_ok (set : Int32) : ∀ (j k : Nat) (s : Nat → Int32), k + j = nH s → HouOK s → TS s (moveL s set k j) ∧ HouOK (moveL s set k j)
  | 0, _, _, _, h => ⟨⟨rfl, fun _ _ => rfl⟩, h⟩
  | j + 1, k, s, hk, h => by
    have h8 := h.1
    have := moveL_ok set j (k + 1) (moveC s set k) (by rw [moveC_nH]; omega) (moveC_dom h set (by omega))
    exact ⟨(moveC_TS set (by omega)).tr this.1, this.2⟩
theorem hourE_ok {s : Nat → Int32} (h : HouOK s) : TS s (hourE s) ∧ HouOK (hourE s) := by
  unfold hourE
  split
  · refine ⟨(TS.u _ (by decide) (by decide)).tr (TS.u _ (by decide) (by decide)), ?_⟩
    exact (h.same (upd_ne _ _ (by decide)) (fun i _ _ => upd_ne _ _ (by omega))).same (upd_ne _ _ (by decide)) (fun i _ _ => upd_ne _ _ (by omega))
  · exact ⟨⟨rfl, fun _ _ => rfl⟩, h⟩
theorem HouOK.grow {s : Nat → Int32} (h : HouOK s) (set : Int32) : ∀ (j k : Nat) (s' : Nat → Int32), k + j = 30 → HouOK s' → HouOK (growL s' set k j)
  | 0, _, _, _, h => h
  | j + 1, k, s', hk, h2 => by
    refine HouOK.grow h set j (k + 1) _ (by omega) ?_
    unfold growC
    split
    · exact h2.same (upd_ne _ _ (by omega)) (fun i _ _ => upd_ne _ _ (by omega))
    · exact h2
theorem hourF_ok {s : Nat → Int32} (h : HouOK s) : TS s (hourF s) ∧ HouOK (hourF s) := by
  unfold hourF
  have g1 := (growL_0 (dryF s (nI 0)) 30 0 s (by decide)).2
  have g2 := h.grow (dryF s (nI 0)) 30 0 s (by decide) h
  have g3 := moveL_ok (dryF s (nI 0)) (nH (growL s (dryF s (nI 0)) 0 30)) 0 _ (by omega) g2
  have g4 := hourE_ok g3.2
  exact ⟨((g1.tr g3.1).tr g4.1).tr (TS.u _ (by decide) (by decide)), g4.2.same (upd_ne _ _ (by decide)) (fun i _ _ => upd_ne _ _ (by omega))⟩
theorem TxtsOK.ts {s s' : Nat → Int32} (h : TxtsOK s) (k : TS s s') : TxtsOK s' := h.same k.1 k.2
def runL (s : Nat → Int32) : Nat → Nat → Int32
  | 0 => s
  | j + 1 => if nI 9999 ≤ s 2 then s else runL (hourF s) j
theorem OpOK.c {V : VV} {d : Nat} {Mx Mm : Mthd} {As : List AVal} {μ : Memo} {x : Int32} (s' : Nat → Int32) (hS : Sim μ)
    (hx : RetI V d Mx (vR 0 :: As) μ x (fun μ1 => CI 7 μ μ1 (μ 77) s'))
    (hm : ∀ μ1, CI 7 μ μ1 (μ 77) s' → RetI V d Mm (vR 76 :: As) μ1 x (fun μ2 => MI μ1 μ2 s')) : OpOK V d Mx Mm As μ :=
  OpOK.of hx (fun μ1 k1 => (hm μ1 k1).mono (fun μ2 k2 => hS.nw k1.2.2.2.1 k1.2.2.2.2.1.1 k1.2.2.2.2.1.2 k1.1 k1.2.2.2.2.2 k2.1 k2.2))
theorem Sim.ci {μ : Memo} (hS : Sim μ) : CI 7 μ μ (μ 77) (μ 77) := ⟨hS.2.1, hS.2.2.1, hS.1.1, hS.1.2, ⟨rfl, fun _ _ => rfl⟩, Fr.rf _ _⟩
theorem CI.mi {B : Nat} {μ μ1 : Memo} {s s' : Nat → Int32} (hB : isB B) (h : CI B μ μ1 s s') (hs : μ 77 = s) : MI μ1 μ1 s := ⟨(h.2.2.2.2.2 77 (FB_no hB (by omega))).trans hs, Fr.rf _ _⟩
theorem dealC_TS (s : Nat → Int32) {c : Nat} (hc : c < 30) : TS s (dealC s c) := by
  unfold dealC drw
  exact (((((((TS.u _ (by decide) (by decide)).tr (TS.u _ (by omega) (by omega))).tr (TS.u _ (by decide) (by decide))).tr (TS.u _ (by omega) (by omega))).tr (TS.u _ (by decide) (by decide))).tr (TS.u _ (by omega) (by omega))).tr (TS.u _ (by omega) (by omega)))
theorem dealL_TS : ∀ (j k : Nat) (s : Nat → Int32), k + j = 30 → TS s (dealL s k j)
  | 0, _, _, _ => ⟨rfl, fun _ _ => rfl⟩
  | j + 1, k, s, h => (dealC_TS s (by omega)).tr (dealL_TS j (k + 1) (dealC s k) (by omega))

theorem c_draw {V : VV} {d : Nat} {μ0 : Memo} {s0 : Nat → Int32} {B : Nat} (hB : isB B) {μ : Memo} {s : Nat → Int32} (hC : CI B μ0 μ s0 s) : RetI V (d) mX1_draw [vR B] μ (drv s) (fun μ1 => CI B μ0 μ1 s0 (drw s)) := by
  show Go V (d) mX1_draw 0 [some (vR B)] [] μ _
  refine Go.aload_n dX1_draw_0 rfl ?_
  refine Go.aload_n dX1_draw_1 rfl ?_
  refine Go.getI dX1_draw_2 flX1_33 (fBi hB 10 (by decide) (by decide)) ?_
  refine Go.topE (s 4) hC.1.2.2.2.2.2.2.1 ?_
  refine Go.ldc dX1_draw_5 cnX1_66 ?_
  refine Go.imul dX1_draw_7 ?_
  refine Go.sipush (v := nI 12345) dX1_draw_8 rfl ?_
  refine Go.at 11 rfl ?_
  refine Go.iadd dX1_draw_11 ?_
  refine Go.put dX1_draw_12 flX1_33 (fBi hB 10 (by decide) (by decide)) rfl rfl rfl ?_
  refine Go.aload_n dX1_draw_15 rfl ?_
  refine Go.getI dX1_draw_16 flX1_33 (fBi hB 10 (by decide) (by decide)) ?_
  refine Go.topE (y := zN (s 4)) (by simp only [ms_self, upd_self]; rfl) ?_
  refine Go.bipush (v := nI 8) dX1_draw_19 rfl ?_
  refine Go.iushrE dX1_draw_21 ?_
  refine Go.at 22 rfl ?_
  refine Go.ireturn .int dX1_draw_22 rfl rfl ?_
  exact ⟨rfl, hC.z hB _⟩
theorem m_drawn {V : VV} {d : Nat} {μ0 μ : Memo} {s : Nat → Int32} (hM : MI μ0 μ s) : RetI V (d) mX9_drawn [vR 76] μ (drv s) (fun μ1 => MI μ0 μ1 (drw s)) := by
  show Go V (d) mX9_drawn 0 [some (vR 76)] [] μ _
  refine Go.aload_n dX9_drawn_0 rfl ?_
  refine Go.getR dX9_drawn_1 flX9_7 rfl ?_
  refine Go.iconst (v := nI 4) dX9_drawn_4 rfl ?_
  refine Go.aload_n dX9_drawn_5 rfl ?_
  refine Go.getR dX9_drawn_6 flX9_7 rfl ?_
  refine Go.iconst (v := nI 4) dX9_drawn_9 rfl ?_
  refine Go.at 10 rfl ?_
  refine Go.iaload 4 dX9_drawn_10 rfl (by omega) rfl ?_
  refine Go.topE (s 4) (congrFun hM.1 _) ?_
  refine Go.ldc dX9_drawn_11 cnX9_69 ?_
  refine Go.imul dX9_drawn_13 ?_
  refine Go.sipush (v := nI 12345) dX9_drawn_14 rfl ?_
  refine Go.iadd dX9_drawn_17 ?_
  refine Go.iastore 4 dX9_drawn_18 rfl (by omega) rfl ?_
  refine Go.at 19 rfl ?_
  refine Go.aload_n dX9_drawn_19 rfl ?_
  refine Go.getR dX9_drawn_20 flX9_7 rfl ?_
  refine Go.iconst (v := nI 4) dX9_drawn_23 rfl ?_
  refine Go.iaload 4 dX9_drawn_24 rfl (by omega) rfl ?_
  refine Go.topE (y := zN (s 4)) (by simp only [ms_self, upd_self]; rfl) ?_
  refine Go.bipush (v := nI 8) dX9_drawn_25 rfl ?_
  refine Go.iushrE dX9_drawn_27 ?_
  refine Go.at 28 rfl ?_
  refine Go.ireturn .int dX9_drawn_28 rfl rfl ?_
  exact ⟨rfl, hM.st _ _⟩
theorem c_deal_lp {V : VV} {d : Nat} {μ0 : Memo} {s0 : Nat → Int32} {B : Nat} (hB : isB B) :
    ∀ (j k : Nat) (μ : Memo) (s : Nat → Int32), k + j = 30 → CI B μ0 μ s0 s → Go V (d + 1) mX1_drawIsland 2 [some (vR B), some (vI (nI k)), none] [] μ (fun r' μ'' => r' = none ∧ CI B μ0 μ'' s0 (dealL s k j))
  | 0, k, μ, s, hkj, hC => by
    obtain rfl : k = 30 := by omega
    refine Go.iload_n dX1_drawIsland_2 rfl ?_
    refine Go.bipush (v := nI 30) dX1_drawIsland_3 rfl ?_
    refine Go.icmp_ge_t (tgt := 73) dX1_drawIsland_5 (by decide) (by decide) ?_
    refine Go.vreturn dX1_drawIsland_73 rfl ?_
    exact ⟨rfl, hC⟩
  | j + 1, k, μ, s, hkj, hC => by
    have hk : k < 30 := by omega
    show Go _ _ _ _ _ _ _ (fun r' μ'' => r' = none ∧ CI B μ0 μ'' s0 (dealL (dealC s k) (k + 1) j))
    refine Go.iload_n dX1_drawIsland_2 rfl ?_
    refine Go.bipush (v := nI 30) dX1_drawIsland_3 rfl ?_
    refine Go.icmp_ge_f (tgt := 73) dX1_drawIsland_5 (by decide) (nI_ge hk (by decide)) ?_
    refine Go.aload_n dX1_drawIsland_8 rfl ?_
    refine Go.getR dX1_drawIsland_9 flX1_9 (fBr hB 0 (by decide)) ?_
    refine Go.iload_n dX1_drawIsland_12 rfl ?_
    refine Go.at 13 rfl ?_
    refine Go.aload_n dX1_drawIsland_13 rfl ?_
    refine Go.callVx B [] [vI (nI k), vR (B + 1)] dX1_drawIsland_14 lkX1_67 (rcB hB) rfl (Nat.le_of_ble_eq_true rfl) rfl (Nat.le_of_ble_eq_true rfl) (c_draw hB hC) (fun μ1 c1 => ?_)
    refine Go.bipush (v := nI 6) dX1_drawIsland_17 rfl ?_
    refine Go.iremE dX1_drawIsland_19 (by decide) ?_
    refine Go.iastore k dX1_drawIsland_20 (alB1 hB) (by omega) rfl ?_
    have c2 : CI B μ0 (ms μ1 (B + 1) k (irm (drv s) (nI 6))) s0 (upd (drw s) (11 + 4 * k) (irm (drv s) (nI 6))) := c1.kind hB hk (drw_lt _ 6 (by decide) (by decide))
    refine Go.aload_n dX1_drawIsland_21 rfl ?_
    refine Go.at 22 rfl ?_
    refine Go.getR dX1_drawIsland_22 flX1_15 (fBr hB 1 (by decide)) ?_
    refine Go.iload_n dX1_drawIsland_25 rfl ?_
    refine Go.aload_n dX1_drawIsland_26 rfl ?_
    refine Go.callVx B [] [vI (nI k), vR (B + 2)] dX1_drawIsland_27 lkX1_67 (rcB hB) rfl (Nat.le_of_ble_eq_true rfl) rfl (Nat.le_of_ble_eq_true rfl) (c_draw hB c2) (fun μ3 c3 => ?_)
    refine Go.bipush (v := nI 21) dX1_drawIsland_30 rfl ?_
    refine Go.iremE dX1_drawIsland_32 (by decide) ?_
    refine Go.at 33 rfl ?_
    refine Go.iastore k dX1_drawIsland_33 (alB2 hB) (by omega) rfl ?_
    have c4 : CI B μ0 (ms μ3 (B + 2) k (irm (drv (upd (drw s) (11 + 4 * k) (irm (drv s) (nI 6)))) (nI 21))) s0 (upd (drw (upd (drw s) (11 + 4 * k) (irm (drv s) (nI 6)))) (11 + 4 * k + 1) (irm (drv (upd (drw s) (11 + 4 * k) (irm (drv s) (nI 6)))) (nI 21))) := c3.height hB hk (irm (drv (upd (drw s) (11 + 4 * k) (irm (drv s) (nI 6)))) (nI 21))
    refine Go.aload_n dX1_drawIsland_34 rfl ?_
    refine Go.callVx B [] [] dX1_drawIsland_35 lkX1_67 (rcB hB) rfl (Nat.le_of_ble_eq_true rfl) rfl (Nat.le_of_ble_eq_true rfl) (c_draw hB c4) (fun μ5 c5 => ?_)
    refine Go.bipush (v := nI 9) dX1_drawIsland_38 rfl ?_
    refine Go.iremE dX1_drawIsland_40 (by decide) ?_
    refine Go.istore_n (ls' := [some (vR B), some (vI (nI k)), some (vI (irm (drv (upd (drw (upd (drw s) (11 + 4 * k) (irm (drv s) (nI 6)))) (11 + 4 * k + 1) (irm (drv (upd (drw s) (11 + 4 * k) (irm (drv s) (nI 6)))) (nI 21)))) (nI 9)))]) dX1_drawIsland_41 (by decide) rfl ?_
    refine Go.at 42 rfl ?_
    refine Go.aload_n dX1_drawIsland_42 rfl ?_
    refine Go.getR dX1_drawIsland_43 flX1_21 (fBr hB 3 (by decide)) ?_
    refine Go.iload_n dX1_drawIsland_46 rfl ?_
    refine Go.iload_n dX1_drawIsland_47 rfl ?_
    refine Go.bipush (v := nI 8) dX1_drawIsland_48 rfl ?_
    refine Go.icmp_ne (tgt := 58) dX1_drawIsland_50 (by decide) (fun h50 => ?_) (fun h50 => ?_)
    · -- 50 taken
      refine Go.iload_n dX1_drawIsland_58 rfl ?_
      refine Go.iastore k dX1_drawIsland_59 (alB4 hB) (by omega) rfl ?_
      have c6 : CI B μ0 (ms μ5 (B + 4) k (irm (drv (upd (drw (upd (drw s) (11 + 4 * k) (irm (drv s) (nI 6)))) (11 + 4 * k + 1) (irm (drv (upd (drw s) (11 + 4 * k) (irm (drv s) (nI 6)))) (nI 21)))) (nI 9))) s0 (upd (drw (upd (drw (upd (drw s) (11 + 4 * k) (irm (drv s) (nI 6)))) (11 + 4 * k + 1) (irm (drv (upd (drw s) (11 + 4 * k) (irm (drv s) (nI 6)))) (nI 21)))) (11 + 4 * k + 3) (irm (drv (upd (drw (upd (drw s) (11 + 4 * k) (irm (drv s) (nI 6)))) (11 + 4 * k + 1) (irm (drv (upd (drw s) (11 + 4 * k) (irm (drv s) (nI 6)))) (nI 21)))) (nI 9))) := c5.owner hB hk (by obtain ⟨q, hq, e⟩ := drw_lt _ 9 (by decide) (by decide); rw [show irm (drv (upd (drw (upd (drw s) (11 + 4 * k) (irm (drv s) (nI 6)))) (11 + 4 * k + 1) (irm (drv (upd (drw s) (11 + 4 * k) (irm (drv s) (nI 6)))) (nI 21)))) (nI 9) = nI q from e, oN_n (by omega)]) (by obtain ⟨q, hq, e⟩ := drw_lt _ 9 (by decide) (by decide); refine Or.inr ⟨q, ?_, e⟩; have e2 : ¬ nI q = nI 8 := fun z => h50 (e.trans z); rw [sI_eq, nT, nT] at e2; omega)
      refine Go.aload_n dX1_drawIsland_60 rfl ?_
      refine Go.getR dX1_drawIsland_61 flX1_18 (fBr hB 2 (by decide)) ?_
      refine Go.iload_n dX1_drawIsland_64 rfl ?_
      refine Go.iconst (v := nI 0) dX1_drawIsland_65 rfl ?_
      refine Go.at 66 rfl ?_
      refine Go.iastore k dX1_drawIsland_66 (alB3 hB) (by omega) rfl ?_
      have c7 : CI B μ0 (ms (ms μ5 (B + 4) k (irm (drv (upd (drw (upd (drw s) (11 + 4 * k) (irm (drv s) (nI 6)))) (11 + 4 * k + 1) (irm (drv (upd (drw s) (11 + 4 * k) (irm (drv s) (nI 6)))) (nI 21)))) (nI 9))) (B + 3) k (nI 0)) s0 (upd (upd (drw (upd (drw (upd (drw s) (11 + 4 * k) (irm (drv s) (nI 6)))) (11 + 4 * k + 1) (irm (drv (upd (drw s) (11 + 4 * k) (irm (drv s) (nI 6)))) (nI 21)))) (11 + 4 * k + 3) (irm (drv (upd (drw (upd (drw s) (11 + 4 * k) (irm (drv s) (nI 6)))) (11 + 4 * k + 1) (irm (drv (upd (drw s) (11 + 4 * k) (irm (drv s) (nI 6)))) (nI 21)))) (nI 9))) (11 + 4 * k + 2) (nI 0)) := c6.corn hB hk (by decide)
      refine Go.iinc (v := nI (k + 1)) (ls' := [some (vR B), some (vI (nI (k + 1))), some (vI (irm (drv (upd (drw (upd (drw s) (11 + 4 * k) (irm (drv s) (nI 6)))) (11 + 4 * k + 1) (irm (drv (upd (drw s) (11 + 4 * k) (irm (drv s) (nI 6)))) (nI 21)))) (nI 9)))]) dX1_drawIsland_67 rfl (nI_add _ _) (by decide) rfl ?_
      refine Go.goto (tgt := 2) dX1_drawIsland_70 (by decide) ?_
      refine Go.mask [true, true, false] rfl ?_
      exact c_deal_lp hB j (k + 1) _ _ (by omega) (show CI B μ0 _ s0 (dealC s k) by unfold dealC; simp only []; rw [if_neg h50]; exact c7)
    · -- 50 not
      refine Go.ldc dX1_drawIsland_53 cnX1_41 ?_
      refine Go.goto (tgt := 59) dX1_drawIsland_55 (by decide) ?_
      refine Go.iastore k dX1_drawIsland_59 (alB4 hB) (by omega) rfl ?_
      have c8 : CI B μ0 (ms μ5 (B + 4) k (-1000000005)) s0 (upd (drw (upd (drw (upd (drw s) (11 + 4 * k) (irm (drv s) (nI 6)))) (11 + 4 * k + 1) (irm (drv (upd (drw s) (11 + 4 * k) (irm (drv s) (nI 6)))) (nI 21)))) (11 + 4 * k + 3) (-1)) := c5.owner hB hk oN_n1.symm (Or.inl rfl)
      refine Go.aload_n dX1_drawIsland_60 rfl ?_
      refine Go.getR dX1_drawIsland_61 flX1_18 (fBr hB 2 (by decide)) ?_
      refine Go.iload_n dX1_drawIsland_64 rfl ?_
      refine Go.at 65 rfl ?_
      refine Go.iconst (v := nI 0) dX1_drawIsland_65 rfl ?_
      refine Go.iastore k dX1_drawIsland_66 (alB3 hB) (by omega) rfl ?_
      have c9 : CI B μ0 (ms (ms μ5 (B + 4) k (-1000000005)) (B + 3) k (nI 0)) s0 (upd (upd (drw (upd (drw (upd (drw s) (11 + 4 * k) (irm (drv s) (nI 6)))) (11 + 4 * k + 1) (irm (drv (upd (drw s) (11 + 4 * k) (irm (drv s) (nI 6)))) (nI 21)))) (11 + 4 * k + 3) (-1)) (11 + 4 * k + 2) (nI 0)) := c8.corn hB hk (by decide)
      refine Go.iinc (v := nI (k + 1)) (ls' := [some (vR B), some (vI (nI (k + 1))), some (vI (irm (drv (upd (drw (upd (drw s) (11 + 4 * k) (irm (drv s) (nI 6)))) (11 + 4 * k + 1) (irm (drv (upd (drw s) (11 + 4 * k) (irm (drv s) (nI 6)))) (nI 21)))) (nI 9)))]) dX1_drawIsland_67 rfl (nI_add _ _) (by decide) rfl ?_
      refine Go.goto (tgt := 2) dX1_drawIsland_70 (by decide) ?_
      refine Go.mask [true, true, false] rfl ?_
      exact c_deal_lp hB j (k + 1) _ _ (by omega) (show CI B μ0 _ s0 (dealC s k) by unfold dealC; simp only []; rw [if_pos h50]; exact c9)
theorem c_deal {V : VV} {d : Nat} {μ0 : Memo} {s0 : Nat → Int32} {B : Nat} (hB : isB B) {μ : Memo} {s : Nat → Int32} (hC : CI B μ0 μ s0 s) : RetU V (d + 1) mX1_drawIsland [vR B] μ (fun μ1 => CI B μ0 μ1 s0 (dealL s 0 30)) := by
  show Go V (d + 1) mX1_drawIsland 0 [some (vR B), none, none] [] μ _
  refine Go.iconst (v := nI 0) dX1_drawIsland_0 rfl ?_
  refine Go.istore_n (ls' := [some (vR B), some (vI (nI 0)), none]) dX1_drawIsland_1 (by decide) rfl ?_
  exact c_deal_lp hB 30 0 _ _ (by omega) hC
theorem m_deal_lp {V : VV} {d : Nat} {μ0 : Memo} {Q : Option AVal → Memo → Prop} :
    ∀ (j k : Nat) (μ : Memo) (s : Nat → Int32), k + j = 30 → MI μ0 μ s → (∀ μ1, MI μ0 μ1 (dealL s k j) → Go V (d + 4) mX9_deal 72 [some (vR 76), some (vI (nI 30)), none] [] μ1 Q) → Go V (d + 4) mX9_deal 2 [some (vR 76), some (vI (nI k)), none] [] μ (Q)
  | 0, k, μ, s, hkj, hM, hQ => by
    obtain rfl : k = 30 := by omega
    refine Go.iload_n dX9_deal_2 rfl ?_
    refine Go.bipush (v := nI 30) dX9_deal_3 rfl ?_
    refine Go.icmp_ge_t (tgt := 72) dX9_deal_5 (by decide) (by decide) ?_
    exact hQ _ hM
  | j + 1, k, μ, s, hkj, hM, hQ => by
    have hk : k < 30 := by omega
    refine Go.iload_n dX9_deal_2 rfl ?_
    refine Go.bipush (v := nI 30) dX9_deal_3 rfl ?_
    refine Go.icmp_ge_f (tgt := 72) dX9_deal_5 (by decide) (nI_ge hk (by decide)) ?_
    refine Go.aload_n dX9_deal_8 rfl ?_
    refine Go.iload_n dX9_deal_9 rfl ?_
    refine Go.iconst (v := nI 0) dX9_deal_10 rfl ?_
    refine Go.at 11 rfl ?_
    refine Go.aload_n dX9_deal_11 rfl ?_
    refine Go.callVx 76 [] [vI (nI 0), vI (nI k), vR 76] dX9_deal_12 lkX9_127 (Or.inl ⟨_, _, _, rfl, rfl, rfl⟩) rfl (Nat.le_of_ble_eq_true rfl) rfl (Nat.le_of_ble_eq_true rfl) (m_drawn hM) (fun μ1 c1 => ?_)
    refine Go.bipush (v := nI 6) dX9_deal_15 rfl ?_
    refine Go.iremE dX9_deal_17 (by decide) ?_
    refine Go.callVv 76 [vI (nI k), vI (nI 0), vI (irm (drv s) (nI 6))] [] dX9_deal_18 lkX9_99 (Or.inl ⟨_, _, _, rfl, rfl, rfl⟩) rfl (Nat.le_of_ble_eq_true rfl) rfl (Nat.le_of_ble_eq_true rfl) (m_sets k 0 hk (by decide) (irm (drv s) (nI 6))) ?_
    have c2 : MI μ0 (ms μ1 77 (11 + 4 * k + 0) (irm (drv s) (nI 6))) (upd (drw s) (11 + 4 * k) (irm (drv s) (nI 6))) := c1.st _ (irm (drv s) (nI 6))
    refine Go.aload_n dX9_deal_21 rfl ?_
    refine Go.at 22 rfl ?_
    refine Go.iload_n dX9_deal_22 rfl ?_
    refine Go.iconst (v := nI 1) dX9_deal_23 rfl ?_
    refine Go.aload_n dX9_deal_24 rfl ?_
    refine Go.callVx 76 [] [vI (nI 1), vI (nI k), vR 76] dX9_deal_25 lkX9_127 (Or.inl ⟨_, _, _, rfl, rfl, rfl⟩) rfl (Nat.le_of_ble_eq_true rfl) rfl (Nat.le_of_ble_eq_true rfl) (m_drawn c2) (fun μ3 c3 => ?_)
    refine Go.bipush (v := nI 21) dX9_deal_28 rfl ?_
    refine Go.iremE dX9_deal_30 (by decide) ?_
    refine Go.at 31 rfl ?_
    refine Go.callVv 76 [vI (nI k), vI (nI 1), vI (irm (drv (upd (drw s) (11 + 4 * k) (irm (drv s) (nI 6)))) (nI 21))] [] dX9_deal_31 lkX9_99 (Or.inl ⟨_, _, _, rfl, rfl, rfl⟩) rfl (Nat.le_of_ble_eq_true rfl) rfl (Nat.le_of_ble_eq_true rfl) (m_sets k 1 hk (by decide) (irm (drv (upd (drw s) (11 + 4 * k) (irm (drv s) (nI 6)))) (nI 21))) ?_
    have c4 : MI μ0 (ms μ3 77 (11 + 4 * k + 1) (irm (drv (upd (drw s) (11 + 4 * k) (irm (drv s) (nI 6)))) (nI 21))) (upd (drw (upd (drw s) (11 + 4 * k) (irm (drv s) (nI 6)))) (11 + 4 * k + 1) (irm (drv (upd (drw s) (11 + 4 * k) (irm (drv s) (nI 6)))) (nI 21))) := c3.st _ (irm (drv (upd (drw s) (11 + 4 * k) (irm (drv s) (nI 6)))) (nI 21))
    refine Go.aload_n dX9_deal_34 rfl ?_
    refine Go.callVx 76 [] [] dX9_deal_35 lkX9_127 (Or.inl ⟨_, _, _, rfl, rfl, rfl⟩) rfl (Nat.le_of_ble_eq_true rfl) rfl (Nat.le_of_ble_eq_true rfl) (m_drawn c4) (fun μ5 c5 => ?_)
    refine Go.bipush (v := nI 9) dX9_deal_38 rfl ?_
    refine Go.iremE dX9_deal_40 (by decide) ?_
    refine Go.istore_n (ls' := [some (vR 76), some (vI (nI k)), some (vI (irm (drv (upd (drw (upd (drw s) (11 + 4 * k) (irm (drv s) (nI 6)))) (11 + 4 * k + 1) (irm (drv (upd (drw s) (11 + 4 * k) (irm (drv s) (nI 6)))) (nI 21)))) (nI 9)))]) dX9_deal_41 (by decide) rfl ?_
    refine Go.at 42 rfl ?_
    refine Go.aload_n dX9_deal_42 rfl ?_
    refine Go.iload_n dX9_deal_43 rfl ?_
    refine Go.iconst (v := nI 3) dX9_deal_44 rfl ?_
    refine Go.iload_n dX9_deal_45 rfl ?_
    refine Go.bipush (v := nI 8) dX9_deal_46 rfl ?_
    refine Go.icmp_ne (tgt := 55) dX9_deal_48 (by decide) (fun h48 => ?_) (fun h48 => ?_)
    · -- 48 taken
      refine Go.iload_n dX9_deal_55 rfl ?_
      refine Go.callVv 76 [vI (nI k), vI (nI 3), vI (irm (drv (upd (drw (upd (drw s) (11 + 4 * k) (irm (drv s) (nI 6)))) (11 + 4 * k + 1) (irm (drv (upd (drw s) (11 + 4 * k) (irm (drv s) (nI 6)))) (nI 21)))) (nI 9))] [] dX9_deal_56 lkX9_99 (Or.inl ⟨_, _, _, rfl, rfl, rfl⟩) rfl (Nat.le_of_ble_eq_true rfl) rfl (Nat.le_of_ble_eq_true rfl) (m_sets k 3 hk (by decide) (irm (drv (upd (drw (upd (drw s) (11 + 4 * k) (irm (drv s) (nI 6)))) (11 + 4 * k + 1) (irm (drv (upd (drw s) (11 + 4 * k) (irm (drv s) (nI 6)))) (nI 21)))) (nI 9))) ?_
      have c6 : MI μ0 (ms μ5 77 (11 + 4 * k + 3) (irm (drv (upd (drw (upd (drw s) (11 + 4 * k) (irm (drv s) (nI 6)))) (11 + 4 * k + 1) (irm (drv (upd (drw s) (11 + 4 * k) (irm (drv s) (nI 6)))) (nI 21)))) (nI 9))) (upd (drw (upd (drw (upd (drw s) (11 + 4 * k) (irm (drv s) (nI 6)))) (11 + 4 * k + 1) (irm (drv (upd (drw s) (11 + 4 * k) (irm (drv s) (nI 6)))) (nI 21)))) (11 + 4 * k + 3) (irm (drv (upd (drw (upd (drw s) (11 + 4 * k) (irm (drv s) (nI 6)))) (11 + 4 * k + 1) (irm (drv (upd (drw s) (11 + 4 * k) (irm (drv s) (nI 6)))) (nI 21)))) (nI 9))) := c5.st _ (irm (drv (upd (drw (upd (drw s) (11 + 4 * k) (irm (drv s) (nI 6)))) (11 + 4 * k + 1) (irm (drv (upd (drw s) (11 + 4 * k) (irm (drv s) (nI 6)))) (nI 21)))) (nI 9))
      refine Go.aload_n dX9_deal_59 rfl ?_
      refine Go.iload_n dX9_deal_60 rfl ?_
      refine Go.iconst (v := nI 2) dX9_deal_61 rfl ?_
      refine Go.iconst (v := nI 0) dX9_deal_62 rfl ?_
      refine Go.at 63 rfl ?_
      refine Go.callVv 76 [vI (nI k), vI (nI 2), vI (nI 0)] [] dX9_deal_63 lkX9_99 (Or.inl ⟨_, _, _, rfl, rfl, rfl⟩) rfl (Nat.le_of_ble_eq_true rfl) rfl (Nat.le_of_ble_eq_true rfl) (m_sets k 2 hk (by decide) (nI 0)) ?_
      have c7 : MI μ0 (ms (ms μ5 77 (11 + 4 * k + 3) (irm (drv (upd (drw (upd (drw s) (11 + 4 * k) (irm (drv s) (nI 6)))) (11 + 4 * k + 1) (irm (drv (upd (drw s) (11 + 4 * k) (irm (drv s) (nI 6)))) (nI 21)))) (nI 9))) 77 (11 + 4 * k + 2) (nI 0)) (upd (upd (drw (upd (drw (upd (drw s) (11 + 4 * k) (irm (drv s) (nI 6)))) (11 + 4 * k + 1) (irm (drv (upd (drw s) (11 + 4 * k) (irm (drv s) (nI 6)))) (nI 21)))) (11 + 4 * k + 3) (irm (drv (upd (drw (upd (drw s) (11 + 4 * k) (irm (drv s) (nI 6)))) (11 + 4 * k + 1) (irm (drv (upd (drw s) (11 + 4 * k) (irm (drv s) (nI 6)))) (nI 21)))) (nI 9))) (11 + 4 * k + 2) (nI 0)) := c6.st _ (nI 0)
      refine Go.iinc (v := nI (k + 1)) (ls' := [some (vR 76), some (vI (nI (k + 1))), some (vI (irm (drv (upd (drw (upd (drw s) (11 + 4 * k) (irm (drv s) (nI 6)))) (11 + 4 * k + 1) (irm (drv (upd (drw s) (11 + 4 * k) (irm (drv s) (nI 6)))) (nI 21)))) (nI 9)))]) dX9_deal_66 rfl (nI_add _ _) (by decide) rfl ?_
      refine Go.goto (tgt := 2) dX9_deal_69 (by decide) ?_
      refine Go.mask [true, true, false] rfl ?_
      exact m_deal_lp j (k + 1) _ (dealC s k) (by omega) (show MI μ0 _ (dealC s k) by unfold dealC; simp only []; rw [if_neg h48]; exact c7) hQ
    · -- 48 not
      refine Go.iconst (v := (-1)) dX9_deal_51 rfl ?_
      refine Go.goto (tgt := 56) dX9_deal_52 (by decide) ?_
      refine Go.callVv 76 [vI (nI k), vI (nI 3), vI (-1)] [] dX9_deal_56 lkX9_99 (Or.inl ⟨_, _, _, rfl, rfl, rfl⟩) rfl (Nat.le_of_ble_eq_true rfl) rfl (Nat.le_of_ble_eq_true rfl) (m_sets k 3 hk (by decide) (-1)) ?_
      have c8 : MI μ0 (ms μ5 77 (11 + 4 * k + 3) (-1)) (upd (drw (upd (drw (upd (drw s) (11 + 4 * k) (irm (drv s) (nI 6)))) (11 + 4 * k + 1) (irm (drv (upd (drw s) (11 + 4 * k) (irm (drv s) (nI 6)))) (nI 21)))) (11 + 4 * k + 3) (-1)) := c5.st _ (-1)
      refine Go.aload_n dX9_deal_59 rfl ?_
      refine Go.iload_n dX9_deal_60 rfl ?_
      refine Go.iconst (v := nI 2) dX9_deal_61 rfl ?_
      refine Go.at 62 rfl ?_
      refine Go.iconst (v := nI 0) dX9_deal_62 rfl ?_
      refine Go.callVv 76 [vI (nI k), vI (nI 2), vI (nI 0)] [] dX9_deal_63 lkX9_99 (Or.inl ⟨_, _, _, rfl, rfl, rfl⟩) rfl (Nat.le_of_ble_eq_true rfl) rfl (Nat.le_of_ble_eq_true rfl) (m_sets k 2 hk (by decide) (nI 0)) ?_
      have c9 : MI μ0 (ms (ms μ5 77 (11 + 4 * k + 3) (-1)) 77 (11 + 4 * k + 2) (nI 0)) (upd (upd (drw (upd (drw (upd (drw s) (11 + 4 * k) (irm (drv s) (nI 6)))) (11 + 4 * k + 1) (irm (drv (upd (drw s) (11 + 4 * k) (irm (drv s) (nI 6)))) (nI 21)))) (11 + 4 * k + 3) (-1)) (11 + 4 * k + 2) (nI 0)) := c8.st _ (nI 0)
      refine Go.iinc (v := nI (k + 1)) (ls' := [some (vR 76), some (vI (nI (k + 1))), some (vI (irm (drv (upd (drw (upd (drw s) (11 + 4 * k) (irm (drv s) (nI 6)))) (11 + 4 * k + 1) (irm (drv (upd (drw s) (11 + 4 * k) (irm (drv s) (nI 6)))) (nI 21)))) (nI 9)))]) dX9_deal_66 rfl (nI_add _ _) (by decide) rfl ?_
      refine Go.goto (tgt := 2) dX9_deal_69 (by decide) ?_
      refine Go.mask [true, true, false] rfl ?_
      exact m_deal_lp j (k + 1) _ (dealC s k) (by omega) (show MI μ0 _ (dealC s k) by unfold dealC; simp only []; rw [if_pos h48]; exact c9) hQ
theorem c_growCorn_lp {V : VV} {d : Nat} {μ0 : Memo} {s0 : Nat → Int32} {B : Nat} (hB : isB B) (set : Int32) :
    ∀ (j k : Nat) (μ : Memo) (s : Nat → Int32), k + j = 30 → CI B μ0 μ s0 s → Go V (d + 3) mX1_growCorn 2 [some (vR B), some (vI set), some (vI (nI k))] [] μ (fun r' μ'' => r' = none ∧ CI B μ0 μ'' s0 (growL s set k j))
  | 0, k, μ, s, hkj, hC => by
    obtain rfl : k = 30 := by omega
    refine Go.iload_n dX1_growCorn_2 rfl ?_
    refine Go.bipush (v := nI 30) dX1_growCorn_3 rfl ?_
    refine Go.icmp_ge_t (tgt := 62) dX1_growCorn_5 (by decide) (by decide) ?_
    refine Go.vreturn dX1_growCorn_62 rfl ?_
    exact ⟨rfl, hC⟩
  | j + 1, k, μ, s, hkj, hC => by
    have hk : k < 30 := by omega
    have hT := hC.2.2.1
    have hb9 := bitU1 (c := k) (by omega) set
    obtain ⟨q, hq, eq⟩ := hC.2.2.2.1.2.1 k hk
    show Go _ _ _ _ _ _ _ (fun r' μ'' => r' = none ∧ CI B μ0 μ'' s0 (growL (growC s set k) set (k + 1) j))
    refine Go.iload_n dX1_growCorn_2 rfl ?_
    refine Go.bipush (v := nI 30) dX1_growCorn_3 rfl ?_
    refine Go.icmp_ge_f (tgt := 62) dX1_growCorn_5 (by decide) (nI_ge hk (by decide)) ?_
    refine Go.aload_n dX1_growCorn_8 rfl ?_
    refine Go.getR dX1_growCorn_9 flX1_9 (fBr hB 0 (by decide)) ?_
    refine Go.iload_n dX1_growCorn_12 rfl ?_
    refine Go.at 13 rfl ?_
    refine Go.iaload k dX1_growCorn_13 (alB1 hB) (by omega) rfl ?_
    refine Go.topE (y := nI q) ((hC.1.1 k hk).1.trans eq) ?_
    refine Go.iconst (v := nI 1) dX1_growCorn_14 rfl ?_
    refine Go.callSi [vI (nI q), vI (nI 1)] [] dX1_growCorn_15 lkX1_151 rfl (Nat.le_of_ble_eq_true rfl) rfl (Nat.le_of_ble_eq_true rfl) (c_isUnder hq (nI 1) (by decide)) ?_
    refine Go.if_eqb (tgt := 56) dX1_growCorn_18 (by decide) (fun h18 => ?_) (fun h18 => ?_)
    · -- 18 taken
      refine Go.iinc (v := nI (k + 1)) (ls' := [some (vR B), some (vI set), some (vI (nI (k + 1)))]) dX1_growCorn_56 rfl (nI_add _ _) (by decide) rfl ?_
      refine Go.goto (tgt := 2) dX1_growCorn_59 (by decide) ?_
      exact c_growCorn_lp hB set j (k + 1) _ _ (by omega) (show CI B μ0 _ s0 (growC s set k) by unfold growC; rw [if_neg (by rw [eq]; exact h18)]; exact hC)
    · -- 18 not
      refine Go.aload_n dX1_growCorn_21 rfl ?_
      refine Go.getR dX1_growCorn_22 flX1_18 (fBr hB 2 (by decide)) ?_
      refine Go.iload_n dX1_growCorn_25 rfl ?_
      refine Go.iload_n dX1_growCorn_26 rfl ?_
      refine Go.iload_n dX1_growCorn_27 rfl ?_
      refine Go.callSi [vI set, vI (nI k)] [vI (nI k), vR (B + 3)] dX1_growCorn_28 lkX1_127 rfl (Nat.le_of_ble_eq_true rfl) rfl (Nat.le_of_ble_eq_true rfl) (c_has set (nI k)) ?_
      refine Go.at 31 rfl ?_
      refine Go.if_eqb (tgt := 54) dX1_growCorn_31 (by decide) (fun h31 => ?_) (fun h31 => ?_)
      · -- 31 taken
        refine Go.iconst (v := nI 0) dX1_growCorn_54 rfl ?_
        refine Go.iastore k dX1_growCorn_55 (alB3 hB) (by omega) rfl ?_
        have c1 : CI B μ0 (ms μ (B + 3) k (nI 0)) s0 (upd s (11 + 4 * k + 2) (nI 0)) := hC.corn hB hk (by first | decide | exact wi_rng _)
        refine Go.iinc (v := nI (k + 1)) (ls' := [some (vR B), some (vI set), some (vI (nI (k + 1)))]) dX1_growCorn_56 rfl (nI_add _ _) (by decide) rfl ?_
        refine Go.goto (tgt := 2) dX1_growCorn_59 (by decide) ?_
        exact c_growCorn_lp hB set j (k + 1) _ _ (by omega) (show CI B μ0 _ s0 (growC s set k) by unfold growC; rw [if_pos (by rw [eq]; exact h18), if_neg (fun z => h31 (hb9.mpr z))]; exact c1)
      · -- 31 not
        refine Go.bipush (v := nI 99) dX1_growCorn_34 rfl ?_
        refine Go.aload_n dX1_growCorn_36 rfl ?_
        refine Go.getR dX1_growCorn_37 flX1_18 (fBr hB 2 (by decide)) ?_
        refine Go.iload_n dX1_growCorn_40 rfl ?_
        refine Go.iaload k dX1_growCorn_41 (alB3 hB) (by omega) rfl ?_
        refine Go.topE (s (11 + 4 * k + 2)) ((hC.1.1 k hk).2.2.1) ?_
        refine Go.aload_n dX1_growCorn_42 rfl ?_
        refine Go.at 43 rfl ?_
        refine Go.iload_n dX1_growCorn_43 rfl ?_
        refine Go.callVx B [vI (nI k)] [vI (s (11 + 4 * k + 2)), vI (nI 99), vI (nI k), vR (B + 3)] dX1_growCorn_44 lkX1_154 (rcB hB) rfl (Nat.le_of_ble_eq_true rfl) rfl (Nat.le_of_ble_eq_true rfl) (c_grow hB hC.1 hC.2.1 hC.2.2.1 k hk) (fun μ2 k2 => ?_)
        have c2 : CI B μ0 μ2 s0 s := hC.fr hB k2
        refine Go.iadd dX1_growCorn_47 ?_
        refine Go.mminE dX1_growCorn_48 lkX1_157 (Nat.le_of_ble_eq_true rfl) ?_
        refine Go.topE (y := wiF (s (11 + 4 * k + 2) + growF s k) (nI 99)) (gr_min (hC.2.2.2.1.1 k hk) (gr_rng s k)) ?_
        refine Go.goto (tgt := 55) dX1_growCorn_51 (by decide) ?_
        refine Go.iastore k dX1_growCorn_55 (alB3 hB) (by omega) rfl ?_
        have c3 : CI B μ0 (ms μ2 (B + 3) k (wiF (s (11 + 4 * k + 2) + growF s k) (nI 99))) s0 (upd s (11 + 4 * k + 2) (wiF (s (11 + 4 * k + 2) + growF s k) (nI 99))) := c2.corn hB hk (by first | decide | exact wi_rng _)
        refine Go.at 56 rfl ?_
        refine Go.iinc (v := nI (k + 1)) (ls' := [some (vR B), some (vI set), some (vI (nI (k + 1)))]) dX1_growCorn_56 rfl (nI_add _ _) (by decide) rfl ?_
        refine Go.goto (tgt := 2) dX1_growCorn_59 (by decide) ?_
        exact c_growCorn_lp hB set j (k + 1) _ _ (by omega) (show CI B μ0 _ s0 (growC s set k) by unfold growC; rw [if_pos (by rw [eq]; exact h18), if_pos (hb9.mp h31)]; exact c3)
theorem c_growCorn {V : VV} {d : Nat} {μ0 : Memo} {s0 : Nat → Int32} {B : Nat} (hB : isB B) {μ : Memo} {s : Nat → Int32} (set : Int32) (hC : CI B μ0 μ s0 s) : RetU V (d + 3) mX1_growCorn [vR B, vI set] μ (fun μ1 => CI B μ0 μ1 s0 (growL s set 0 30)) := by
  show Go V (d + 3) mX1_growCorn 0 [some (vR B), some (vI set), none] [] μ _
  refine Go.iconst (v := nI 0) dX1_growCorn_0 rfl ?_
  refine Go.istore_n (ls' := [some (vR B), some (vI set), some (vI (nI 0))]) dX1_growCorn_1 (by decide) rfl ?_
  exact c_growCorn_lp hB set 30 0 _ _ (by omega) hC
theorem c_move_lp {V : VV} {d : Nat} {μ0 : Memo} {s0 : Nat → Int32} {B : Nat} (hB : isB B) (set : Int32) :
    ∀ (j k : Nat) (μ : Memo) (s : Nat → Int32), k + j = nH s → CI B μ0 μ s0 s → Go V (d + 2) mX1_moveHouses 2 [some (vR B), some (vI set), some (vI (nI k)), none] [] μ (fun r' μ'' => r' = none ∧ CI B μ0 μ'' s0 (moveL s set k j))
  | 0, k, μ, s, hkj, hC => by
    obtain rfl : k = nH s := by omega
    have h8 := hC.h8
    have hn := hC.2.2.2.1.2.2.2.2.1
    refine Go.iload_n dX1_moveHouses_2 rfl ?_
    refine Go.aload_n dX1_moveHouses_3 rfl ?_
    refine Go.getI dX1_moveHouses_4 flX1_54 (fBi hB 7 (by decide) (by decide)) ?_
    refine Go.topE (y := nI (nH s)) (hC.1.2.2.2.1.trans hn) ?_
    refine Go.icmp_ge_t (tgt := 74) dX1_moveHouses_7 (by decide) (by rw [sI_le]; exact Int.le_refl _) ?_
    refine Go.vreturn dX1_moveHouses_74 rfl ?_
    exact ⟨rfl, hC⟩
  | j + 1, k, μ, s, hkj, hC => by
    have hk : k < nH s := by omega
    have h8 := hC.h8
    have hn := hC.2.2.2.1.2.2.2.2.1
    show Go _ _ _ _ _ _ _ (fun r' μ'' => r' = none ∧ CI B μ0 μ'' s0 (moveL (moveC s set k) set (k + 1) j))
    by_cases h1 : s (131 + 2 * k + 1) = (-1)
    · skip
      refine Go.iload_n dX1_moveHouses_2 rfl ?_
      refine Go.aload_n dX1_moveHouses_3 rfl ?_
      refine Go.getI dX1_moveHouses_4 flX1_54 (fBi hB 7 (by decide) (by decide)) ?_
      refine Go.topE (y := nI (nH s)) (hC.1.2.2.2.1.trans hn) ?_
      refine Go.icmp_ge_f (tgt := 74) dX1_moveHouses_7 (by decide) (nI_ge hk (by omega)) ?_
      refine Go.aload_n dX1_moveHouses_10 rfl ?_
      refine Go.getR dX1_moveHouses_11 flX1_30 (fBr hB 6 (by decide)) ?_
      refine Go.at 14 rfl ?_
      refine Go.iload_n dX1_moveHouses_14 rfl ?_
      refine Go.iaload k dX1_moveHouses_15 (alB7 hB) (by omega) rfl ?_
      refine Go.topE (y := (-1000000005)) (by rw [(hC.1.2.2.1 k hk).2, h1, oN_n1]) ?_
      refine Go.istore_n (ls' := [some (vR B), some (vI set), some (vI (nI k)), some (vI (-1000000005))]) dX1_moveHouses_16 (by decide) rfl ?_
      refine Go.iload_n dX1_moveHouses_17 rfl ?_
      refine Go.ldc dX1_moveHouses_18 cnX1_41 ?_
      refine Go.icmp_eq_t (tgt := 68) dX1_moveHouses_20 (by decide) (by decide) ?_
      refine Go.at 68 rfl ?_
      refine Go.iinc (v := nI (k + 1)) (ls' := [some (vR B), some (vI set), some (vI (nI (k + 1))), some (vI (-1000000005))]) dX1_moveHouses_68 rfl (nI_add _ _) (by decide) rfl ?_
      refine Go.goto (tgt := 2) dX1_moveHouses_71 (by decide) ?_
      refine Go.mask [true, true, true, false] rfl ?_
      exact c_move_lp hB set j (k + 1) _ _ (by rw [moveC_nH]; omega) (show CI B μ0 _ s0 (moveC s set k) by unfold moveC; rw [if_pos h1]; exact hC)
    · obtain ⟨c, hc, ec⟩ := (hC.2.2.2.1.2.2.2.2.2 k hk).resolve_left h1
      have hcl : (s (131 + 2 * k + 1)).toNatClampNeg = c := by rw [ec]; exact clN (by omega)
      by_cases hb : bt set c = true
      · skip
        refine Go.iload_n dX1_moveHouses_2 rfl ?_
        refine Go.aload_n dX1_moveHouses_3 rfl ?_
        refine Go.getI dX1_moveHouses_4 flX1_54 (fBi hB 7 (by decide) (by decide)) ?_
        refine Go.topE (y := nI (nH s)) (hC.1.2.2.2.1.trans hn) ?_
        refine Go.icmp_ge_f (tgt := 74) dX1_moveHouses_7 (by decide) (nI_ge hk (by omega)) ?_
        refine Go.aload_n dX1_moveHouses_10 rfl ?_
        refine Go.getR dX1_moveHouses_11 flX1_30 (fBr hB 6 (by decide)) ?_
        refine Go.at 14 rfl ?_
        refine Go.iload_n dX1_moveHouses_14 rfl ?_
        refine Go.iaload k dX1_moveHouses_15 (alB7 hB) (by omega) rfl ?_
        refine Go.topE (y := nI c) (by rw [(hC.1.2.2.1 k hk).2, ec, oN_n (by omega)]) ?_
        refine Go.istore_n (ls' := [some (vR B), some (vI set), some (vI (nI k)), some (vI (nI c))]) dX1_moveHouses_16 (by decide) rfl ?_
        refine Go.iload_n dX1_moveHouses_17 rfl ?_
        refine Go.ldc dX1_moveHouses_18 cnX1_41 ?_
        refine Go.icmp_eq_f (tgt := 68) dX1_moveHouses_20 (by decide) (nI_NONE (by omega)) ?_
        refine Go.at 23 rfl ?_
        refine Go.iload_n dX1_moveHouses_23 rfl ?_
        refine Go.iload_n dX1_moveHouses_24 rfl ?_
        refine Go.callSi [vI set, vI (nI c)] [] dX1_moveHouses_25 lkX1_127 rfl (Nat.le_of_ble_eq_true rfl) rfl (Nat.le_of_ble_eq_true rfl) (c_has set (nI c)) ?_
        refine Go.if_neb_t (tgt := 68) dX1_moveHouses_28 (by decide) ((bitU1 (by omega) set).mpr hb) ?_
        refine Go.iinc (v := nI (k + 1)) (ls' := [some (vR B), some (vI set), some (vI (nI (k + 1))), some (vI (nI c))]) dX1_moveHouses_68 rfl (nI_add _ _) (by decide) rfl ?_
        refine Go.goto (tgt := 2) dX1_moveHouses_71 (by decide) ?_
        refine Go.at 2 rfl ?_
        refine Go.mask [true, true, true, false] rfl ?_
        exact c_move_lp hB set j (k + 1) _ _ (by rw [moveC_nH]; omega) (show CI B μ0 _ s0 (moveC s set k) by unfold moveC; rw [if_neg h1, hcl, if_pos hb]; exact hC)
      · cases hf : fbF set c 4 0 with
        | none =>
          refine Go.iload_n dX1_moveHouses_2 rfl ?_
          refine Go.aload_n dX1_moveHouses_3 rfl ?_
          refine Go.getI dX1_moveHouses_4 flX1_54 (fBi hB 7 (by decide) (by decide)) ?_
          refine Go.topE (y := nI (nH s)) (hC.1.2.2.2.1.trans hn) ?_
          refine Go.icmp_ge_f (tgt := 74) dX1_moveHouses_7 (by decide) (nI_ge hk (by omega)) ?_
          refine Go.aload_n dX1_moveHouses_10 rfl ?_
          refine Go.getR dX1_moveHouses_11 flX1_30 (fBr hB 6 (by decide)) ?_
          refine Go.at 14 rfl ?_
          refine Go.iload_n dX1_moveHouses_14 rfl ?_
          refine Go.iaload k dX1_moveHouses_15 (alB7 hB) (by omega) rfl ?_
          refine Go.topE (y := nI c) (by rw [(hC.1.2.2.1 k hk).2, ec, oN_n (by omega)]) ?_
          refine Go.istore_n (ls' := [some (vR B), some (vI set), some (vI (nI k)), some (vI (nI c))]) dX1_moveHouses_16 (by decide) rfl ?_
          refine Go.iload_n dX1_moveHouses_17 rfl ?_
          refine Go.ldc dX1_moveHouses_18 cnX1_41 ?_
          refine Go.icmp_eq_f (tgt := 68) dX1_moveHouses_20 (by decide) (nI_NONE (by omega)) ?_
          refine Go.at 23 rfl ?_
          refine Go.iload_n dX1_moveHouses_23 rfl ?_
          refine Go.iload_n dX1_moveHouses_24 rfl ?_
          refine Go.callSi [vI set, vI (nI c)] [] dX1_moveHouses_25 lkX1_127 rfl (Nat.le_of_ble_eq_true rfl) rfl (Nat.le_of_ble_eq_true rfl) (c_has set (nI c)) ?_
          refine Go.if_neb_f (tgt := 68) dX1_moveHouses_28 (by decide) (fun z => hb ((bitU1 (by omega) set).mp z)) ?_
          refine Go.aload_n dX1_moveHouses_31 rfl ?_
          refine Go.getR dX1_moveHouses_32 flX1_30 (fBr hB 6 (by decide)) ?_
          refine Go.at 35 rfl ?_
          refine Go.iload_n dX1_moveHouses_35 rfl ?_
          refine Go.iload_n dX1_moveHouses_36 rfl ?_
          refine Go.iload_n dX1_moveHouses_37 rfl ?_
          refine Go.callSi [vI (nI c), vI set] [vI (nI k), vR (B + 7)] dX1_moveHouses_38 lkX1_160 rfl (Nat.le_of_ble_eq_true rfl) rfl (Nat.le_of_ble_eq_true rfl) (c_firstBeside set (by omega)) ?_
          refine Go.topE (y := (-1000000005)) (by rw [hf]; decide) ?_
          refine Go.iastore k dX1_moveHouses_41 (alB7 hB) (by omega) rfl ?_
          have c1 : CI B μ0 (ms μ (B + 7) k (-1000000005)) s0 (upd s (131 + 2 * k + 1) (-1)) := hC.place hB hk oN_n1.symm (Or.inl rfl)
          refine Go.aload_n dX1_moveHouses_42 rfl ?_
          refine Go.at 43 rfl ?_
          refine Go.getR dX1_moveHouses_43 flX1_30 (fBr hB 6 (by decide)) ?_
          refine Go.iload_n dX1_moveHouses_46 rfl ?_
          refine Go.iaload k dX1_moveHouses_47 (alB7 hB) (by omega) rfl ?_
          refine Go.topE (y := (-1000000005)) (by simp only [ms_self, upd_self]) ?_
          refine Go.ldc dX1_moveHouses_48 cnX1_41 ?_
          refine Go.icmp_ne_f (tgt := 68) dX1_moveHouses_50 (by decide) (by decide) ?_
          refine Go.aload_n dX1_moveHouses_53 rfl ?_
          refine Go.at 54 rfl ?_
          refine Go.dupR dX1_moveHouses_54 ?_
          refine Go.getI dX1_moveHouses_55 flX1_60 (fBi hB 9 (by decide) (by decide)) ?_
          refine Go.topE (y := s 3) (by rw [c1.1.2.2.2.2.2.1]; exact upd_ne _ _ (by omega)) ?_
          refine Go.aload_n dX1_moveHouses_58 rfl ?_
          refine Go.getR dX1_moveHouses_59 flX1_27 (fBr hB 5 (by decide)) ?_
          refine Go.iload_n dX1_moveHouses_62 rfl ?_
          refine Go.iaload k dX1_moveHouses_63 (alB6 hB) (by omega) rfl ?_
          refine Go.topE (y := s (131 + 2 * k)) (by rw [ms_ne _ _ _ (by omega)]; exact (hC.1.2.2.1 k hk).1) ?_
          refine Go.at 64 rfl ?_
          refine Go.iadd dX1_moveHouses_64 ?_
          refine Go.put dX1_moveHouses_65 flX1_60 (fBi hB 9 (by decide) (by decide)) rfl rfl rfl ?_
          have c2 : CI B μ0 (ms (ms μ (B + 7) k (-1000000005)) B 9 ((s 3) + (s (131 + 2 * k)))) s0 (upd (upd s (131 + 2 * k + 1) (-1)) 3 ((s 3) + (s (131 + 2 * k)))) := c1.lost hB ((s 3) + (s (131 + 2 * k)))
          refine Go.iinc (v := nI (k + 1)) (ls' := [some (vR B), some (vI set), some (vI (nI (k + 1))), some (vI (nI c))]) dX1_moveHouses_68 rfl (nI_add _ _) (by decide) rfl ?_
          refine Go.goto (tgt := 2) dX1_moveHouses_71 (by decide) ?_
          refine Go.mask [true, true, true, false] rfl ?_
          exact c_move_lp hB set j (k + 1) _ _ (by rw [moveC_nH]; omega) (show CI B μ0 _ s0 (moveC s set k) by unfold moveC; rw [if_neg h1, hcl, if_neg hb, hf]; exact c2)
        | some q =>
          have hq := fbF_lt hc 4 0 q (by decide) hf
          refine Go.iload_n dX1_moveHouses_2 rfl ?_
          refine Go.aload_n dX1_moveHouses_3 rfl ?_
          refine Go.getI dX1_moveHouses_4 flX1_54 (fBi hB 7 (by decide) (by decide)) ?_
          refine Go.topE (y := nI (nH s)) (hC.1.2.2.2.1.trans hn) ?_
          refine Go.icmp_ge_f (tgt := 74) dX1_moveHouses_7 (by decide) (nI_ge hk (by omega)) ?_
          refine Go.aload_n dX1_moveHouses_10 rfl ?_
          refine Go.getR dX1_moveHouses_11 flX1_30 (fBr hB 6 (by decide)) ?_
          refine Go.at 14 rfl ?_
          refine Go.iload_n dX1_moveHouses_14 rfl ?_
          refine Go.iaload k dX1_moveHouses_15 (alB7 hB) (by omega) rfl ?_
          refine Go.topE (y := nI c) (by rw [(hC.1.2.2.1 k hk).2, ec, oN_n (by omega)]) ?_
          refine Go.istore_n (ls' := [some (vR B), some (vI set), some (vI (nI k)), some (vI (nI c))]) dX1_moveHouses_16 (by decide) rfl ?_
          refine Go.iload_n dX1_moveHouses_17 rfl ?_
          refine Go.ldc dX1_moveHouses_18 cnX1_41 ?_
          refine Go.icmp_eq_f (tgt := 68) dX1_moveHouses_20 (by decide) (nI_NONE (by omega)) ?_
          refine Go.at 23 rfl ?_
          refine Go.iload_n dX1_moveHouses_23 rfl ?_
          refine Go.iload_n dX1_moveHouses_24 rfl ?_
          refine Go.callSi [vI set, vI (nI c)] [] dX1_moveHouses_25 lkX1_127 rfl (Nat.le_of_ble_eq_true rfl) rfl (Nat.le_of_ble_eq_true rfl) (c_has set (nI c)) ?_
          refine Go.if_neb_f (tgt := 68) dX1_moveHouses_28 (by decide) (fun z => hb ((bitU1 (by omega) set).mp z)) ?_
          refine Go.aload_n dX1_moveHouses_31 rfl ?_
          refine Go.getR dX1_moveHouses_32 flX1_30 (fBr hB 6 (by decide)) ?_
          refine Go.at 35 rfl ?_
          refine Go.iload_n dX1_moveHouses_35 rfl ?_
          refine Go.iload_n dX1_moveHouses_36 rfl ?_
          refine Go.iload_n dX1_moveHouses_37 rfl ?_
          refine Go.callSi [vI (nI c), vI set] [vI (nI k), vR (B + 7)] dX1_moveHouses_38 lkX1_160 rfl (Nat.le_of_ble_eq_true rfl) rfl (Nat.le_of_ble_eq_true rfl) (c_firstBeside set (by omega)) ?_
          refine Go.topE (y := nI q) (by rw [hf]; exact oNo_s (by omega)) ?_
          refine Go.iastore k dX1_moveHouses_41 (alB7 hB) (by omega) rfl ?_
          have c1 : CI B μ0 (ms μ (B + 7) k (nI q)) s0 (upd s (131 + 2 * k + 1) (nI q)) := hC.place hB hk (oN_n (by omega)).symm (Or.inr ⟨q, hq, rfl⟩)
          refine Go.aload_n dX1_moveHouses_42 rfl ?_
          refine Go.at 43 rfl ?_
          refine Go.getR dX1_moveHouses_43 flX1_30 (fBr hB 6 (by decide)) ?_
          refine Go.iload_n dX1_moveHouses_46 rfl ?_
          refine Go.iaload k dX1_moveHouses_47 (alB7 hB) (by omega) rfl ?_
          refine Go.topE (y := nI q) (by simp only [ms_self, upd_self]) ?_
          refine Go.ldc dX1_moveHouses_48 cnX1_41 ?_
          refine Go.icmp_ne_t (tgt := 68) dX1_moveHouses_50 (by decide) (nI_NONE (by omega)) ?_
          refine Go.iinc (v := nI (k + 1)) (ls' := [some (vR B), some (vI set), some (vI (nI (k + 1))), some (vI (nI c))]) dX1_moveHouses_68 rfl (nI_add _ _) (by decide) rfl ?_
          refine Go.at 71 rfl ?_
          refine Go.goto (tgt := 2) dX1_moveHouses_71 (by decide) ?_
          refine Go.mask [true, true, true, false] rfl ?_
          exact c_move_lp hB set j (k + 1) _ _ (by rw [moveC_nH]; omega) (show CI B μ0 _ s0 (moveC s set k) by unfold moveC; rw [if_neg h1, hcl, if_neg hb, hf]; exact c1)
theorem c_moveHouses {V : VV} {d : Nat} {μ0 : Memo} {s0 : Nat → Int32} {B : Nat} (hB : isB B) {μ : Memo} {s : Nat → Int32} (set : Int32) (hC : CI B μ0 μ s0 s) : RetU V (d + 2) mX1_moveHouses [vR B, vI set] μ (fun μ1 => CI B μ0 μ1 s0 (moveL s set 0 (nH s))) := by
  show Go V (d + 2) mX1_moveHouses 0 [some (vR B), some (vI set), none, none] [] μ _
  refine Go.iconst (v := nI 0) dX1_moveHouses_0 rfl ?_
  refine Go.istore_n (ls' := [some (vR B), some (vI set), some (vI (nI 0)), none]) dX1_moveHouses_1 (by decide) rfl ?_
  exact c_move_lp hB set (nH s) 0 _ _ (by omega) hC
theorem c_drawStorm {V : VV} {d : Nat} {μ0 : Memo} {s0 : Nat → Int32} {B : Nat} (hB : isB B) {μ : Memo} {s : Nat → Int32} (hC : CI B μ0 μ s0 s) : RetU V (d + 2) mX1_drawStorm [vR B] μ (fun μ1 => CI B μ0 μ1 s0 (stormS s)) := by
  show Go V (d + 2) mX1_drawStorm 0 [some (vR B), none] [] μ _
  refine Go.aload_n dX1_drawStorm_0 rfl ?_
  refine Go.callVx B [] [] dX1_drawStorm_1 lkX1_67 (rcB hB) rfl (Nat.le_of_ble_eq_true rfl) rfl (Nat.le_of_ble_eq_true rfl) (c_draw hB hC) (fun μ1 c1 => ?_)
  refine Go.bipush (v := nI 100) dX1_drawStorm_4 rfl ?_
  refine Go.iremE dX1_drawStorm_6 (by decide) ?_
  refine Go.aload_n dX1_drawStorm_7 rfl ?_
  refine Go.getR dX1_drawStorm_8 flX1_24 (fBr hB 4 (by decide)) ?_
  refine Go.at 11 rfl ?_
  refine Go.iconst (v := nI 4) dX1_drawStorm_11 rfl ?_
  refine Go.iaload 4 dX1_drawStorm_12 (alB5 hB) (by omega) rfl ?_
  refine Go.topE (y := s 9) (by rw [c1.1.2.1 4 (by decide)]; exact upd_ne _ _ (by decide)) ?_
  refine Go.icmp_ge (tgt := 20) dX1_drawStorm_13 (by decide) (fun h13 => ?_) (fun h13 => ?_)
  · -- 13 taken
    refine Go.iconst (v := (-1)) dX1_drawStorm_20 rfl ?_
    refine Go.istore_n (ls' := [some (vR B), some (vI (-1))]) dX1_drawStorm_21 (by decide) rfl ?_
    refine Go.aload_n dX1_drawStorm_22 rfl ?_
    refine Go.getR dX1_drawStorm_23 flX1_24 (fBr hB 4 (by decide)) ?_
    refine Go.iconst (v := nI 3) dX1_drawStorm_26 rfl ?_
    refine Go.aload_n dX1_drawStorm_27 rfl ?_
    refine Go.at 28 rfl ?_
    refine Go.getR dX1_drawStorm_28 flX1_24 (fBr hB 4 (by decide)) ?_
    refine Go.iconst (v := nI 3) dX1_drawStorm_31 rfl ?_
    refine Go.iaload 3 dX1_drawStorm_32 (alB5 hB) (by omega) rfl ?_
    refine Go.topE (y := s 8) (by rw [c1.1.2.1 3 (by decide)]; exact upd_ne _ _ (by decide)) ?_
    refine Go.iload_n dX1_drawStorm_33 rfl ?_
    refine Go.iadd dX1_drawStorm_34 ?_
    refine Go.iconst (v := nI 0) dX1_drawStorm_35 rfl ?_
    refine Go.at 36 rfl ?_
    refine Go.bipush (v := nI 9) dX1_drawStorm_36 rfl ?_
    refine Go.callNi [vI ((s 8) + (-1)), vI (nI 0), vI (nI 9)] [vI (nI 3), vR (B + 5)] dX1_drawStorm_38 rfl rfl lkHold rfl (Nat.le_of_ble_eq_true rfl) rfl (Nat.le_of_ble_eq_true rfl) ((c_hold ((s 8) + (-1)) (nI 0) (nI 9)).eq (hold_eq _ _ (by decide))) ?_
    refine Go.iastore 3 dX1_drawStorm_41 (alB5 hB) (by omega) rfl ?_
    have c2 : CI B μ0 (ms μ1 (B + 5) 3 (wiF ((s 8) + (-1)) (nI 9))) s0 (upd (drw s) 8 (wiF ((s 8) + (-1)) (nI 9))) := c1.water hB (j := 3) (by decide) (wiF ((s 8) + (-1)) (nI 9))
    refine Go.vreturn dX1_drawStorm_42 rfl ?_
    exact ⟨rfl, show CI B μ0 _ s0 (stormS s) by unfold stormS; rw [if_pos h13, ← add_n1]; exact c2⟩
  · -- 13 not
    refine Go.iconst (v := nI 1) dX1_drawStorm_16 rfl ?_
    refine Go.goto (tgt := 21) dX1_drawStorm_17 (by decide) ?_
    refine Go.istore_n (ls' := [some (vR B), some (vI (nI 1))]) dX1_drawStorm_21 (by decide) rfl ?_
    refine Go.aload_n dX1_drawStorm_22 rfl ?_
    refine Go.getR dX1_drawStorm_23 flX1_24 (fBr hB 4 (by decide)) ?_
    refine Go.iconst (v := nI 3) dX1_drawStorm_26 rfl ?_
    refine Go.at 27 rfl ?_
    refine Go.aload_n dX1_drawStorm_27 rfl ?_
    refine Go.getR dX1_drawStorm_28 flX1_24 (fBr hB 4 (by decide)) ?_
    refine Go.iconst (v := nI 3) dX1_drawStorm_31 rfl ?_
    refine Go.iaload 3 dX1_drawStorm_32 (alB5 hB) (by omega) rfl ?_
    refine Go.topE (y := s 8) (by rw [c1.1.2.1 3 (by decide)]; exact upd_ne _ _ (by decide)) ?_
    refine Go.iload_n dX1_drawStorm_33 rfl ?_
    refine Go.iadd dX1_drawStorm_34 ?_
    refine Go.at 35 rfl ?_
    refine Go.iconst (v := nI 0) dX1_drawStorm_35 rfl ?_
    refine Go.bipush (v := nI 9) dX1_drawStorm_36 rfl ?_
    refine Go.callNi [vI ((s 8) + (nI 1)), vI (nI 0), vI (nI 9)] [vI (nI 3), vR (B + 5)] dX1_drawStorm_38 rfl rfl lkHold rfl (Nat.le_of_ble_eq_true rfl) rfl (Nat.le_of_ble_eq_true rfl) ((c_hold ((s 8) + (nI 1)) (nI 0) (nI 9)).eq (hold_eq _ _ (by decide))) ?_
    refine Go.iastore 3 dX1_drawStorm_41 (alB5 hB) (by omega) rfl ?_
    have c3 : CI B μ0 (ms μ1 (B + 5) 3 (wiF ((s 8) + (nI 1)) (nI 9))) s0 (upd (drw s) 8 (wiF ((s 8) + (nI 1)) (nI 9))) := c1.water hB (j := 3) (by decide) (wiF ((s 8) + (nI 1)) (nI 9))
    refine Go.vreturn dX1_drawStorm_42 rfl ?_
    exact ⟨rfl, show CI B μ0 _ s0 (stormS s) by unfold stormS; rw [if_neg h13]; exact c3⟩
theorem c_passHour {V : VV} {d : Nat} {μ0 : Memo} {s0 : Nat → Int32} {B : Nat} (hB : isB B) {μ : Memo} {s : Nat → Int32} (hC : CI B μ0 μ s0 s) : RetU V (d + 5) mX1_passHour [vR B] μ (fun μ1 => CI B μ0 μ1 s0 (hourF s)) := by
  show Go V (d + 5) mX1_passHour 0 [some (vR B), none] [] μ _
  refine Go.aload_n dX1_passHour_0 rfl ?_
  refine Go.iconst (v := nI 0) dX1_passHour_1 rfl ?_
  refine Go.callVx B [vI (nI 0)] [] dX1_passHour_2 lkX1_102 (rcB hB) rfl (Nat.le_of_ble_eq_true rfl) rfl (Nat.le_of_ble_eq_true rfl) (c_dry hB hC.1 hC.2.1 hC.2.2.1 (nI 0)) (fun μ1 k1 => ?_)
  have c1 : CI B μ0 μ1 s0 s := hC.fr hB k1
  refine Go.istore_n (ls' := [some (vR B), some (vI (dryF s (nI 0)))]) dX1_passHour_5 (by decide) rfl ?_
  refine Go.aload_n dX1_passHour_6 rfl ?_
  refine Go.iload_n dX1_passHour_7 rfl ?_
  refine Go.at 8 rfl ?_
  refine Go.callVu B [vI (dryF s (nI 0))] [] dX1_passHour_8 lkX1_141 (rcB hB) rfl (Nat.le_of_ble_eq_true rfl) rfl (Nat.le_of_ble_eq_true rfl) (c_growCorn hB (dryF s (nI 0)) c1) (fun μ2 c2 => ?_)
  refine Go.aload_n dX1_passHour_11 rfl ?_
  refine Go.iload_n dX1_passHour_12 rfl ?_
  refine Go.callVu B [vI (dryF s (nI 0))] [] dX1_passHour_13 lkX1_145 (rcB hB) rfl (Nat.le_of_ble_eq_true rfl) rfl (Nat.le_of_ble_eq_true rfl) (c_moveHouses hB (dryF s (nI 0)) c2) (fun μ3 c3 => ?_)
  refine Go.aload_n dX1_passHour_16 rfl ?_
  refine Go.getI dX1_passHour_17 flX1_57 (fBi hB 8 (by decide) (by decide)) ?_
  refine Go.topE ((moveL (growL s (dryF s (nI 0)) 0 30) (dryF s (nI 0)) 0 (nH (growL s (dryF s (nI 0)) 0 30))) 2) c3.1.2.2.2.2.1 ?_
  refine Go.at 20 rfl ?_
  refine Go.bipush (v := nI 12) dX1_passHour_20 rfl ?_
  refine Go.iremE dX1_passHour_22 (by decide) ?_
  refine Go.if_ne (tgt := 30) dX1_passHour_23 (by decide) (fun h23 => ?_) (fun h23 => ?_)
  · -- 23 taken
    refine Go.aload_n dX1_passHour_30 rfl ?_
    refine Go.dupR dX1_passHour_31 ?_
    refine Go.getI dX1_passHour_32 flX1_57 (fBi hB 8 (by decide) (by decide)) ?_
    refine Go.topE ((moveL (growL s (dryF s (nI 0)) 0 30) (dryF s (nI 0)) 0 (nH (growL s (dryF s (nI 0)) 0 30))) 2) c3.1.2.2.2.2.1 ?_
    refine Go.iconst (v := nI 1) dX1_passHour_35 rfl ?_
    refine Go.iadd dX1_passHour_36 ?_
    refine Go.put dX1_passHour_37 flX1_57 (fBi hB 8 (by decide) (by decide)) rfl rfl rfl ?_
    have c4 : CI B μ0 (ms μ3 B 8 (((moveL (growL s (dryF s (nI 0)) 0 30) (dryF s (nI 0)) 0 (nH (growL s (dryF s (nI 0)) 0 30))) 2) + (nI 1))) s0 (upd (moveL (growL s (dryF s (nI 0)) 0 30) (dryF s (nI 0)) 0 (nH (growL s (dryF s (nI 0)) 0 30))) 2 (((moveL (growL s (dryF s (nI 0)) 0 30) (dryF s (nI 0)) 0 (nH (growL s (dryF s (nI 0)) 0 30))) 2) + (nI 1))) := c3.hour hB (((moveL (growL s (dryF s (nI 0)) 0 30) (dryF s (nI 0)) 0 (nH (growL s (dryF s (nI 0)) 0 30))) 2) + (nI 1))
    refine Go.at 40 rfl ?_
    refine Go.vreturn dX1_passHour_40 rfl ?_
    exact ⟨rfl, show CI B μ0 _ s0 (hourF s) by unfold hourF hourE; simp only []; rw [if_neg h23]; exact c4⟩
  · -- 23 not
    refine Go.aload_n dX1_passHour_26 rfl ?_
    refine Go.callVu B [] [] dX1_passHour_27 lkX1_148 (rcB hB) rfl (Nat.le_of_ble_eq_true rfl) rfl (Nat.le_of_ble_eq_true rfl) (c_drawStorm hB c3) (fun μ5 c5 => ?_)
    refine Go.aload_n dX1_passHour_30 rfl ?_
    refine Go.dupR dX1_passHour_31 ?_
    refine Go.getI dX1_passHour_32 flX1_57 (fBi hB 8 (by decide) (by decide)) ?_
    refine Go.topE ((stormS (moveL (growL s (dryF s (nI 0)) 0 30) (dryF s (nI 0)) 0 (nH (growL s (dryF s (nI 0)) 0 30)))) 2) c5.1.2.2.2.2.1 ?_
    refine Go.iconst (v := nI 1) dX1_passHour_35 rfl ?_
    refine Go.at 36 rfl ?_
    refine Go.iadd dX1_passHour_36 ?_
    refine Go.put dX1_passHour_37 flX1_57 (fBi hB 8 (by decide) (by decide)) rfl rfl rfl ?_
    have c6 : CI B μ0 (ms μ5 B 8 (((stormS (moveL (growL s (dryF s (nI 0)) 0 30) (dryF s (nI 0)) 0 (nH (growL s (dryF s (nI 0)) 0 30)))) 2) + (nI 1))) s0 (upd (stormS (moveL (growL s (dryF s (nI 0)) 0 30) (dryF s (nI 0)) 0 (nH (growL s (dryF s (nI 0)) 0 30)))) 2 (((stormS (moveL (growL s (dryF s (nI 0)) 0 30) (dryF s (nI 0)) 0 (nH (growL s (dryF s (nI 0)) 0 30)))) 2) + (nI 1))) := c5.hour hB (((stormS (moveL (growL s (dryF s (nI 0)) 0 30) (dryF s (nI 0)) 0 (nH (growL s (dryF s (nI 0)) 0 30)))) 2) + (nI 1))
    refine Go.vreturn dX1_passHour_40 rfl ?_
    exact ⟨rfl, show CI B μ0 _ s0 (hourF s) by unfold hourF hourE; simp only []; rw [if_pos h23]; exact c6⟩
theorem m_grow_lp {V : VV} {d : Nat} {μ0 : Memo} {Q : Option AVal → Memo → Prop} (set : Int32) :
    ∀ (j k : Nat) (μ : Memo) (s : Nat → Int32), k + j = 30 → TxtsOK s → MI μ0 μ s → (∀ μ1, MI μ0 μ1 (growL s set k j) → Go V (d + 3) mX9_goesOn 76 [some (vR 76), some (vI set), some (vI (nI 30)), none, none, none, none] [] μ1 Q) → Go V (d + 3) mX9_goesOn 8 [some (vR 76), some (vI set), some (vI (nI k)), none, none, none, none] [] μ (Q)
  | 0, k, μ, s, hkj, hT, hM, hQ => by
    obtain rfl : k = 30 := by omega
    refine Go.iload_n dX9_goesOn_8 rfl ?_
    refine Go.bipush (v := nI 30) dX9_goesOn_9 rfl ?_
    refine Go.icmp_ge_t (tgt := 76) dX9_goesOn_11 (by decide) (by decide) ?_
    exact hQ _ hM
  | j + 1, k, μ, s, hkj, hT, hM, hQ => by
    have hk : k < 30 := by omega
    have hb9 := bitM1 (c := k) (by omega) set
    have hT2 : TxtsOK (growC s set k) := by
      rcases growC_0 s set k with g | g
      · exact hT.same g.2.1 g.2.2
      · exact absurd hk g
    refine Go.iload_n dX9_goesOn_8 rfl ?_
    refine Go.bipush (v := nI 30) dX9_goesOn_9 rfl ?_
    refine Go.icmp_ge_f (tgt := 76) dX9_goesOn_11 (by decide) (nI_ge hk (by decide)) ?_
    refine Go.aload_n dX9_goesOn_14 rfl ?_
    refine Go.iload_n dX9_goesOn_15 rfl ?_
    refine Go.iconst (v := nI 0) dX9_goesOn_16 rfl ?_
    refine Go.at 17 rfl ?_
    refine Go.callVi 76 [vI (nI k), vI (nI 0)] [] dX9_goesOn_17 lkX9_70 (Or.inl ⟨_, _, _, rfl, rfl, rfl⟩) rfl (Nat.le_of_ble_eq_true rfl) rfl (Nat.le_of_ble_eq_true rfl) (m_of0 hM.1 k hk) ?_
    refine Go.iconst (v := nI 1) dX9_goesOn_20 rfl ?_
    refine Go.icmp_eq (tgt := 34) dX9_goesOn_21 (by decide) (fun h21 => ?_) (fun h21 => ?_)
    · -- 21 taken
      refine Go.aload_n dX9_goesOn_34 rfl ?_
      refine Go.iload_n dX9_goesOn_35 rfl ?_
      refine Go.iconst (v := nI 2) dX9_goesOn_36 rfl ?_
      refine Go.iload_n dX9_goesOn_37 rfl ?_
      refine Go.iload_n dX9_goesOn_38 rfl ?_
      refine Go.ishr dX9_goesOn_39 ?_
      refine Go.at 40 rfl ?_
      refine Go.iconst (v := nI 1) dX9_goesOn_40 rfl ?_
      refine Go.iand dX9_goesOn_41 ?_
      refine Go.iconst (v := nI 1) dX9_goesOn_42 rfl ?_
      refine Go.icmp_ne (tgt := 66) dX9_goesOn_43 (by decide) (fun h43 => ?_) (fun h43 => ?_)
      · -- 43 taken
        refine Go.iconst (v := nI 0) dX9_goesOn_66 rfl ?_
        refine Go.callVv 76 [vI (nI k), vI (nI 2), vI (nI 0)] [] dX9_goesOn_67 lkX9_99 (Or.inl ⟨_, _, _, rfl, rfl, rfl⟩) rfl (Nat.le_of_ble_eq_true rfl) rfl (Nat.le_of_ble_eq_true rfl) (m_sets k 2 hk (by decide) (nI 0)) ?_
        have c1 : MI μ0 (ms μ 77 (11 + 4 * k + 2) (nI 0)) (upd s (11 + 4 * k + 2) (nI 0)) := hM.st _ (nI 0)
        refine Go.iinc (v := nI (k + 1)) (ls' := [some (vR 76), some (vI set), some (vI (nI (k + 1))), none, none, none, none]) dX9_goesOn_70 rfl (nI_add _ _) (by decide) rfl ?_
        refine Go.goto (tgt := 8) dX9_goesOn_73 (by decide) ?_
        exact m_grow_lp set j (k + 1) _ _ (by omega) hT2 (show MI μ0 _ (growC s set k) by unfold growC; rw [if_pos (by first | exact Or.inl h21 | exact Or.inr (Or.inr (Or.inl ⟨rfl, h31⟩))), if_neg (fun z => h43 (hb9.mpr z))]; exact c1) hQ
      · -- 43 not
        refine Go.aload_n dX9_goesOn_46 rfl ?_
        refine Go.iload_n dX9_goesOn_47 rfl ?_
        refine Go.iconst (v := nI 2) dX9_goesOn_48 rfl ?_
        refine Go.callVi 76 [vI (nI k), vI (nI 2)] [vI (nI 2), vI (nI k), vR 76] dX9_goesOn_49 lkX9_70 (Or.inl ⟨_, _, _, rfl, rfl, rfl⟩) rfl (Nat.le_of_ble_eq_true rfl) rfl (Nat.le_of_ble_eq_true rfl) (m_of hM.1 k 2 hk (by decide)) ?_
        refine Go.aload_n dX9_goesOn_52 rfl ?_
        refine Go.iload_n dX9_goesOn_53 rfl ?_
        refine Go.at 54 rfl ?_
        refine Go.callVx 76 [vI (nI k)] [vI (s (11 + 4 * k + 2)), vI (nI 2), vI (nI k), vR 76] dX9_goesOn_54 lkX9_178 (Or.inl ⟨_, _, _, rfl, rfl, rfl⟩) rfl (Nat.le_of_ble_eq_true rfl) rfl (Nat.le_of_ble_eq_true rfl) (m_grows hM.1 hT k hk) (fun μ2 k2 => ?_)
        have c2 : MI μ0 μ2 s := hM.fr k2
        refine Go.iadd dX9_goesOn_57 ?_
        refine Go.bipush (v := nI 99) dX9_goesOn_58 rfl ?_
        refine Go.callSi [vI ((s (11 + 4 * k + 2)) + (growF s k)), vI (nI 99)] [vI (nI 2), vI (nI k), vR 76] dX9_goesOn_60 lkX9_84 rfl (Nat.le_of_ble_eq_true rfl) rfl (Nat.le_of_ble_eq_true rfl) (m_within ((s (11 + 4 * k + 2)) + (growF s k)) (nI 99)) ?_
        refine Go.goto (tgt := 67) dX9_goesOn_63 (by decide) ?_
        refine Go.callVv 76 [vI (nI k), vI (nI 2), vI (wiF ((s (11 + 4 * k + 2)) + (growF s k)) (nI 99))] [] dX9_goesOn_67 lkX9_99 (Or.inl ⟨_, _, _, rfl, rfl, rfl⟩) rfl (Nat.le_of_ble_eq_true rfl) rfl (Nat.le_of_ble_eq_true rfl) (m_sets k 2 hk (by decide) (wiF ((s (11 + 4 * k + 2)) + (growF s k)) (nI 99))) ?_
        have c3 : MI μ0 (ms μ2 77 (11 + 4 * k + 2) (wiF ((s (11 + 4 * k + 2)) + (growF s k)) (nI 99))) (upd s (11 + 4 * k + 2) (wiF ((s (11 + 4 * k + 2)) + (growF s k)) (nI 99))) := c2.st _ (wiF ((s (11 + 4 * k + 2)) + (growF s k)) (nI 99))
        refine Go.at 70 rfl ?_
        refine Go.iinc (v := nI (k + 1)) (ls' := [some (vR 76), some (vI set), some (vI (nI (k + 1))), none, none, none, none]) dX9_goesOn_70 rfl (nI_add _ _) (by decide) rfl ?_
        refine Go.goto (tgt := 8) dX9_goesOn_73 (by decide) ?_
        exact m_grow_lp set j (k + 1) _ _ (by omega) hT2 (show MI μ0 _ (growC s set k) by unfold growC; rw [if_pos (by first | exact Or.inl h21 | exact Or.inr (Or.inr (Or.inl ⟨rfl, h31⟩))), if_pos (hb9.mp h43)]; exact c3) hQ
    · -- 21 not
      refine Go.aload_n dX9_goesOn_24 rfl ?_
      refine Go.iload_n dX9_goesOn_25 rfl ?_
      refine Go.iconst (v := nI 0) dX9_goesOn_26 rfl ?_
      refine Go.callVi 76 [vI (nI k), vI (nI 0)] [] dX9_goesOn_27 lkX9_70 (Or.inl ⟨_, _, _, rfl, rfl, rfl⟩) rfl (Nat.le_of_ble_eq_true rfl) rfl (Nat.le_of_ble_eq_true rfl) (m_of0 hM.1 k hk) ?_
      refine Go.iconst (v := nI 3) dX9_goesOn_30 rfl ?_
      refine Go.icmp_ne (tgt := 70) dX9_goesOn_31 (by decide) (fun h31 => ?_) (fun h31 => ?_)
      · -- 31 taken
        refine Go.iinc (v := nI (k + 1)) (ls' := [some (vR 76), some (vI set), some (vI (nI (k + 1))), none, none, none, none]) dX9_goesOn_70 rfl (nI_add _ _) (by decide) rfl ?_
        refine Go.goto (tgt := 8) dX9_goesOn_73 (by decide) ?_
        exact m_grow_lp set j (k + 1) _ _ (by omega) hT2 (show MI μ0 _ (growC s set k) by unfold growC; rw [if_neg (by rintro (z | z | ⟨_, z⟩ | ⟨z, _⟩) <;> first | exact h21 z | exact h31 z | exact absurd z (by decide))]; exact hM) hQ
      · -- 31 not
        refine Go.aload_n dX9_goesOn_34 rfl ?_
        refine Go.iload_n dX9_goesOn_35 rfl ?_
        refine Go.iconst (v := nI 2) dX9_goesOn_36 rfl ?_
        refine Go.iload_n dX9_goesOn_37 rfl ?_
        refine Go.iload_n dX9_goesOn_38 rfl ?_
        refine Go.ishr dX9_goesOn_39 ?_
        refine Go.at 40 rfl ?_
        refine Go.iconst (v := nI 1) dX9_goesOn_40 rfl ?_
        refine Go.iand dX9_goesOn_41 ?_
        refine Go.iconst (v := nI 1) dX9_goesOn_42 rfl ?_
        refine Go.icmp_ne (tgt := 66) dX9_goesOn_43 (by decide) (fun h43 => ?_) (fun h43 => ?_)
        · -- 43 taken
          refine Go.iconst (v := nI 0) dX9_goesOn_66 rfl ?_
          refine Go.callVv 76 [vI (nI k), vI (nI 2), vI (nI 0)] [] dX9_goesOn_67 lkX9_99 (Or.inl ⟨_, _, _, rfl, rfl, rfl⟩) rfl (Nat.le_of_ble_eq_true rfl) rfl (Nat.le_of_ble_eq_true rfl) (m_sets k 2 hk (by decide) (nI 0)) ?_
          have c4 : MI μ0 (ms μ 77 (11 + 4 * k + 2) (nI 0)) (upd s (11 + 4 * k + 2) (nI 0)) := hM.st _ (nI 0)
          refine Go.iinc (v := nI (k + 1)) (ls' := [some (vR 76), some (vI set), some (vI (nI (k + 1))), none, none, none, none]) dX9_goesOn_70 rfl (nI_add _ _) (by decide) rfl ?_
          refine Go.goto (tgt := 8) dX9_goesOn_73 (by decide) ?_
          exact m_grow_lp set j (k + 1) _ _ (by omega) hT2 (show MI μ0 _ (growC s set k) by unfold growC; rw [if_pos (by first | exact Or.inl h21 | exact Or.inr (Or.inr (Or.inl ⟨rfl, h31⟩))), if_neg (fun z => h43 (hb9.mpr z))]; exact c4) hQ
        · -- 43 not
          refine Go.aload_n dX9_goesOn_46 rfl ?_
          refine Go.iload_n dX9_goesOn_47 rfl ?_
          refine Go.iconst (v := nI 2) dX9_goesOn_48 rfl ?_
          refine Go.callVi 76 [vI (nI k), vI (nI 2)] [vI (nI 2), vI (nI k), vR 76] dX9_goesOn_49 lkX9_70 (Or.inl ⟨_, _, _, rfl, rfl, rfl⟩) rfl (Nat.le_of_ble_eq_true rfl) rfl (Nat.le_of_ble_eq_true rfl) (m_of hM.1 k 2 hk (by decide)) ?_
          refine Go.aload_n dX9_goesOn_52 rfl ?_
          refine Go.iload_n dX9_goesOn_53 rfl ?_
          refine Go.at 54 rfl ?_
          refine Go.callVx 76 [vI (nI k)] [vI (s (11 + 4 * k + 2)), vI (nI 2), vI (nI k), vR 76] dX9_goesOn_54 lkX9_178 (Or.inl ⟨_, _, _, rfl, rfl, rfl⟩) rfl (Nat.le_of_ble_eq_true rfl) rfl (Nat.le_of_ble_eq_true rfl) (m_grows hM.1 hT k hk) (fun μ5 k5 => ?_)
          have c5 : MI μ0 μ5 s := hM.fr k5
          refine Go.iadd dX9_goesOn_57 ?_
          refine Go.bipush (v := nI 99) dX9_goesOn_58 rfl ?_
          refine Go.callSi [vI ((s (11 + 4 * k + 2)) + (growF s k)), vI (nI 99)] [vI (nI 2), vI (nI k), vR 76] dX9_goesOn_60 lkX9_84 rfl (Nat.le_of_ble_eq_true rfl) rfl (Nat.le_of_ble_eq_true rfl) (m_within ((s (11 + 4 * k + 2)) + (growF s k)) (nI 99)) ?_
          refine Go.goto (tgt := 67) dX9_goesOn_63 (by decide) ?_
          refine Go.callVv 76 [vI (nI k), vI (nI 2), vI (wiF ((s (11 + 4 * k + 2)) + (growF s k)) (nI 99))] [] dX9_goesOn_67 lkX9_99 (Or.inl ⟨_, _, _, rfl, rfl, rfl⟩) rfl (Nat.le_of_ble_eq_true rfl) rfl (Nat.le_of_ble_eq_true rfl) (m_sets k 2 hk (by decide) (wiF ((s (11 + 4 * k + 2)) + (growF s k)) (nI 99))) ?_
          have c6 : MI μ0 (ms μ5 77 (11 + 4 * k + 2) (wiF ((s (11 + 4 * k + 2)) + (growF s k)) (nI 99))) (upd s (11 + 4 * k + 2) (wiF ((s (11 + 4 * k + 2)) + (growF s k)) (nI 99))) := c5.st _ (wiF ((s (11 + 4 * k + 2)) + (growF s k)) (nI 99))
          refine Go.at 70 rfl ?_
          refine Go.iinc (v := nI (k + 1)) (ls' := [some (vR 76), some (vI set), some (vI (nI (k + 1))), none, none, none, none]) dX9_goesOn_70 rfl (nI_add _ _) (by decide) rfl ?_
          refine Go.goto (tgt := 8) dX9_goesOn_73 (by decide) ?_
          exact m_grow_lp set j (k + 1) _ _ (by omega) hT2 (show MI μ0 _ (growC s set k) by unfold growC; rw [if_pos (by first | exact Or.inl h21 | exact Or.inr (Or.inr (Or.inl ⟨rfl, h31⟩))), if_pos (hb9.mp h43)]; exact c6) hQ
theorem m_by_lp {V : VV} {d : Nat} {μ : Memo} {Q : Option AVal → Memo → Prop} (set : Int32) (k : Nat) {c : Nat} (hc : c < 30) :
    ∀ (j i : Nat), i + j = 4 → Go V (d + 3) mX9_goesOn 160 [some (vR 76), some (vI set), some (vI (nI k)), some (vI (nI c)), some (vI (oI (fbF set c j i))), none, none] [] μ Q → Go V (d + 3) mX9_goesOn 112 [some (vR 76), some (vI set), some (vI (nI k)), some (vI (nI c)), some (vI (-1)), some (vI (nI i)), none] [] μ Q
  | 0, i, hij, hQ => by
    obtain rfl : i = 4 := by omega
    have hQ : Go V (d + 3) mX9_goesOn 160 [some (vR 76), some (vI set), some (vI (nI k)), some (vI (nI c)), some (vI (-1)), none, none] [] μ Q := hQ
    refine Go.iload dX9_goesOn_112 rfl ?_
    refine Go.iconst (v := nI 4) dX9_goesOn_114 rfl ?_
    refine Go.icmp_ge_t (tgt := 160) dX9_goesOn_115 (by decide) (by decide) ?_
    refine Go.mask [true, true, true, true, true, false, false] rfl ?_
    exact hQ
  | j + 1, i, hij, hQ => by
    have hi : i < 4 := by omega
    rw [fbF] at hQ
    cases hq : nbO c i with
    | none =>
      rw [hq] at hQ
      refine Go.iload dX9_goesOn_112 rfl ?_
      refine Go.iconst (v := nI 4) dX9_goesOn_114 rfl ?_
      refine Go.icmp_ge_f (tgt := 160) dX9_goesOn_115 (by decide) (nI_ge hi (by decide)) ?_
      refine Go.iload dX9_goesOn_118 rfl ?_
      refine Go.if_ge_f (tgt := 160) dX9_goesOn_120 (by decide) (by decide) ?_
      refine Go.iload_n dX9_goesOn_123 rfl ?_
      refine Go.at 124 rfl ?_
      refine Go.iload dX9_goesOn_124 rfl ?_
      refine Go.callSi [vI (nI c), vI (nI i)] [] dX9_goesOn_126 lkX9_137 rfl (Nat.le_of_ble_eq_true rfl) rfl (Nat.le_of_ble_eq_true rfl) (m_beside c i (by omega) (by omega)) ?_
      refine Go.topE (y := (-1)) (by rw [hq]; rfl) ?_
      refine Go.istore (ls' := [some (vR 76), some (vI set), some (vI (nI k)), some (vI (nI c)), some (vI (-1)), some (vI (nI i)), some (vI (-1))]) dX9_goesOn_129 (by decide) rfl ?_
      refine Go.iload dX9_goesOn_131 rfl ?_
      refine Go.if_lt_t (tgt := 151) dX9_goesOn_133 (by decide) (by decide) ?_
      refine Go.iconst (v := (-1)) dX9_goesOn_151 rfl ?_
      refine Go.at 152 rfl ?_
      refine Go.istore (ls' := [some (vR 76), some (vI set), some (vI (nI k)), some (vI (nI c)), some (vI (-1)), some (vI (nI i)), some (vI (-1))]) dX9_goesOn_152 (by decide) rfl ?_
      refine Go.iinc (v := nI (i + 1)) (ls' := [some (vR 76), some (vI set), some (vI (nI k)), some (vI (nI c)), some (vI (-1)), some (vI (nI (i + 1))), some (vI (-1))]) dX9_goesOn_154 rfl (nI_add _ _) (by decide) rfl ?_
      refine Go.goto (tgt := 112) dX9_goesOn_157 (by decide) ?_
      refine Go.mask [true, true, true, true, true, true, false] rfl ?_
      exact m_by_lp set k hc j (i + 1) (by omega) hQ
    | some q =>
      have hq30 := nbO_lt hc hq
      rw [hq] at hQ
      simp only [] at hQ
      by_cases hb : bt set q = true
      · rw [if_pos hb] at hQ
        have hQ : Go V (d + 3) mX9_goesOn 160 [some (vR 76), some (vI set), some (vI (nI k)), some (vI (nI c)), some (vI (nI q)), none, none] [] μ Q := hQ
        refine Go.iload dX9_goesOn_112 rfl ?_
        refine Go.iconst (v := nI 4) dX9_goesOn_114 rfl ?_
        refine Go.icmp_ge_f (tgt := 160) dX9_goesOn_115 (by decide) (nI_ge hi (by decide)) ?_
        refine Go.iload dX9_goesOn_118 rfl ?_
        refine Go.if_ge_f (tgt := 160) dX9_goesOn_120 (by decide) (by decide) ?_
        refine Go.iload_n dX9_goesOn_123 rfl ?_
        refine Go.at 124 rfl ?_
        refine Go.iload dX9_goesOn_124 rfl ?_
        refine Go.callSi [vI (nI c), vI (nI i)] [] dX9_goesOn_126 lkX9_137 rfl (Nat.le_of_ble_eq_true rfl) rfl (Nat.le_of_ble_eq_true rfl) (m_beside c i (by omega) (by omega)) ?_
        refine Go.topE (y := nI q) (by rw [hq]; rfl) ?_
        refine Go.istore (ls' := [some (vR 76), some (vI set), some (vI (nI k)), some (vI (nI c)), some (vI (-1)), some (vI (nI i)), some (vI (nI q))]) dX9_goesOn_129 (by decide) rfl ?_
        refine Go.iload dX9_goesOn_131 rfl ?_
        refine Go.if_lt_f (tgt := 151) dX9_goesOn_133 (by decide) (nI_pos (by omega)) ?_
        refine Go.iload_n dX9_goesOn_136 rfl ?_
        refine Go.at 137 rfl ?_
        refine Go.iload dX9_goesOn_137 rfl ?_
        refine Go.ishr dX9_goesOn_139 ?_
        refine Go.iconst (v := nI 1) dX9_goesOn_140 rfl ?_
        refine Go.iand dX9_goesOn_141 ?_
        refine Go.iconst (v := nI 1) dX9_goesOn_142 rfl ?_
        refine Go.icmp_ne_f (tgt := 151) dX9_goesOn_143 (by decide) ((bitM1 (by omega) set).mpr hb) ?_
        refine Go.at 146 rfl ?_
        refine Go.iload dX9_goesOn_146 rfl ?_
        refine Go.goto (tgt := 152) dX9_goesOn_148 (by decide) ?_
        refine Go.istore (ls' := [some (vR 76), some (vI set), some (vI (nI k)), some (vI (nI c)), some (vI (nI q)), some (vI (nI i)), some (vI (nI q))]) dX9_goesOn_152 (by decide) rfl ?_
        refine Go.iinc (v := nI (i + 1)) (ls' := [some (vR 76), some (vI set), some (vI (nI k)), some (vI (nI c)), some (vI (nI q)), some (vI (nI (i + 1))), some (vI (nI q))]) dX9_goesOn_154 rfl (nI_add _ _) (by decide) rfl ?_
        refine Go.goto (tgt := 112) dX9_goesOn_157 (by decide) ?_
        by_cases h4 : i + 1 < 4
        · skip
          refine Go.iload dX9_goesOn_112 rfl ?_
          refine Go.iconst (v := nI 4) dX9_goesOn_114 rfl ?_
          refine Go.icmp_ge_f (tgt := 160) dX9_goesOn_115 (by decide) (nI_ge h4 (by decide)) ?_
          refine Go.iload dX9_goesOn_118 rfl ?_
          refine Go.if_ge_t (tgt := 160) dX9_goesOn_120 (by decide) (nI_pos' (by omega)) ?_
          refine Go.mask [true, true, true, true, true, false, false] rfl ?_
          exact hQ
        · obtain rfl : i = 3 := by omega
          refine Go.iload dX9_goesOn_112 rfl ?_
          refine Go.iconst (v := nI 4) dX9_goesOn_114 rfl ?_
          refine Go.icmp_ge_t (tgt := 160) dX9_goesOn_115 (by decide) (by decide) ?_
          refine Go.mask [true, true, true, true, true, false, false] rfl ?_
          exact hQ
      · rw [if_neg hb] at hQ
        refine Go.iload dX9_goesOn_112 rfl ?_
        refine Go.iconst (v := nI 4) dX9_goesOn_114 rfl ?_
        refine Go.icmp_ge_f (tgt := 160) dX9_goesOn_115 (by decide) (nI_ge hi (by decide)) ?_
        refine Go.iload dX9_goesOn_118 rfl ?_
        refine Go.if_ge_f (tgt := 160) dX9_goesOn_120 (by decide) (by decide) ?_
        refine Go.iload_n dX9_goesOn_123 rfl ?_
        refine Go.at 124 rfl ?_
        refine Go.iload dX9_goesOn_124 rfl ?_
        refine Go.callSi [vI (nI c), vI (nI i)] [] dX9_goesOn_126 lkX9_137 rfl (Nat.le_of_ble_eq_true rfl) rfl (Nat.le_of_ble_eq_true rfl) (m_beside c i (by omega) (by omega)) ?_
        refine Go.topE (y := nI q) (by rw [hq]; rfl) ?_
        refine Go.istore (ls' := [some (vR 76), some (vI set), some (vI (nI k)), some (vI (nI c)), some (vI (-1)), some (vI (nI i)), some (vI (nI q))]) dX9_goesOn_129 (by decide) rfl ?_
        refine Go.iload dX9_goesOn_131 rfl ?_
        refine Go.if_lt_f (tgt := 151) dX9_goesOn_133 (by decide) (nI_pos (by omega)) ?_
        refine Go.iload_n dX9_goesOn_136 rfl ?_
        refine Go.at 137 rfl ?_
        refine Go.iload dX9_goesOn_137 rfl ?_
        refine Go.ishr dX9_goesOn_139 ?_
        refine Go.iconst (v := nI 1) dX9_goesOn_140 rfl ?_
        refine Go.iand dX9_goesOn_141 ?_
        refine Go.iconst (v := nI 1) dX9_goesOn_142 rfl ?_
        refine Go.icmp_ne_t (tgt := 151) dX9_goesOn_143 (by decide) (fun z => hb ((bitM1 (by omega) set).mp z)) ?_
        refine Go.at 151 rfl ?_
        refine Go.iconst (v := (-1)) dX9_goesOn_151 rfl ?_
        refine Go.istore (ls' := [some (vR 76), some (vI set), some (vI (nI k)), some (vI (nI c)), some (vI (-1)), some (vI (nI i)), some (vI (nI q))]) dX9_goesOn_152 (by decide) rfl ?_
        refine Go.iinc (v := nI (i + 1)) (ls' := [some (vR 76), some (vI set), some (vI (nI k)), some (vI (nI c)), some (vI (-1)), some (vI (nI (i + 1))), some (vI (nI q))]) dX9_goesOn_154 rfl (nI_add _ _) (by decide) rfl ?_
        refine Go.goto (tgt := 112) dX9_goesOn_157 (by decide) ?_
        refine Go.mask [true, true, true, true, true, true, false] rfl ?_
        exact m_by_lp set k hc j (i + 1) (by omega) hQ
theorem m_move_lp {V : VV} {d : Nat} {μ0 : Memo} {Q : Option AVal → Memo → Prop} (set : Int32) :
    ∀ (j k : Nat) (μ : Memo) (s : Nat → Int32), k + j = nH s → HouOK s → MI μ0 μ s → (∀ μ1 kk, MI μ0 μ1 (moveL s set k j) → Go V (d + 3) mX9_goesOn 205 [some (vR 76), some (vI set), some (vI kk), none, none, none, none] [] μ1 Q) → Go V (d + 3) mX9_goesOn 78 [some (vR 76), some (vI set), some (vI (nI k)), none, none, none, none] [] μ (Q)
  | 0, k, μ, s, hkj, hH, hM, hQ => by
    obtain rfl : k = nH s := by omega
    have h8 := hH.1
    refine Go.iload_n dX9_goesOn_78 rfl ?_
    refine Go.aload_n dX9_goesOn_79 rfl ?_
    refine Go.getR dX9_goesOn_80 flX9_7 rfl ?_
    refine Go.iconst (v := nI 0) dX9_goesOn_83 rfl ?_
    refine Go.iaload 0 dX9_goesOn_84 rfl (by omega) rfl ?_
    refine Go.topE (y := nI (nH s)) ((congrFun hM.1 0).trans hH.2.1) ?_
    refine Go.icmp_ge_t (tgt := 205) dX9_goesOn_85 (by decide) (by rw [sI_le]; exact Int.le_refl _) ?_
    refine Go.at 205 rfl ?_
    exact hQ _ _ hM
  | j + 1, k, μ, s, hkj, hH, hM, hQ => by
    have hk : k < nH s := by omega
    have h8 := hH.1
    have hH2 := moveC_dom hH set hk
    by_cases h1 : s (131 + 2 * k + 1) = (-1)
    · skip
      refine Go.iload_n dX9_goesOn_78 rfl ?_
      refine Go.aload_n dX9_goesOn_79 rfl ?_
      refine Go.getR dX9_goesOn_80 flX9_7 rfl ?_
      refine Go.iconst (v := nI 0) dX9_goesOn_83 rfl ?_
      refine Go.iaload 0 dX9_goesOn_84 rfl (by omega) rfl ?_
      refine Go.topE (y := nI (nH s)) ((congrFun hM.1 0).trans hH.2.1) ?_
      refine Go.icmp_ge_f (tgt := 205) dX9_goesOn_85 (by decide) (nI_ge hk (by omega)) ?_
      refine Go.at 88 rfl ?_
      refine Go.aload_n dX9_goesOn_88 rfl ?_
      refine Go.iload_n dX9_goesOn_89 rfl ?_
      refine Go.callVi 76 [vI (nI k)] [] dX9_goesOn_90 lkX9_171 (Or.inl ⟨_, _, _, rfl, rfl, rfl⟩) rfl (Nat.le_of_ble_eq_true rfl) rfl (Nat.le_of_ble_eq_true rfl) (m_where hM.1 k (by omega)) ?_
      refine Go.topE (y := (-1)) h1 ?_
      refine Go.istore_n (ls' := [some (vR 76), some (vI set), some (vI (nI k)), some (vI (-1)), none, none, none]) dX9_goesOn_93 (by decide) rfl ?_
      refine Go.iload_n dX9_goesOn_94 rfl ?_
      refine Go.if_lt_t (tgt := 199) dX9_goesOn_95 (by decide) (by decide) ?_
      refine Go.at 199 rfl ?_
      refine Go.iinc (v := nI (k + 1)) (ls' := [some (vR 76), some (vI set), some (vI (nI (k + 1))), some (vI (-1)), none, none, none]) dX9_goesOn_199 rfl (nI_add _ _) (by decide) rfl ?_
      refine Go.goto (tgt := 78) dX9_goesOn_202 (by decide) ?_
      refine Go.mask [true, true, true, false, false, false, false] rfl ?_
      exact m_move_lp set j (k + 1) _ _ (by rw [moveC_nH]; omega) hH2 (show MI μ0 _ (moveC s set k) by unfold moveC; rw [if_pos h1]; exact hM) hQ
    · obtain ⟨c, hc, ec⟩ := (hH.2.2 k hk).resolve_left h1
      have hcl : (s (131 + 2 * k + 1)).toNatClampNeg = c := by rw [ec]; exact clN (by omega)
      by_cases hb : bt set c = true
      · skip
        refine Go.iload_n dX9_goesOn_78 rfl ?_
        refine Go.aload_n dX9_goesOn_79 rfl ?_
        refine Go.getR dX9_goesOn_80 flX9_7 rfl ?_
        refine Go.iconst (v := nI 0) dX9_goesOn_83 rfl ?_
        refine Go.iaload 0 dX9_goesOn_84 rfl (by omega) rfl ?_
        refine Go.topE (y := nI (nH s)) ((congrFun hM.1 0).trans hH.2.1) ?_
        refine Go.icmp_ge_f (tgt := 205) dX9_goesOn_85 (by decide) (nI_ge hk (by omega)) ?_
        refine Go.at 88 rfl ?_
        refine Go.aload_n dX9_goesOn_88 rfl ?_
        refine Go.iload_n dX9_goesOn_89 rfl ?_
        refine Go.callVi 76 [vI (nI k)] [] dX9_goesOn_90 lkX9_171 (Or.inl ⟨_, _, _, rfl, rfl, rfl⟩) rfl (Nat.le_of_ble_eq_true rfl) rfl (Nat.le_of_ble_eq_true rfl) (m_where hM.1 k (by omega)) ?_
        refine Go.topE (y := nI c) ec ?_
        refine Go.istore_n (ls' := [some (vR 76), some (vI set), some (vI (nI k)), some (vI (nI c)), none, none, none]) dX9_goesOn_93 (by decide) rfl ?_
        refine Go.iload_n dX9_goesOn_94 rfl ?_
        refine Go.if_lt_f (tgt := 199) dX9_goesOn_95 (by decide) (nI_pos (by omega)) ?_
        refine Go.at 98 rfl ?_
        refine Go.iload_n dX9_goesOn_98 rfl ?_
        refine Go.iload_n dX9_goesOn_99 rfl ?_
        refine Go.ishr dX9_goesOn_100 ?_
        refine Go.iconst (v := nI 1) dX9_goesOn_101 rfl ?_
        refine Go.iand dX9_goesOn_102 ?_
        refine Go.if_ne_t (tgt := 199) dX9_goesOn_103 (by decide) (by rw [(bitM1 (by omega) set).mpr hb]; decide) ?_
        refine Go.at 199 rfl ?_
        refine Go.iinc (v := nI (k + 1)) (ls' := [some (vR 76), some (vI set), some (vI (nI (k + 1))), some (vI (nI c)), none, none, none]) dX9_goesOn_199 rfl (nI_add _ _) (by decide) rfl ?_
        refine Go.goto (tgt := 78) dX9_goesOn_202 (by decide) ?_
        refine Go.mask [true, true, true, false, false, false, false] rfl ?_
        exact m_move_lp set j (k + 1) _ _ (by rw [moveC_nH]; omega) hH2 (show MI μ0 _ (moveC s set k) by unfold moveC; rw [if_neg h1, hcl, if_pos hb]; exact hM) hQ
      · have hz : (set >>> (nI c &&& 31)) &&& nI 1 = 0 := by rw [bitM (by omega), if_neg hb]; rfl
        refine Go.iload_n dX9_goesOn_78 rfl ?_
        refine Go.aload_n dX9_goesOn_79 rfl ?_
        refine Go.getR dX9_goesOn_80 flX9_7 rfl ?_
        refine Go.iconst (v := nI 0) dX9_goesOn_83 rfl ?_
        refine Go.iaload 0 dX9_goesOn_84 rfl (by omega) rfl ?_
        refine Go.topE (y := nI (nH s)) ((congrFun hM.1 0).trans hH.2.1) ?_
        refine Go.icmp_ge_f (tgt := 205) dX9_goesOn_85 (by decide) (nI_ge hk (by omega)) ?_
        refine Go.at 88 rfl ?_
        refine Go.aload_n dX9_goesOn_88 rfl ?_
        refine Go.iload_n dX9_goesOn_89 rfl ?_
        refine Go.callVi 76 [vI (nI k)] [] dX9_goesOn_90 lkX9_171 (Or.inl ⟨_, _, _, rfl, rfl, rfl⟩) rfl (Nat.le_of_ble_eq_true rfl) rfl (Nat.le_of_ble_eq_true rfl) (m_where hM.1 k (by omega)) ?_
        refine Go.topE (y := nI c) ec ?_
        refine Go.istore_n (ls' := [some (vR 76), some (vI set), some (vI (nI k)), some (vI (nI c)), none, none, none]) dX9_goesOn_93 (by decide) rfl ?_
        refine Go.iload_n dX9_goesOn_94 rfl ?_
        refine Go.if_lt_f (tgt := 199) dX9_goesOn_95 (by decide) (nI_pos (by omega)) ?_
        refine Go.at 98 rfl ?_
        refine Go.iload_n dX9_goesOn_98 rfl ?_
        refine Go.iload_n dX9_goesOn_99 rfl ?_
        refine Go.ishr dX9_goesOn_100 ?_
        refine Go.iconst (v := nI 1) dX9_goesOn_101 rfl ?_
        refine Go.iand dX9_goesOn_102 ?_
        refine Go.if_ne_f (tgt := 199) dX9_goesOn_103 (by decide) hz ?_
        refine Go.at 106 rfl ?_
        refine Go.iconst (v := (-1)) dX9_goesOn_106 rfl ?_
        refine Go.istore (ls' := [some (vR 76), some (vI set), some (vI (nI k)), some (vI (nI c)), some (vI (-1)), none, none]) dX9_goesOn_107 (by decide) rfl ?_
        refine Go.iconst (v := nI 0) dX9_goesOn_109 rfl ?_
        refine Go.istore (ls' := [some (vR 76), some (vI set), some (vI (nI k)), some (vI (nI c)), some (vI (-1)), some (vI (nI 0)), none]) dX9_goesOn_110 (by decide) rfl ?_
        refine m_by_lp set k hc 4 0 (by decide) ?_
        cases hf : fbF set c 4 0 with
        | none =>
          show Go V (d + 3) mX9_goesOn 160 [some (vR 76), some (vI set), some (vI (nI k)), some (vI (nI c)), some (vI (-1)), none, none] [] μ Q
          refine Go.aload_n dX9_goesOn_160 rfl ?_
          refine Go.getR dX9_goesOn_161 flX9_7 rfl ?_
          refine Go.sipush (v := nI 131) dX9_goesOn_164 rfl ?_
          refine Go.iconst (v := nI 2) dX9_goesOn_167 rfl ?_
          refine Go.iload_n dX9_goesOn_168 rfl ?_
          refine Go.imulN dX9_goesOn_169 ?_
          refine Go.at 170 rfl ?_
          refine Go.iaddN dX9_goesOn_170 ?_
          refine Go.iconst (v := nI 1) dX9_goesOn_171 rfl ?_
          refine Go.iaddN dX9_goesOn_172 ?_
          refine Go.iload dX9_goesOn_173 rfl ?_
          refine Go.iastore ((131 + (2 * k)) + 1) dX9_goesOn_175 rfl (by omega) rfl ?_
          have c1 : MI μ0 (ms μ 77 ((131 + (2 * k)) + 1) (-1)) (upd s ((131 + (2 * k)) + 1) (-1)) := hM.st ((131 + (2 * k)) + 1) (-1)
          refine Go.aload_n dX9_goesOn_176 rfl ?_
          refine Go.at 177 rfl ?_
          refine Go.getR dX9_goesOn_177 flX9_7 rfl ?_
          refine Go.iconst (v := nI 3) dX9_goesOn_180 rfl ?_
          refine Go.dup2 dX9_goesOn_181 ?_
          refine Go.iaload 3 dX9_goesOn_182 rfl (by omega) rfl ?_
          refine Go.topE (y := s 3) (by rw [c1.1]; exact upd_ne _ _ (by omega)) ?_
          refine Go.iload dX9_goesOn_183 rfl ?_
          refine Go.if_ge_f (tgt := 196) dX9_goesOn_185 (by decide) (by decide) ?_
          refine Go.at 188 rfl ?_
          refine Go.aload_n dX9_goesOn_188 rfl ?_
          refine Go.iload_n dX9_goesOn_189 rfl ?_
          refine Go.callVi 76 [vI (nI k)] [vI (s 3), vI (nI 3), vR 77] dX9_goesOn_190 lkX9_168 (Or.inl ⟨_, _, _, rfl, rfl, rfl⟩) rfl (Nat.le_of_ble_eq_true rfl) rfl (Nat.le_of_ble_eq_true rfl) (m_many c1.1 k (by omega)) ?_
          refine Go.topE (y := s (131 + 2 * k)) (upd_ne _ _ (by omega)) ?_
          refine Go.goto (tgt := 197) dX9_goesOn_193 (by decide) ?_
          refine Go.iadd dX9_goesOn_197 ?_
          refine Go.iastore 3 dX9_goesOn_198 rfl (by omega) rfl ?_
          have c2 : MI μ0 (ms (ms μ 77 ((131 + (2 * k)) + 1) (-1)) 77 3 ((s 3) + (s (131 + 2 * k)))) (upd (upd s ((131 + (2 * k)) + 1) (-1)) 3 ((s 3) + (s (131 + 2 * k)))) := c1.st 3 ((s 3) + (s (131 + 2 * k)))
          refine Go.at 199 rfl ?_
          refine Go.iinc (v := nI (k + 1)) (ls' := [some (vR 76), some (vI set), some (vI (nI (k + 1))), some (vI (nI c)), some (vI (-1)), none, none]) dX9_goesOn_199 rfl (nI_add _ _) (by decide) rfl ?_
          refine Go.goto (tgt := 78) dX9_goesOn_202 (by decide) ?_
          refine Go.mask [true, true, true, false, false, false, false] rfl ?_
          exact m_move_lp set j (k + 1) _ _ (by rw [moveC_nH]; omega) hH2 (show MI μ0 _ (moveC s set k) by unfold moveC; rw [if_neg h1, hcl, if_neg hb, hf]; exact c2) hQ
        | some q =>
          have hq := fbF_lt hc 4 0 q (by decide) hf
          show Go V (d + 3) mX9_goesOn 160 [some (vR 76), some (vI set), some (vI (nI k)), some (vI (nI c)), some (vI (nI q)), none, none] [] μ Q
          refine Go.aload_n dX9_goesOn_160 rfl ?_
          refine Go.getR dX9_goesOn_161 flX9_7 rfl ?_
          refine Go.sipush (v := nI 131) dX9_goesOn_164 rfl ?_
          refine Go.iconst (v := nI 2) dX9_goesOn_167 rfl ?_
          refine Go.iload_n dX9_goesOn_168 rfl ?_
          refine Go.imulN dX9_goesOn_169 ?_
          refine Go.at 170 rfl ?_
          refine Go.iaddN dX9_goesOn_170 ?_
          refine Go.iconst (v := nI 1) dX9_goesOn_171 rfl ?_
          refine Go.iaddN dX9_goesOn_172 ?_
          refine Go.iload dX9_goesOn_173 rfl ?_
          refine Go.iastore ((131 + (2 * k)) + 1) dX9_goesOn_175 rfl (by omega) rfl ?_
          have c1 : MI μ0 (ms μ 77 ((131 + (2 * k)) + 1) (nI q)) (upd s ((131 + (2 * k)) + 1) (nI q)) := hM.st ((131 + (2 * k)) + 1) (nI q)
          refine Go.aload_n dX9_goesOn_176 rfl ?_
          refine Go.at 177 rfl ?_
          refine Go.getR dX9_goesOn_177 flX9_7 rfl ?_
          refine Go.iconst (v := nI 3) dX9_goesOn_180 rfl ?_
          refine Go.dup2 dX9_goesOn_181 ?_
          refine Go.iaload 3 dX9_goesOn_182 rfl (by omega) rfl ?_
          refine Go.topE (y := s 3) (by rw [c1.1]; exact upd_ne _ _ (by omega)) ?_
          refine Go.iload dX9_goesOn_183 rfl ?_
          refine Go.if_ge_t (tgt := 196) dX9_goesOn_185 (by decide) (nI_pos' (by omega)) ?_
          refine Go.at 196 rfl ?_
          refine Go.iconst (v := nI 0) dX9_goesOn_196 rfl ?_
          refine Go.iadd dX9_goesOn_197 ?_
          refine Go.iastore 3 dX9_goesOn_198 rfl (by omega) rfl ?_
          have c2 : MI μ0 (ms (ms μ 77 ((131 + (2 * k)) + 1) (nI q)) 77 3 ((s 3) + (nI 0))) (upd (upd s ((131 + (2 * k)) + 1) (nI q)) 3 ((s 3) + (nI 0))) := c1.st 3 ((s 3) + (nI 0))
          refine Go.iinc (v := nI (k + 1)) (ls' := [some (vR 76), some (vI set), some (vI (nI (k + 1))), some (vI (nI c)), some (vI (nI q)), none, none]) dX9_goesOn_199 rfl (nI_add _ _) (by decide) rfl ?_
          refine Go.goto (tgt := 78) dX9_goesOn_202 (by decide) ?_
          refine Go.mask [true, true, true, false, false, false, false] rfl ?_
          exact m_move_lp set j (k + 1) _ _ (by rw [moveC_nH]; omega) hH2 (show MI μ0 _ (moveC s set k) by unfold moveC; rw [if_neg h1, hcl, if_neg hb, hf]; exact c2.eq (upd_upd_3 _ _ (by omega))) hQ
theorem m_hour_tail {V : VV} {d : Nat} {μ0 μ : Memo} {s : Nat → Int32} (set kk : Int32) (hM : MI μ0 μ s) : Go V (d + 3) mX9_goesOn 205 [some (vR 76), some (vI set), some (vI kk), none, none, none, none] [] μ (fun r μ1 => r = none ∧ MI μ0 μ1 (upd (hourE s) 2 (hourE s 2 + nI 1))) := by
  refine Go.aload_n dX9_goesOn_205 rfl ?_
  refine Go.getR dX9_goesOn_206 flX9_7 rfl ?_
  refine Go.iconst (v := nI 2) dX9_goesOn_209 rfl ?_
  refine Go.iaload 2 dX9_goesOn_210 rfl (by omega) rfl ?_
  refine Go.topE (s 2) (congrFun hM.1 _) ?_
  refine Go.bipush (v := nI 12) dX9_goesOn_211 rfl ?_
  refine Go.iremE dX9_goesOn_213 (by decide) ?_
  refine Go.at 214 rfl ?_
  refine Go.if_ne (tgt := 277) dX9_goesOn_214 (by decide) (fun h214 => ?_) (fun h214 => ?_)
  · -- 214 taken
    refine Go.aload_n dX9_goesOn_277 rfl ?_
    refine Go.getR dX9_goesOn_278 flX9_7 rfl ?_
    refine Go.iconst (v := nI 2) dX9_goesOn_281 rfl ?_
    refine Go.dup2 dX9_goesOn_282 ?_
    refine Go.iaload 2 dX9_goesOn_283 rfl (by omega) rfl ?_
    refine Go.topE (s 2) (congrFun hM.1 _) ?_
    refine Go.iconst (v := nI 1) dX9_goesOn_284 rfl ?_
    refine Go.at 285 rfl ?_
    refine Go.iadd dX9_goesOn_285 ?_
    refine Go.iastore 2 dX9_goesOn_286 rfl (by omega) rfl ?_
    have c1 : MI μ0 (ms μ 77 2 ((s 2) + (nI 1))) (upd s 2 ((s 2) + (nI 1))) := hM.st 2 ((s 2) + (nI 1))
    refine Go.vreturn dX9_goesOn_287 rfl ?_
    exact ⟨rfl, show MI μ0 _ (upd (hourE s) 2 (hourE s 2 + nI 1)) by unfold hourE; rw [if_neg h214]; exact c1⟩
  · -- 214 not
    refine Go.aload_n dX9_goesOn_217 rfl ?_
    refine Go.callVx 76 [] [] dX9_goesOn_218 lkX9_127 (Or.inl ⟨_, _, _, rfl, rfl, rfl⟩) rfl (Nat.le_of_ble_eq_true rfl) rfl (Nat.le_of_ble_eq_true rfl) (m_drawn hM) (fun μ2 c2 => ?_)
    refine Go.bipush (v := nI 100) dX9_goesOn_221 rfl ?_
    refine Go.iremE dX9_goesOn_223 (by decide) ?_
    refine Go.aload_n dX9_goesOn_224 rfl ?_
    refine Go.getR dX9_goesOn_225 flX9_7 rfl ?_
    refine Go.at 228 rfl ?_
    refine Go.bipush (v := nI 9) dX9_goesOn_228 rfl ?_
    refine Go.iaload 9 dX9_goesOn_230 rfl (by omega) rfl ?_
    refine Go.topE (y := s 9) (by rw [c2.1]; exact upd_ne _ _ (by decide)) ?_
    refine Go.icmp_ge (tgt := 238) dX9_goesOn_231 (by decide) (fun h231 => ?_) (fun h231 => ?_)
    · -- 231 taken
      refine Go.iconst (v := nI 0) dX9_goesOn_238 rfl ?_
      refine Go.istore_n (ls' := [some (vR 76), some (vI set), some (vI (nI 0)), none, none, none, none]) dX9_goesOn_239 (by decide) rfl ?_
      refine Go.aload_n dX9_goesOn_240 rfl ?_
      refine Go.getR dX9_goesOn_241 flX9_7 rfl ?_
      refine Go.bipush (v := nI 8) dX9_goesOn_244 rfl ?_
      refine Go.iload_n dX9_goesOn_246 rfl ?_
      refine Go.at 247 rfl ?_
      refine Go.if_eq_t (tgt := 262) dX9_goesOn_247 (by decide) (by decide) ?_
      refine Go.aload_n dX9_goesOn_262 rfl ?_
      refine Go.getR dX9_goesOn_263 flX9_7 rfl ?_
      refine Go.bipush (v := nI 8) dX9_goesOn_266 rfl ?_
      refine Go.iaload 8 dX9_goesOn_268 rfl (by omega) rfl ?_
      refine Go.topE (y := s 8) (by rw [c2.1]; exact upd_ne _ _ (by decide)) ?_
      refine Go.iconst (v := nI 1) dX9_goesOn_269 rfl ?_
      refine Go.at 270 rfl ?_
      refine Go.isub dX9_goesOn_270 ?_
      refine Go.bipush (v := nI 9) dX9_goesOn_271 rfl ?_
      refine Go.callSi [vI ((s 8) - (nI 1)), vI (nI 9)] [vI (nI 8), vR 77] dX9_goesOn_273 lkX9_84 rfl (Nat.le_of_ble_eq_true rfl) rfl (Nat.le_of_ble_eq_true rfl) (m_within ((s 8) - (nI 1)) (nI 9)) ?_
      refine Go.iastore 8 dX9_goesOn_276 rfl (by omega) rfl ?_
      have c3 : MI μ0 (ms μ2 77 8 (wiF ((s 8) - (nI 1)) (nI 9))) (upd (drw s) 8 (wiF ((s 8) - (nI 1)) (nI 9))) := c2.st 8 (wiF ((s 8) - (nI 1)) (nI 9))
      refine Go.aload_n dX9_goesOn_277 rfl ?_
      refine Go.getR dX9_goesOn_278 flX9_7 rfl ?_
      refine Go.at 281 rfl ?_
      refine Go.iconst (v := nI 2) dX9_goesOn_281 rfl ?_
      refine Go.dup2 dX9_goesOn_282 ?_
      refine Go.iaload 2 dX9_goesOn_283 rfl (by omega) rfl ?_
      refine Go.topE ((upd (drw s) 8 (wiF ((s 8) - (nI 1)) (nI 9))) 2) (congrFun c3.1 _) ?_
      refine Go.iconst (v := nI 1) dX9_goesOn_284 rfl ?_
      refine Go.iadd dX9_goesOn_285 ?_
      refine Go.iastore 2 dX9_goesOn_286 rfl (by omega) rfl ?_
      have c4 : MI μ0 (ms (ms μ2 77 8 (wiF ((s 8) - (nI 1)) (nI 9))) 77 2 (((upd (drw s) 8 (wiF ((s 8) - (nI 1)) (nI 9))) 2) + (nI 1))) (upd (upd (drw s) 8 (wiF ((s 8) - (nI 1)) (nI 9))) 2 (((upd (drw s) 8 (wiF ((s 8) - (nI 1)) (nI 9))) 2) + (nI 1))) := c3.st 2 (((upd (drw s) 8 (wiF ((s 8) - (nI 1)) (nI 9))) 2) + (nI 1))
      refine Go.at 287 rfl ?_
      refine Go.vreturn dX9_goesOn_287 rfl ?_
      exact ⟨rfl, show MI μ0 _ (upd (hourE s) 2 (hourE s 2 + nI 1)) by unfold hourE; rw [if_pos h214]; unfold stormS; rw [if_pos h231]; exact c4⟩
    · -- 231 not
      refine Go.iconst (v := nI 1) dX9_goesOn_234 rfl ?_
      refine Go.goto (tgt := 239) dX9_goesOn_235 (by decide) ?_
      refine Go.istore_n (ls' := [some (vR 76), some (vI set), some (vI (nI 1)), none, none, none, none]) dX9_goesOn_239 (by decide) rfl ?_
      refine Go.aload_n dX9_goesOn_240 rfl ?_
      refine Go.getR dX9_goesOn_241 flX9_7 rfl ?_
      refine Go.bipush (v := nI 8) dX9_goesOn_244 rfl ?_
      refine Go.at 246 rfl ?_
      refine Go.iload_n dX9_goesOn_246 rfl ?_
      refine Go.if_eq_f (tgt := 262) dX9_goesOn_247 (by decide) (by decide) ?_
      refine Go.aload_n dX9_goesOn_250 rfl ?_
      refine Go.getR dX9_goesOn_251 flX9_7 rfl ?_
      refine Go.bipush (v := nI 8) dX9_goesOn_254 rfl ?_
      refine Go.iaload 8 dX9_goesOn_256 rfl (by omega) rfl ?_
      refine Go.topE (y := s 8) (by rw [c2.1]; exact upd_ne _ _ (by decide)) ?_
      refine Go.at 257 rfl ?_
      refine Go.iconst (v := nI 1) dX9_goesOn_257 rfl ?_
      refine Go.iadd dX9_goesOn_258 ?_
      refine Go.goto (tgt := 271) dX9_goesOn_259 (by decide) ?_
      refine Go.bipush (v := nI 9) dX9_goesOn_271 rfl ?_
      refine Go.callSi [vI ((s 8) + (nI 1)), vI (nI 9)] [vI (nI 8), vR 77] dX9_goesOn_273 lkX9_84 rfl (Nat.le_of_ble_eq_true rfl) rfl (Nat.le_of_ble_eq_true rfl) (m_within ((s 8) + (nI 1)) (nI 9)) ?_
      refine Go.iastore 8 dX9_goesOn_276 rfl (by omega) rfl ?_
      have c5 : MI μ0 (ms μ2 77 8 (wiF ((s 8) + (nI 1)) (nI 9))) (upd (drw s) 8 (wiF ((s 8) + (nI 1)) (nI 9))) := c2.st 8 (wiF ((s 8) + (nI 1)) (nI 9))
      refine Go.at 277 rfl ?_
      refine Go.aload_n dX9_goesOn_277 rfl ?_
      refine Go.getR dX9_goesOn_278 flX9_7 rfl ?_
      refine Go.iconst (v := nI 2) dX9_goesOn_281 rfl ?_
      refine Go.dup2 dX9_goesOn_282 ?_
      refine Go.iaload 2 dX9_goesOn_283 rfl (by omega) rfl ?_
      refine Go.topE ((upd (drw s) 8 (wiF ((s 8) + (nI 1)) (nI 9))) 2) (congrFun c5.1 _) ?_
      refine Go.iconst (v := nI 1) dX9_goesOn_284 rfl ?_
      refine Go.at 285 rfl ?_
      refine Go.iadd dX9_goesOn_285 ?_
      refine Go.iastore 2 dX9_goesOn_286 rfl (by omega) rfl ?_
      have c6 : MI μ0 (ms (ms μ2 77 8 (wiF ((s 8) + (nI 1)) (nI 9))) 77 2 (((upd (drw s) 8 (wiF ((s 8) + (nI 1)) (nI 9))) 2) + (nI 1))) (upd (upd (drw s) 8 (wiF ((s 8) + (nI 1)) (nI 9))) 2 (((upd (drw s) 8 (wiF ((s 8) + (nI 1)) (nI 9))) 2) + (nI 1))) := c5.st 2 (((upd (drw s) 8 (wiF ((s 8) + (nI 1)) (nI 9))) 2) + (nI 1))
      refine Go.vreturn dX9_goesOn_287 rfl ?_
      exact ⟨rfl, show MI μ0 _ (upd (hourE s) 2 (hourE s 2 + nI 1)) by unfold hourE; rw [if_pos h214]; unfold stormS; rw [if_neg h231]; exact c6⟩
theorem m_goesOn {V : VV} {d : Nat} {μ0 μ : Memo} {s : Nat → Int32} (hT : TxtsOK s) (hH : HouOK s) (hM : MI μ0 μ s) : RetU V (d + 4) mX9_goesOn [vR 76] μ (fun μ1 => MI μ0 μ1 (hourF s)) := by
  show Go V (d + 4) mX9_goesOn 0 [some (vR 76), none, none, none, none, none, none] [] μ _
  refine Go.aload_n dX9_goesOn_0 rfl ?_
  refine Go.iconst (v := nI 0) dX9_goesOn_1 rfl ?_
  refine Go.callVx 76 [vI (nI 0)] [] dX9_goesOn_2 lkX9_131 (Or.inl ⟨_, _, _, rfl, rfl, rfl⟩) rfl (Nat.le_of_ble_eq_true rfl) rfl (Nat.le_of_ble_eq_true rfl) (m_dry hM.1 hT (nI 0)) (fun μ1 k1 => ?_)
  have c1 : MI μ0 μ1 s := hM.fr k1
  refine Go.istore_n (ls' := [some (vR 76), some (vI (dryF s (nI 0))), none, none, none, none, none]) dX9_goesOn_5 (by decide) rfl ?_
  refine Go.iconst (v := nI 0) dX9_goesOn_6 rfl ?_
  refine Go.istore_n (ls' := [some (vR 76), some (vI (dryF s (nI 0))), some (vI (nI 0)), none, none, none, none]) dX9_goesOn_7 (by decide) rfl ?_
  refine Go.at 8 rfl ?_
  refine m_grow_lp _ 30 0 _ _ (by omega) hT c1 (fun μ2 c2 => ?_)
  refine Go.iconst (v := nI 0) dX9_goesOn_76 rfl ?_
  refine Go.istore_n (ls' := [some (vR 76), some (vI (dryF s (nI 0))), some (vI (nI 0)), none, none, none, none]) dX9_goesOn_77 (by decide) rfl ?_
  refine m_move_lp _ (nH (growL s (dryF s (nI 0)) 0 30)) 0 _ _ (by omega) (hH.grow _ 30 0 s (by omega) hH) c2 (fun μ3 kk c3 => ?_)
  exact m_hour_tail _ kk c3
theorem c_run_lp {V : VV} {d : Nat} {μ0 : Memo} {s0 : Nat → Int32} {n : Nat} (hn : n < 100) :
    ∀ (j k : Nat) (μ : Memo) (s : Nat → Int32), k + j = n → CI 7 μ0 μ s0 s → Go V (d + 6) mX8_run 15 [some (vR 0), some (vI (nI n)), some (vI (nI k))] [] μ (fun r' μ'' => r' = some (vI (runL s j 3)) ∧ CI 7 μ0 μ'' s0 (runL s j))
  | 0, k, μ, s, hkj, hC => by
    obtain rfl : k = n := by omega
    refine Go.iload_n dX8_run_15 rfl ?_
    refine Go.iload_n dX8_run_16 rfl ?_
    refine Go.icmp_ge_t (tgt := 46) dX8_run_17 (by decide) (by rw [sI_le]; exact Int.le_refl _) ?_
    refine Go.aload_n dX8_run_46 rfl ?_
    refine Go.getR dX8_run_47 flX8_21 rfl ?_
    refine Go.getI dX8_run_50 flX8_198 rfl ?_
    refine Go.topE (s 3) hC.1.2.2.2.2.2.1 ?_
    refine Go.at 53 rfl ?_
    refine Go.ireturn .int dX8_run_53 rfl rfl ?_
    exact ⟨rfl, hC⟩
  | j + 1, k, μ, s, hkj, hC => by
    have hk : k < n := by omega
    rw [runL]
    by_cases h9 : nI 9999 ≤ s 2
    · rw [if_pos h9]
      refine Go.iload_n dX8_run_15 rfl ?_
      refine Go.iload_n dX8_run_16 rfl ?_
      refine Go.icmp_ge_f (tgt := 46) dX8_run_17 (by decide) (nI_ge hk (by omega)) ?_
      refine Go.aload_n dX8_run_20 rfl ?_
      refine Go.getR dX8_run_21 flX8_21 rfl ?_
      refine Go.getI dX8_run_24 flX8_192 rfl ?_
      refine Go.topE (s 2) hC.1.2.2.2.2.1 ?_
      refine Go.at 27 rfl ?_
      refine Go.sipush (v := nI 9999) dX8_run_27 rfl ?_
      refine Go.icmp_ge_t (tgt := 46) dX8_run_30 (by decide) h9 ?_
      refine Go.aload_n dX8_run_46 rfl ?_
      refine Go.getR dX8_run_47 flX8_21 rfl ?_
      refine Go.getI dX8_run_50 flX8_198 rfl ?_
      refine Go.topE (s 3) hC.1.2.2.2.2.2.1 ?_
      refine Go.ireturn .int dX8_run_53 rfl rfl ?_
      exact ⟨rfl, hC⟩
    · rw [if_neg h9]
      refine Go.iload_n dX8_run_15 rfl ?_
      refine Go.iload_n dX8_run_16 rfl ?_
      refine Go.icmp_ge_f (tgt := 46) dX8_run_17 (by decide) (nI_ge hk (by omega)) ?_
      refine Go.aload_n dX8_run_20 rfl ?_
      refine Go.getR dX8_run_21 flX8_21 rfl ?_
      refine Go.getI dX8_run_24 flX8_192 rfl ?_
      refine Go.topE (s 2) hC.1.2.2.2.2.1 ?_
      refine Go.at 27 rfl ?_
      refine Go.sipush (v := nI 9999) dX8_run_27 rfl ?_
      refine Go.icmp_ge_f (tgt := 46) dX8_run_30 (by decide) h9 ?_
      refine Go.aload_n dX8_run_33 rfl ?_
      refine Go.getR dX8_run_34 flX8_21 rfl ?_
      refine Go.callVu 7 [] [] dX8_run_37 lkX8_195 (Or.inl ⟨_, _, _, rfl, rfl, rfl⟩) rfl (Nat.le_of_ble_eq_true rfl) rfl (Nat.le_of_ble_eq_true rfl) (c_passHour isB7 hC) (fun μ1 c1 => ?_)
      refine Go.iinc (v := nI (k + 1)) (ls' := [some (vR 0), some (vI (nI n)), some (vI (nI (k + 1)))]) dX8_run_40 rfl (nI_add _ _) (by decide) rfl ?_
      refine Go.at 43 rfl ?_
      refine Go.goto (tgt := 15) dX8_run_43 (by decide) ?_
      exact c_run_lp hn j (k + 1) _ _ (by omega) c1
theorem m_run_lp {V : VV} {d : Nat} {μ0 : Memo} {n : Nat} (hn : n < 100) :
    ∀ (j k : Nat) (μ : Memo) (s : Nat → Int32), k + j = n → MI μ0 μ s → TxtsOK s → HouOK s → Go V (d + 6) mX9_run 17 [some (vR 76), some (vI (nI n)), some (vI (nI k))] [] μ (fun r' μ'' => r' = some (vI (runL s j 3)) ∧ MI μ0 μ'' (runL s j))
  | 0, k, μ, s, hkj, hC, hT, hH => by
    obtain rfl : k = n := by omega
    refine Go.iload_n dX9_run_17 rfl ?_
    refine Go.iload_n dX9_run_18 rfl ?_
    refine Go.icmp_ge_t (tgt := 44) dX9_run_19 (by decide) (by rw [sI_le]; exact Int.le_refl _) ?_
    refine Go.aload_n dX9_run_44 rfl ?_
    refine Go.getR dX9_run_45 flX9_7 rfl ?_
    refine Go.iconst (v := nI 3) dX9_run_48 rfl ?_
    refine Go.at 49 rfl ?_
    refine Go.iaload 3 dX9_run_49 rfl (by omega) rfl ?_
    refine Go.topE (s 3) (congrFun hC.1 _) ?_
    refine Go.ireturn .int dX9_run_50 rfl rfl ?_
    exact ⟨rfl, hC⟩
  | j + 1, k, μ, s, hkj, hC, hT, hH => by
    have hk : k < n := by omega
    rw [runL]
    by_cases h9 : nI 9999 ≤ s 2
    · rw [if_pos h9]
      refine Go.iload_n dX9_run_17 rfl ?_
      refine Go.iload_n dX9_run_18 rfl ?_
      refine Go.icmp_ge_f (tgt := 44) dX9_run_19 (by decide) (nI_ge hk (by omega)) ?_
      refine Go.aload_n dX9_run_22 rfl ?_
      refine Go.getR dX9_run_23 flX9_7 rfl ?_
      refine Go.iconst (v := nI 2) dX9_run_26 rfl ?_
      refine Go.at 27 rfl ?_
      refine Go.iaload 2 dX9_run_27 rfl (by omega) rfl ?_
      refine Go.topE (s 2) (congrFun hC.1 _) ?_
      refine Go.sipush (v := nI 9999) dX9_run_28 rfl ?_
      refine Go.icmp_ge_t (tgt := 44) dX9_run_31 (by decide) h9 ?_
      refine Go.aload_n dX9_run_44 rfl ?_
      refine Go.getR dX9_run_45 flX9_7 rfl ?_
      refine Go.iconst (v := nI 3) dX9_run_48 rfl ?_
      refine Go.at 49 rfl ?_
      refine Go.iaload 3 dX9_run_49 rfl (by omega) rfl ?_
      refine Go.topE (s 3) (congrFun hC.1 _) ?_
      refine Go.ireturn .int dX9_run_50 rfl rfl ?_
      exact ⟨rfl, hC⟩
    · rw [if_neg h9]
      have ho := hourF_ok hH
      refine Go.iload_n dX9_run_17 rfl ?_
      refine Go.iload_n dX9_run_18 rfl ?_
      refine Go.icmp_ge_f (tgt := 44) dX9_run_19 (by decide) (nI_ge hk (by omega)) ?_
      refine Go.aload_n dX9_run_22 rfl ?_
      refine Go.getR dX9_run_23 flX9_7 rfl ?_
      refine Go.iconst (v := nI 2) dX9_run_26 rfl ?_
      refine Go.at 27 rfl ?_
      refine Go.iaload 2 dX9_run_27 rfl (by omega) rfl ?_
      refine Go.topE (s 2) (congrFun hC.1 _) ?_
      refine Go.sipush (v := nI 9999) dX9_run_28 rfl ?_
      refine Go.icmp_ge_f (tgt := 44) dX9_run_31 (by decide) h9 ?_
      refine Go.aload_n dX9_run_34 rfl ?_
      refine Go.callVu 76 [] [] dX9_run_35 lkX9_181 (Or.inl ⟨_, _, _, rfl, rfl, rfl⟩) rfl (Nat.le_of_ble_eq_true rfl) rfl (Nat.le_of_ble_eq_true rfl) (m_goesOn hT hH hC) (fun μ1 c1 => ?_)
      refine Go.iinc (v := nI (k + 1)) (ls' := [some (vR 76), some (vI (nI n)), some (vI (nI (k + 1)))]) dX9_run_38 rfl (nI_add _ _) (by decide) rfl ?_
      refine Go.at 41 rfl ?_
      refine Go.goto (tgt := 17) dX9_run_41 (by decide) ?_
      exact m_run_lp hn j (k + 1) _ _ (by omega) c1 (hT.ts ho.1) ho.2
theorem op_deal {V : VV} {d : Nat} {μ : Memo} (hS : Sim μ) : OpOK V (d + 5) mX8_deal mX9_deal [] μ := by
  refine OpOK.c (x := szF (dealL (μ 77) 0 30) (nI 0)) (dealL (μ 77) 0 30) hS ?_ (fun μ5 c5 => ?_)
  · show Go V (d + 5) mX8_deal 0 [some (vR 0)] [] μ _
    refine Go.aload_n dX8_deal_0 rfl ?_
    refine Go.getR dX8_deal_1 flX8_21 rfl ?_
    refine Go.callVu 7 [] [] dX8_deal_4 lkX8_128 (Or.inl ⟨_, _, _, rfl, rfl, rfl⟩) rfl (Nat.le_of_ble_eq_true rfl) rfl (Nat.le_of_ble_eq_true rfl) (c_deal isB7 hS.ci) (fun μ1 c1 => ?_)
    refine Go.aload_n dX8_deal_7 rfl ?_
    refine Go.getR dX8_deal_8 flX8_21 rfl ?_
    refine Go.iconst (v := nI 0) dX8_deal_11 rfl ?_
    refine Go.at 12 rfl ?_
    refine Go.callVx 7 [vI (nI 0)] [] dX8_deal_12 lkX8_131 (Or.inl ⟨_, _, _, rfl, rfl, rfl⟩) rfl (Nat.le_of_ble_eq_true rfl) rfl (Nat.le_of_ble_eq_true rfl) ((c_size isB7 c1.1 c1.2.1 c1.2.2.1 (nI 0)).eq (sz_c _ _)) (fun μ2 k2 => ?_)
    have c2 : CI 7 μ μ2 (μ 77) (dealL (μ 77) 0 30) := c1.fr isB7 k2
    refine Go.ireturn .int dX8_deal_15 rfl rfl ?_
    exact ⟨rfl, c2⟩
  · have c0 : MI μ5 μ5 (μ 77) := c5.mi isB7 rfl
    show Go V (d + 5) mX9_deal 0 [some (vR 76), none, none] [] μ5 _
    refine Go.iconst (v := nI 0) dX9_deal_0 rfl ?_
    refine Go.istore_n (ls' := [some (vR 76), some (vI (nI 0)), none]) dX9_deal_1 (by decide) rfl ?_
    refine m_deal_lp (d := d + 1) 30 0 _ _ (by omega) c0 (fun μ9 c9 => ?_)
    refine Go.aload_n dX9_deal_72 rfl ?_
    refine Go.iconst (v := nI 0) dX9_deal_73 rfl ?_
    refine Go.callVx 76 [vI (nI 0)] [] dX9_deal_74 lkX9_131 (Or.inl ⟨_, _, _, rfl, rfl, rfl⟩) rfl (Nat.le_of_ble_eq_true rfl) rfl (Nat.le_of_ble_eq_true rfl) (m_dry c9.1 c5.2.2.1 (nI 0)) (fun μ1 k1 => ?_)
    have c1 : MI μ5 μ1 (dealL (μ 77) 0 30) := c9.fr k1
    refine Go.callSi [vI (dryF (dealL (μ 77) 0 30) (nI 0))] [] dX9_deal_77 lkX9_134 rfl (Nat.le_of_ble_eq_true rfl) rfl (Nat.le_of_ble_eq_true rfl) ((m_ones (dryF (dealL (μ 77) 0 30) (nI 0))).eq (sz_m _ _)) ?_
    refine Go.ireturn .int dX9_deal_80 rfl rfl ?_
    exact ⟨rfl, c1⟩
theorem op_run {V : VV} {d : Nat} {μ : Memo} (hS : Sim μ) (n : Int32) : OpOK V (d + 6) mX8_run mX9_run [vI n] μ := by
  by_cases h1 : nI 1 ≤ n ∧ n ≤ nI 99
  · obtain ⟨n0, hn1, hn, rfl⟩ := in_nI1 (by decide) h1
    refine OpOK.c (x := runL (μ 77) n0 3) (runL (μ 77) n0) hS ?_ (fun μ5 c5 => ?_)
    · show Go V (d + 6) mX8_run 0 [some (vR 0), some (vI (nI n0)), none] [] μ _
      refine Go.iload_n dX8_run_0 rfl ?_
      refine Go.iconst (v := nI 1) dX8_run_1 rfl ?_
      refine Go.bipush (v := nI 99) dX8_run_2 rfl ?_
      refine Go.callSi [vI (nI n0), vI (nI 1), vI (nI 99)] [] dX8_run_4 lkX8_72 rfl (Nat.le_of_ble_eq_true rfl) rfl (Nat.le_of_ble_eq_true rfl) (c_within (nI n0) (nI 1) (nI 99)) ?_
      refine Go.if_neb_t (tgt := 13) dX8_run_7 (by decide) h1 ?_
      refine Go.iconst (v := nI 0) dX8_run_13 rfl ?_
      refine Go.at 14 rfl ?_
      refine Go.istore_n (ls' := [some (vR 0), some (vI (nI n0)), some (vI (nI 0))]) dX8_run_14 (by decide) rfl ?_
      exact c_run_lp (by omega) n0 0 _ _ (by omega) hS.ci
    · show Go V (d + 6) mX9_run 0 [some (vR 76), some (vI (nI n0)), none] [] μ5 _
      refine Go.iload_n dX9_run_0 rfl ?_
      refine Go.i2l dX9_run_1 ?_
      refine Go.lconst (v := (nI 1).toInt64) dX9_run_2 rfl ?_
      refine Go.ldc2 (v := (nI 99).toInt64) dX9_run_3 clX9_120 ?_
      refine Go.callSi [vL ((nI n0).toInt64), vL ((nI 1).toInt64), vL ((nI 99).toInt64)] [] dX9_run_6 lkX9_65 rfl (Nat.le_of_ble_eq_true rfl) rfl (Nat.le_of_ble_eq_true rfl) (m_isIn (nI n0) (nI 1) (nI 99)) ?_
      refine Go.if_neb_t (tgt := 15) dX9_run_9 (by decide) h1 ?_
      refine Go.at 15 rfl ?_
      refine Go.iconst (v := nI 0) dX9_run_15 rfl ?_
      refine Go.istore_n (ls' := [some (vR 76), some (vI (nI n0)), some (vI (nI 0))]) dX9_run_16 (by decide) rfl ?_
      exact m_run_lp (by omega) n0 0 _ _ (by omega) (c5.mi isB7 rfl) hS.1.1 hS.1.2.2.2.2
  · refine OpOK.q (x := (-1000000001)) hS ?_ (fun μ5 c5 => ?_)
    · show Go V (d + 6) mX8_run 0 [some (vR 0), some (vI n), none] [] μ _
      refine Go.iload_n dX8_run_0 rfl ?_
      refine Go.iconst (v := nI 1) dX8_run_1 rfl ?_
      refine Go.bipush (v := nI 99) dX8_run_2 rfl ?_
      refine Go.callSi [vI n, vI (nI 1), vI (nI 99)] [] dX8_run_4 lkX8_72 rfl (Nat.le_of_ble_eq_true rfl) rfl (Nat.le_of_ble_eq_true rfl) (c_within n (nI 1) (nI 99)) ?_
      refine Go.if_neb_f (tgt := 13) dX8_run_7 (by decide) h1 ?_
      refine Go.ldc dX8_run_10 cnX8_76 ?_
      refine Go.at 12 rfl ?_
      refine Go.ireturn .int dX8_run_12 rfl rfl ?_
      exact ⟨rfl, Fr.rf _ _⟩
    · show Go V (d + 6) mX9_run 0 [some (vR 76), some (vI n), none] [] μ5 _
      refine Go.iload_n dX9_run_0 rfl ?_
      refine Go.i2l dX9_run_1 ?_
      refine Go.lconst (v := (nI 1).toInt64) dX9_run_2 rfl ?_
      refine Go.ldc2 (v := (nI 99).toInt64) dX9_run_3 clX9_120 ?_
      refine Go.callSi [vL n.toInt64, vL ((nI 1).toInt64), vL ((nI 99).toInt64)] [] dX9_run_6 lkX9_65 rfl (Nat.le_of_ble_eq_true rfl) rfl (Nat.le_of_ble_eq_true rfl) (m_isIn n (nI 1) (nI 99)) ?_
      refine Go.if_neb_f (tgt := 15) dX9_run_9 (by decide) h1 ?_
      refine Go.at 12 rfl ?_
      refine Go.ldc dX9_run_12 cnX9_98 ?_
      refine Go.ireturn .int dX9_run_14 rfl rfl ?_
      exact ⟨rfl, Fr.rf _ _⟩
