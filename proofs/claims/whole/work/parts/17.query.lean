/-! ===== by hours, houses: what is asked ===== -/
def szF (s : Nat → Int32) (t : Int32) : Int32 := nI (cntB (dryF s t) 30)
theorem sz_c (s : Nat → Int32) (t : Int32) : bitC (dryF s t) = szF s t := bitC_cnt (dry_S30 s t)
theorem sz_m (s : Nat → Int32) (t : Int32) : onesF (dryF s t) 30 = szF s t := onesF_cnt _ 30 (Nat.le_refl _)
def wsF (s : Nat → Int32) : Nat → Int32 × Int32
  | 0 => (nI 0, nI 31)
  | t + 1 => if szF s (nI t) < (wsF s t).2 then (nI t, szF s (nI t)) else wsF s t
theorem wsF_sz (s : Nat → Int32) : ∀ n, 1 ≤ n → szF s (wsF s n).1 = (wsF s n).2
  | 0, h => absurd h (by decide)
  | 1, _ => by
    have hc : cntB (dryF s (nI 0)) 30 ≤ 30 := cntB_le _ 30
    have h0 : szF s (nI 0) < (wsF s 0).2 := by
      show nI _ < nI 31
      exact nI_lt (by omega) (by decide)
    show szF s (if szF s (nI 0) < (wsF s 0).2 then (nI 0, szF s (nI 0)) else wsF s 0).1 = (if szF s (nI 0) < (wsF s 0).2 then (nI 0, szF s (nI 0)) else wsF s 0).2
    rw [if_pos h0]
  | n + 2, _ => by
    have ih := wsF_sz s (n + 1) (by omega)
    rw [wsF]
    split
    · rfl
    · exact ih
def dfF (s : Nat → Int32) (c : Nat) : Nat → Nat → Nat
  | 0, t => t
  | j + 1, t => if levelF s (nI t) < tpF s c then dfF s c j (t + 1) else t
def wnF (s : Nat → Int32) (c n : Nat) : Nat → Nat → Nat → Int32
  | 0, _, _ => (-1000000005)
  | j + 1, t, r => if levelF s (nI t) < tpF s c then (if r + 1 = n then nI t - nI n + nI 1 else wnF s c n j (t + 1) (r + 1)) else wnF s c n j (t + 1) 0
def owF (s : Nat → Int32) (ow t : Int32) : Nat → Nat
  | 0 => 0
  | c + 1 => owF s ow t c + (if s (11 + 4 * c + 3) = ow ∧ levelF s t < tpF s c then 1 else 0)
theorem owF_le (s : Nat → Int32) (ow t : Int32) : ∀ n, owF s ow t n ≤ n
  | 0 => Nat.le_refl 0
  | n + 1 => by have := owF_le s ow t n; rw [owF]; split <;> omega
def odF (s : Nat → Int32) (ow : Int32) : Nat → Nat
  | 0 => 0
  | t + 1 => odF s ow t + owF s ow (nI t) 30
theorem odF_le (s : Nat → Int32) (ow : Int32) : ∀ n, odF s ow n ≤ 30 * n
  | 0 => Nat.le_refl 0
  | n + 1 => by have h1 := odF_le s ow n; have h2 := owF_le s ow (nI n) 30; rw [odF]; omega
def rcF (s : Nat → Int32) : Nat → Nat
  | 0 => 0
  | k + 1 => if odF s (nI (rcF s k)) 24 < odF s (nI (k + 1)) 24 then k + 1 else rcF s k
theorem rcF_le (s : Nat → Int32) : ∀ k, rcF s k ≤ k
  | 0 => Nat.le_refl 0
  | k + 1 => by have := rcF_le s k; rw [rcF]; split <;> omega
def pkF (s : Nat → Int32) : Nat → Nat
  | 0 => 0
  | n + 1 => if tpF s (pkF s n) < tpF s (n + 1) then n + 1 else pkF s n
theorem pkF_le (s : Nat → Int32) : ∀ k, pkF s k ≤ k
  | 0 => Nat.le_refl 0
  | k + 1 => by have := pkF_le s k; rw [pkF]; split <;> omega
def offF (s : Nat → Int32) (t : Int32) : Int32 := if bt (dryF s t) (pkF s 29) = true then dryF s t &&& (ptF (dryF s t) (pkF s 29) ^^^ (-1)) else dryF s t
def cuF (s : Nat → Int32) (off : Int32) : Nat → Int32
  | 0 => nI 0
  | h + 1 => if ¬ s (131 + 2 * h + 1) < 0 ∧ bt off (s (131 + 2 * h + 1)).toNatClampNeg = true then cuF s off h ||| (nI 1 <<< (nI h &&& 31)) else cuF s off h
def mnF (s : Nat → Int32) : Nat → Int32
  | 0 => nI 0
  | h + 1 => mnF s h + s (131 + 2 * h)
def lkF (s : Nat → Int32) (t z : Int32) : Nat → Int32
  | 0 => z
  | c + 1 => if levelF s t < tpF s c then lkF s t z c - roomF s c else lkF s t z c
def goF (s : Nat → Int32) (c : Nat) : Nat → Nat → Int32 → Int32
  | 0, _, _ => (-1000000005)
  | j + 1, t, x => if bt (x &&& dryF s (nI t)) c = true then nI t else goF s c j (t + 1) (sprF (x &&& dryF s (nI t)))
/-- houses in order -/
def HouOK (s : Nat → Int32) : Prop := nH s ≤ 8 ∧ s 0 = nI (nH s) ∧ ∀ h, h < nH s → s (131 + 2 * h + 1) = (-1) ∨ ∃ c, c < 30 ∧ s (131 + 2 * h + 1) = nI c
def OwnOK (s : Nat → Int32) : Prop := ∀ c, c < 30 → s (11 + 4 * c + 3) = (-1) ∨ ∃ k, k < 8 ∧ s (11 + 4 * c + 3) = nI k
def KindOK (s : Nat → Int32) : Prop := ∀ c, c < 30 → ∃ k, k < 6 ∧ s (11 + 4 * c) = nI k
theorem oN_n1 : oN (-1) = (-1000000005) := by decide
theorem oN_n {n : Nat} (h : n < 1000) : oN (nI n) = nI n := oN_nI (n := n) (by omega)
theorem own_eq {s : Nat → Int32} (h : OwnOK s) {c : Nat} (hc : c < 30) {k : Nat} (hk : k < 8) : oN (s (11 + 4 * c + 3)) = nI k ↔ s (11 + 4 * c + 3) = nI k := by
  rcases h c hc with e | ⟨q, hq, e⟩
  · rw [e, oN_n1]
    exact ⟨fun z => absurd z.symm (nI_NONE (by omega)), fun z => absurd z (by rw [sI_eq, nT, tI_n1]; omega)⟩
  · rw [e, oN_n (by omega)]
theorem cut_none {set : Int32} (hS : S30 set) {p : Nat} (hp : p < 30) (h : ¬ bt set p = true) : itP set ((nI 1 <<< (nI p &&& 31)) &&& set) 30 = 0 := by
  have e0 : (nI 1 <<< (nI p &&& 31)) &&& set = 0 := by
    apply b_ext
    intro i hi
    rw [b_and, bt_one (by omega), b_0]
    by_cases e : i = p
    · subst e; cases hb : bt set i with
      | false => rw [Bool.and_false]
      | true => exact absurd hb h
    · rw [decide_eq_false e, Bool.false_and]
  rw [e0]
  have key : ∀ k, itP set 0 k = 0 := by
    intro k
    induction k with
    | zero => rfl
    | succ k ih =>
      rw [itP, ih]
      apply b_ext
      intro i hi
      rw [b_and, show sprF 0 = 0 from by decide +kernel, b_0, Bool.false_and]
  exact key 30
theorem cut_some {set : Int32} {p : Nat} (hp : p < 30) (h : bt set p = true) : itP set ((nI 1 <<< (nI p &&& 31)) &&& set) 30 = ptF set p := by
  have e0 : (nI 1 <<< (nI p &&& 31)) &&& set = nI 1 <<< (nI p &&& 31) := by
    apply b_ext
    intro i hi
    rw [b_and, bt_one (by omega)]
    by_cases e : i = p
    · subst e; rw [h, Bool.and_true]
    · rw [decide_eq_false e, Bool.false_and]
  rw [e0]
  rfl
theorem off_c {s : Nat → Int32} {t : Int32} : dryF s t &&& (itP (dryF s t) ((nI 1 <<< (nI (pkF s 29) &&& 31)) &&& dryF s t) 30 ^^^ (-1)) = offF s t := by
  have hp := pkF_le s 29
  unfold offF
  by_cases h : bt (dryF s t) (pkF s 29) = true
  · rw [if_pos h, cut_some (by omega) h]
  · rw [if_neg h, cut_none (dry_S30 s t) (by omega) h]
    apply b_ext
    intro i hi
    rw [b_and, bt_not _ hi, b_0]
    cases bt (dryF s t) i <;> rfl

theorem m_isAhead {V : VV} {d : Nat} {μ : Memo} (v : Int32) : Ret V (d + 1) mX9_isAhead [vI v] μ (some (vI (bI (nI 0 ≤ v ∧ v ≤ nI 199)))) μ := by
  show Go V (d + 1) mX9_isAhead 0 [some (vI v)] [] μ _
  refine Go.iload_n dX9_isAhead_0 rfl ?_
  refine Go.i2l dX9_isAhead_1 ?_
  refine Go.lconst (v := (nI 0).toInt64) dX9_isAhead_2 rfl ?_
  refine Go.ldc2 (v := (nI 199).toInt64) dX9_isAhead_3 clX9_146 ?_
  refine Go.callSi [vL v.toInt64, vL ((nI 0).toInt64), vL ((nI 199).toInt64)] [] dX9_isAhead_6 lkX9_65 rfl (Nat.le_of_ble_eq_true rfl) rfl (Nat.le_of_ble_eq_true rfl) (m_isIn v (nI 0) (nI 199)) ?_
  refine Go.ireturn .boolean dX9_isAhead_9 rfl (nar_b ()) ?_
  exact ⟨rfl, rfl⟩
theorem m_isHouse {V : VV} {d : Nat} {μ : Memo} {s : Nat → Int32} (hs : μ 77 = s) (v : Int32) : Ret V (d + 1) mX9_isHouse [vR 76, vI v] μ (some (vI (bI (nI 0 ≤ v ∧ v ≤ s 0 - nI 1)))) μ := by
  show Go V (d + 1) mX9_isHouse 0 [some (vR 76), some (vI v)] [] μ _
  refine Go.iload_n dX9_isHouse_0 rfl ?_
  refine Go.i2l dX9_isHouse_1 ?_
  refine Go.lconst (v := (nI 0).toInt64) dX9_isHouse_2 rfl ?_
  refine Go.aload_n dX9_isHouse_3 rfl ?_
  refine Go.getR dX9_isHouse_4 flX9_7 rfl ?_
  refine Go.iconst (v := nI 0) dX9_isHouse_7 rfl ?_
  refine Go.at 8 rfl ?_
  refine Go.iaload 0 dX9_isHouse_8 rfl (by omega) rfl ?_
  refine Go.topE (s 0) (congrFun hs _) ?_
  refine Go.iconst (v := nI 1) dX9_isHouse_9 rfl ?_
  refine Go.isub dX9_isHouse_10 ?_
  refine Go.i2l dX9_isHouse_11 ?_
  refine Go.callSi [vL v.toInt64, vL ((nI 0).toInt64), vL (((s 0) - (nI 1)).toInt64)] [] dX9_isHouse_12 lkX9_65 rfl (Nat.le_of_ble_eq_true rfl) rfl (Nat.le_of_ble_eq_true rfl) (m_isIn v (nI 0) ((s 0) - (nI 1))) ?_
  refine Go.ireturn .boolean dX9_isHouse_15 rfl (nar_b ()) ?_
  exact ⟨rfl, rfl⟩
theorem m_isText {V : VV} {d : Nat} {μ : Memo} {s : Nat → Int32} (hs : μ 77 = s) (v : Int32) : Ret V (d + 1) mX9_isText [vR 76, vI v] μ (some (vI (bI (nI 0 ≤ v ∧ v ≤ s 1 - nI 1)))) μ := by
  show Go V (d + 1) mX9_isText 0 [some (vR 76), some (vI v)] [] μ _
  refine Go.iload_n dX9_isText_0 rfl ?_
  refine Go.i2l dX9_isText_1 ?_
  refine Go.lconst (v := (nI 0).toInt64) dX9_isText_2 rfl ?_
  refine Go.aload_n dX9_isText_3 rfl ?_
  refine Go.getR dX9_isText_4 flX9_7 rfl ?_
  refine Go.iconst (v := nI 1) dX9_isText_7 rfl ?_
  refine Go.at 8 rfl ?_
  refine Go.iaload 1 dX9_isText_8 rfl (by omega) rfl ?_
  refine Go.topE (s 1) (congrFun hs _) ?_
  refine Go.iconst (v := nI 1) dX9_isText_9 rfl ?_
  refine Go.isub dX9_isText_10 ?_
  refine Go.i2l dX9_isText_11 ?_
  refine Go.callSi [vL v.toInt64, vL ((nI 0).toInt64), vL (((s 1) - (nI 1)).toInt64)] [] dX9_isText_12 lkX9_65 rfl (Nat.le_of_ble_eq_true rfl) rfl (Nat.le_of_ble_eq_true rfl) (m_isIn v (nI 0) ((s 1) - (nI 1))) ?_
  refine Go.ireturn .boolean dX9_isText_15 rfl (nar_b ()) ?_
  exact ⟨rfl, rfl⟩
theorem m_many {V : VV} {d : Nat} {μ : Memo} {s : Nat → Int32} (hs : μ 77 = s) (h : Nat) (hh : h < 8) : Ret V (d) mX9_many [vR 76, vI (nI h)] μ (some (vI (s (131 + 2 * h)))) μ := by
  show Go V (d) mX9_many 0 [some (vR 76), some (vI (nI h))] [] μ _
  refine Go.aload_n dX9_many_0 rfl ?_
  refine Go.getR dX9_many_1 flX9_7 rfl ?_
  refine Go.sipush (v := nI 131) dX9_many_4 rfl ?_
  refine Go.iconst (v := nI 2) dX9_many_7 rfl ?_
  refine Go.iload_n dX9_many_8 rfl ?_
  refine Go.imulN dX9_many_9 ?_
  refine Go.at 10 rfl ?_
  refine Go.iaddN dX9_many_10 ?_
  refine Go.iaload (131 + (2 * h)) dX9_many_11 rfl (by omega) rfl ?_
  refine Go.topE (s (131 + (2 * h))) (congrFun hs _) ?_
  refine Go.ireturn .int dX9_many_12 rfl rfl ?_
  exact ⟨rfl, rfl⟩
theorem m_where {V : VV} {d : Nat} {μ : Memo} {s : Nat → Int32} (hs : μ 77 = s) (h : Nat) (hh : h < 8) : Ret V (d) mX9_where [vR 76, vI (nI h)] μ (some (vI (s (131 + 2 * h + 1)))) μ := by
  show Go V (d) mX9_where 0 [some (vR 76), some (vI (nI h))] [] μ _
  refine Go.aload_n dX9_where_0 rfl ?_
  refine Go.getR dX9_where_1 flX9_7 rfl ?_
  refine Go.sipush (v := nI 131) dX9_where_4 rfl ?_
  refine Go.iconst (v := nI 2) dX9_where_7 rfl ?_
  refine Go.iload_n dX9_where_8 rfl ?_
  refine Go.imulN dX9_where_9 ?_
  refine Go.at 10 rfl ?_
  refine Go.iaddN dX9_where_10 ?_
  refine Go.iconst (v := nI 1) dX9_where_11 rfl ?_
  refine Go.iaddN dX9_where_12 ?_
  refine Go.iaload ((131 + (2 * h)) + 1) dX9_where_13 rfl (by omega) rfl ?_
  refine Go.topE (s ((131 + (2 * h)) + 1)) (congrFun hs _) ?_
  refine Go.ireturn .int dX9_where_14 rfl rfl ?_
  exact ⟨rfl, rfl⟩
theorem m_isDry {V : VV} {d : Nat} {μ : Memo} {s : Nat → Int32} (hs : μ 77 = s) (hT : TxtsOK s) (c : Nat) (hc : c < 30) (t : Int32) : RetI V (d + 3) mX9_isDry [vR 76, vI (nI c), vI t] μ (bI (levelF s t < tpF s c)) (Fr [90, 91] μ) := by
  show Go V (d + 3) mX9_isDry 0 [some (vR 76), some (vI (nI c)), some (vI t)] [] μ _
  refine Go.aload_n dX9_isDry_0 rfl ?_
  refine Go.iload_n dX9_isDry_1 rfl ?_
  refine Go.callVi 76 [vI (nI c)] [] dX9_isDry_2 lkX9_78 (Or.inl ⟨_, _, _, rfl, rfl, rfl⟩) rfl (Nat.le_of_ble_eq_true rfl) rfl (Nat.le_of_ble_eq_true rfl) (m_top hs c hc) ?_
  refine Go.aload_n dX9_isDry_5 rfl ?_
  refine Go.iload_n dX9_isDry_6 rfl ?_
  refine Go.callVx 76 [vI t] [vI (tpF s c)] dX9_isDry_7 lkX9_87 (Or.inl ⟨_, _, _, rfl, rfl, rfl⟩) rfl (Nat.le_of_ble_eq_true rfl) rfl (Nat.le_of_ble_eq_true rfl) (m_level hs hT t) (fun μ1 k1 => ?_)
  have hs1 : μ1 77 = s := (k1 77 (by decide)).trans hs
  refine Go.at 10 rfl ?_
  refine Go.icmp_le (tgt := 17) dX9_isDry_10 (by decide) (fun h10 => ?_) (fun h10 => ?_)
  · -- 10 taken
    refine Go.iconst (v := nI 0) dX9_isDry_17 rfl ?_
    refine Go.ireturn .boolean dX9_isDry_18 rfl rfl ?_
    exact ⟨congrArg (fun z => some (vI z)) (bI_f (by simp only [sI_lt, sI_le] at *; omega)).symm, k1⟩
  · -- 10 not
    refine Go.iconst (v := nI 1) dX9_isDry_13 rfl ?_
    refine Go.goto (tgt := 18) dX9_isDry_14 (by decide) ?_
    refine Go.ireturn .boolean dX9_isDry_18 rfl rfl ?_
    exact ⟨congrArg (fun z => some (vI z)) (bI_t (by simp only [sI_lt, sI_le] at *; omega)).symm, k1⟩
theorem m_peak_lp {V : VV} {d : Nat} {μ : Memo} {s : Nat → Int32} (hs : μ 77 = s) :
    ∀ (j k : Nat) , k + j = 29 → Go V (d + 2) mX9_peak 4 [some (vR 76), some (vI (nI ((pkF s k)))), some (vI (nI (k + 1)))] [] μ (fun r' μ'' => r' = some (vI (nI (pkF s 29))) ∧ μ'' = μ)
  | 0, k, hkj => by
    obtain rfl : k = 29 := by omega
    refine Go.iload_n dX9_peak_4 rfl ?_
    refine Go.bipush (v := nI 30) dX9_peak_5 rfl ?_
    refine Go.icmp_ge_t (tgt := 35) dX9_peak_7 (by decide) (by decide) ?_
    refine Go.iload_n dX9_peak_35 rfl ?_
    refine Go.ireturn .int dX9_peak_36 rfl rfl ?_
    exact ⟨rfl, rfl⟩
  | j + 1, k, hkj => by
    have hk : k < 29 := by omega
    have hpk := pkF_le s k
    refine Go.iload_n dX9_peak_4 rfl ?_
    refine Go.bipush (v := nI 30) dX9_peak_5 rfl ?_
    refine Go.icmp_ge_f (tgt := 35) dX9_peak_7 (by decide) (nI_ge (by omega) (by decide)) ?_
    refine Go.aload_n dX9_peak_10 rfl ?_
    refine Go.iload_n dX9_peak_11 rfl ?_
    refine Go.callVi 76 [vI (nI (k + 1))] [] dX9_peak_12 lkX9_78 (Or.inl ⟨_, _, _, rfl, rfl, rfl⟩) rfl (Nat.le_of_ble_eq_true rfl) rfl (Nat.le_of_ble_eq_true rfl) (m_top hs (k + 1) (by omega)) ?_
    refine Go.at 15 rfl ?_
    refine Go.aload_n dX9_peak_15 rfl ?_
    refine Go.iload_n dX9_peak_16 rfl ?_
    refine Go.callVi 76 [vI (nI ((pkF s k)))] [vI (tpF s (k + 1))] dX9_peak_17 lkX9_78 (Or.inl ⟨_, _, _, rfl, rfl, rfl⟩) rfl (Nat.le_of_ble_eq_true rfl) rfl (Nat.le_of_ble_eq_true rfl) (m_top hs (pkF s k) (by omega)) ?_
    refine Go.icmp_le (tgt := 27) dX9_peak_20 (by decide) (fun h20 => ?_) (fun h20 => ?_)
    · -- 20 taken
      refine Go.iload_n dX9_peak_27 rfl ?_
      refine Go.istore_n (ls' := [some (vR 76), some (vI (nI ((pkF s k)))), some (vI (nI (k + 1)))]) dX9_peak_28 (by decide) rfl ?_
      refine Go.iinc (v := nI ((k + 1) + 1)) (ls' := [some (vR 76), some (vI (nI ((pkF s k)))), some (vI (nI ((k + 1) + 1)))]) dX9_peak_29 rfl (nI_add _ _) (by decide) rfl ?_
      refine Go.goto (tgt := 4) dX9_peak_32 (by decide) ?_
      rw [show nI ((pkF s k)) = nI (pkF s (k + 1)) from (by rw [pkF]; simp only [sI_lt, sI_le] at *; first | rw [if_pos (by omega)] | rw [if_neg (by omega)])]
      exact m_peak_lp hs j (k + 1) (by omega)
    · -- 20 not
      refine Go.iload_n dX9_peak_23 rfl ?_
      refine Go.goto (tgt := 28) dX9_peak_24 (by decide) ?_
      refine Go.istore_n (ls' := [some (vR 76), some (vI (nI (k + 1))), some (vI (nI (k + 1)))]) dX9_peak_28 (by decide) rfl ?_
      refine Go.iinc (v := nI ((k + 1) + 1)) (ls' := [some (vR 76), some (vI (nI (k + 1))), some (vI (nI ((k + 1) + 1)))]) dX9_peak_29 rfl (nI_add _ _) (by decide) rfl ?_
      refine Go.goto (tgt := 4) dX9_peak_32 (by decide) ?_
      rw [show nI (k + 1) = nI (pkF s (k + 1)) from (by rw [pkF]; simp only [sI_lt, sI_le] at *; first | rw [if_pos (by omega)] | rw [if_neg (by omega)])]
      exact m_peak_lp hs j (k + 1) (by omega)
theorem m_peak {V : VV} {d : Nat} {μ : Memo} {s : Nat → Int32} (hs : μ 77 = s) : Ret V (d + 2) mX9_peak [vR 76] μ (some (vI (nI (pkF s 29)))) μ := by
  show Go V (d + 2) mX9_peak 0 [some (vR 76), none, none] [] μ _
  refine Go.iconst (v := nI 0) dX9_peak_0 rfl ?_
  refine Go.istore_n (ls' := [some (vR 76), some (vI (nI 0)), none]) dX9_peak_1 (by decide) rfl ?_
  refine Go.iconst (v := nI 1) dX9_peak_2 rfl ?_
  refine Go.istore_n (ls' := [some (vR 76), some (vI (nI 0)), some (vI (nI 1))]) dX9_peak_3 (by decide) rfl ?_
  exact m_peak_lp hs 29 0 (by omega)
theorem c_peak_lp {V : VV} {d : Nat} {μ : Memo} {s : Nat → Int32} {B : Nat} (hB : isB B) (hI : Isl B μ s) :
    ∀ (j k : Nat) , k + j = 29 → Go V (d + 2) mX1_peak 4 [some (vR B), some (vI (nI ((pkF s k)))), some (vI (nI (k + 1)))] [] μ (fun r' μ'' => r' = some (vI (nI (pkF s 29))) ∧ μ'' = μ)
  | 0, k, hkj => by
    obtain rfl : k = 29 := by omega
    refine Go.iload_n dX1_peak_4 rfl ?_
    refine Go.bipush (v := nI 30) dX1_peak_5 rfl ?_
    refine Go.icmp_ge_t (tgt := 31) dX1_peak_7 (by decide) (by decide) ?_
    refine Go.iload_n dX1_peak_31 rfl ?_
    refine Go.ireturn .int dX1_peak_32 rfl rfl ?_
    exact ⟨rfl, rfl⟩
  | j + 1, k, hkj => by
    have hk : k < 29 := by omega
    have hpk := pkF_le s k
    refine Go.iload_n dX1_peak_4 rfl ?_
    refine Go.bipush (v := nI 30) dX1_peak_5 rfl ?_
    refine Go.icmp_ge_f (tgt := 31) dX1_peak_7 (by decide) (nI_ge (by omega) (by decide)) ?_
    refine Go.aload_n dX1_peak_10 rfl ?_
    refine Go.iload_n dX1_peak_11 rfl ?_
    refine Go.callVi B [vI (nI (k + 1))] [] dX1_peak_12 lkX1_83 (rcB hB) rfl (Nat.le_of_ble_eq_true rfl) rfl (Nat.le_of_ble_eq_true rfl) (c_top hB hI (k + 1) (by omega)) ?_
    refine Go.at 15 rfl ?_
    refine Go.aload_n dX1_peak_15 rfl ?_
    refine Go.iload_n dX1_peak_16 rfl ?_
    refine Go.callVi B [vI (nI ((pkF s k)))] [vI (tpF s (k + 1))] dX1_peak_17 lkX1_83 (rcB hB) rfl (Nat.le_of_ble_eq_true rfl) rfl (Nat.le_of_ble_eq_true rfl) (c_top hB hI (pkF s k) (by omega)) ?_
    refine Go.icmp_le (tgt := 25) dX1_peak_20 (by decide) (fun h20 => ?_) (fun h20 => ?_)
    · -- 20 taken
      refine Go.iinc (v := nI ((k + 1) + 1)) (ls' := [some (vR B), some (vI (nI ((pkF s k)))), some (vI (nI ((k + 1) + 1)))]) dX1_peak_25 rfl (nI_add _ _) (by decide) rfl ?_
      refine Go.goto (tgt := 4) dX1_peak_28 (by decide) ?_
      rw [show nI ((pkF s k)) = nI (pkF s (k + 1)) from (by rw [pkF]; simp only [sI_lt, sI_le] at *; first | rw [if_pos (by omega)] | rw [if_neg (by omega)])]
      exact c_peak_lp hB hI j (k + 1) (by omega)
    · -- 20 not
      refine Go.iload_n dX1_peak_23 rfl ?_
      refine Go.istore_n (ls' := [some (vR B), some (vI (nI (k + 1))), some (vI (nI (k + 1)))]) dX1_peak_24 (by decide) rfl ?_
      refine Go.iinc (v := nI ((k + 1) + 1)) (ls' := [some (vR B), some (vI (nI (k + 1))), some (vI (nI ((k + 1) + 1)))]) dX1_peak_25 rfl (nI_add _ _) (by decide) rfl ?_
      refine Go.goto (tgt := 4) dX1_peak_28 (by decide) ?_
      rw [show nI (k + 1) = nI (pkF s (k + 1)) from (by rw [pkF]; simp only [sI_lt, sI_le] at *; first | rw [if_pos (by omega)] | rw [if_neg (by omega)])]
      exact c_peak_lp hB hI j (k + 1) (by omega)
theorem c_peak {V : VV} {d : Nat} {μ : Memo} {s : Nat → Int32} {B : Nat} (hB : isB B) (hI : Isl B μ s) : Ret V (d + 2) mX1_peak [vR B] μ (some (vI (nI (pkF s 29)))) μ := by
  show Go V (d + 2) mX1_peak 0 [some (vR B), none, none] [] μ _
  refine Go.iconst (v := nI 0) dX1_peak_0 rfl ?_
  refine Go.istore_n (ls' := [some (vR B), some (vI (nI 0)), none]) dX1_peak_1 (by decide) rfl ?_
  refine Go.iconst (v := nI 1) dX1_peak_2 rfl ?_
  refine Go.istore_n (ls' := [some (vR B), some (vI (nI 0)), some (vI (nI 1))]) dX1_peak_3 (by decide) rfl ?_
  exact c_peak_lp hB hI 29 0 (by omega)
theorem c_worst_lp {V : VV} {d : Nat} {μ0 : Memo} {s : Nat → Int32} {B : Nat} (hB : isB B) (hI0 : Isl B μ0 s) (hX0 : Txr μ0 s) (hT : TxtsOK s) (n : Nat) (hn : n ≤ 99) :
    ∀ (j k : Nat) (μ : Memo), k + j = n → Fr [1, 6] μ0 μ → Go V (d + 5) mX1_worstOf 8 [some (vR B), some (vI (nI n)), some (vI ((wsF s k).1)), some (vI ((wsF s k).2)), some (vI (nI k)), none] [] μ (fun r' μ'' => r' = some (vI (wsF s n).1) ∧ Fr [1, 6] μ0 μ'')
  | 0, k, μ, hkj, hf => by
    obtain rfl : k = n := by omega
    refine Go.iload dX1_worstOf_8 rfl ?_
    refine Go.iload_n dX1_worstOf_10 rfl ?_
    refine Go.icmp_ge_t (tgt := 40) dX1_worstOf_11 (by decide) (nI_le (Nat.le_refl _) (by omega)) ?_
    refine Go.iload_n dX1_worstOf_40 rfl ?_
    refine Go.ireturn .int dX1_worstOf_41 rfl rfl ?_
    exact ⟨rfl, hf⟩
  | j + 1, k, μ, hkj, hf => by
    have hk : k < n := by omega
    have hI : Isl B μ s := hI0.fr hB hf
    have hX : Txr μ s := hX0.fr hT.1 hf
    refine Go.iload dX1_worstOf_8 rfl ?_
    refine Go.iload_n dX1_worstOf_10 rfl ?_
    refine Go.icmp_ge_f (tgt := 40) dX1_worstOf_11 (by decide) (nI_ge hk (by omega)) ?_
    refine Go.aload_n dX1_worstOf_14 rfl ?_
    refine Go.iload dX1_worstOf_15 rfl ?_
    refine Go.callVx B [vI (nI k)] [] dX1_worstOf_17 lkX1_110 (rcB hB) rfl (Nat.le_of_ble_eq_true rfl) rfl (Nat.le_of_ble_eq_true rfl) ((c_size hB hI hX hT (nI k)).eq (sz_c _ _)) (fun μ1 k1 => ?_)
    have hI1 : Isl B μ1 s := hI.fr hB k1
    have hX1 : Txr μ1 s := hX.fr hT.1 k1
    refine Go.at 20 rfl ?_
    refine Go.istore (ls' := [some (vR B), some (vI (nI n)), some (vI ((wsF s k).1)), some (vI ((wsF s k).2)), some (vI (nI k)), some (vI (szF s (nI k)))]) dX1_worstOf_20 (by decide) rfl ?_
    refine Go.iload dX1_worstOf_22 rfl ?_
    refine Go.iload_n dX1_worstOf_24 rfl ?_
    refine Go.icmp_ge (tgt := 34) dX1_worstOf_25 (by decide) (fun h25 => ?_) (fun h25 => ?_)
    · -- 25 taken
      refine Go.iinc (v := nI (k + 1)) (ls' := [some (vR B), some (vI (nI n)), some (vI ((wsF s k).1)), some (vI ((wsF s k).2)), some (vI (nI (k + 1))), some (vI (szF s (nI k)))]) dX1_worstOf_34 rfl (nI_add _ _) (by decide) rfl ?_
      refine Go.goto (tgt := 8) dX1_worstOf_37 (by decide) ?_
      refine Go.mask [true, true, true, true, true, false] rfl ?_
      have hw : wsF s (k + 1) = wsF s k := (by rw [wsF]; simp only [sI_lt, sI_le] at *; first | rw [if_pos (by omega)] | rw [if_neg (by omega)])
      have ih := c_worst_lp (V := V) (d := d) hB hI0 hX0 hT n hn j (k + 1) μ1 (by omega) (hf.trans k1)
      rw [hw] at ih
      exact ih
    · -- 25 not
      refine Go.iload dX1_worstOf_28 rfl ?_
      refine Go.istore_n (ls' := [some (vR B), some (vI (nI n)), some (vI ((wsF s k).1)), some (vI (szF s (nI k))), some (vI (nI k)), some (vI (szF s (nI k)))]) dX1_worstOf_30 (by decide) rfl ?_
      refine Go.iload dX1_worstOf_31 rfl ?_
      refine Go.istore_n (ls' := [some (vR B), some (vI (nI n)), some (vI (nI k)), some (vI (szF s (nI k))), some (vI (nI k)), some (vI (szF s (nI k)))]) dX1_worstOf_33 (by decide) rfl ?_
      refine Go.iinc (v := nI (k + 1)) (ls' := [some (vR B), some (vI (nI n)), some (vI (nI k)), some (vI (szF s (nI k))), some (vI (nI (k + 1))), some (vI (szF s (nI k)))]) dX1_worstOf_34 rfl (nI_add _ _) (by decide) rfl ?_
      refine Go.goto (tgt := 8) dX1_worstOf_37 (by decide) ?_
      refine Go.at 8 rfl ?_
      refine Go.mask [true, true, true, true, true, false] rfl ?_
      have hw : wsF s (k + 1) = (nI k, szF s (nI k)) := (by rw [wsF]; simp only [sI_lt, sI_le] at *; first | rw [if_pos (by omega)] | rw [if_neg (by omega)])
      have ih := c_worst_lp (V := V) (d := d) hB hI0 hX0 hT n hn j (k + 1) μ1 (by omega) (hf.trans k1)
      rw [hw] at ih
      exact ih
theorem c_worst {V : VV} {d : Nat} {μ : Memo} {s : Nat → Int32} {B : Nat} (hB : isB B) (hI : Isl B μ s) (hX : Txr μ s) (hT : TxtsOK s) (n : Nat) (hn : n ≤ 99) : RetI V (d + 5) mX1_worstOf [vR B, vI (nI n)] μ (wsF s n).1 (Fr [1, 6] μ) := by
  show Go V (d + 5) mX1_worstOf 0 [some (vR B), some (vI (nI n)), none, none, none, none] [] μ _
  refine Go.iconst (v := nI 0) dX1_worstOf_0 rfl ?_
  refine Go.istore_n (ls' := [some (vR B), some (vI (nI n)), some (vI (nI 0)), none, none, none]) dX1_worstOf_1 (by decide) rfl ?_
  refine Go.bipush (v := nI 31) dX1_worstOf_2 rfl ?_
  refine Go.istore_n (ls' := [some (vR B), some (vI (nI n)), some (vI (nI 0)), some (vI (nI 31)), none, none]) dX1_worstOf_4 (by decide) rfl ?_
  refine Go.iconst (v := nI 0) dX1_worstOf_5 rfl ?_
  refine Go.istore (ls' := [some (vR B), some (vI (nI n)), some (vI (nI 0)), some (vI (nI 31)), some (vI (nI 0)), none]) dX1_worstOf_6 (by decide) rfl ?_
  refine Go.at 8 rfl ?_
  exact c_worst_lp hB hI hX hT n hn n 0 μ (by omega) (Fr.rf _ _)
theorem m_worst_lp {V : VV} {d : Nat} {μ0 : Memo} {s : Nat → Int32} (hs0 : μ0 77 = s) (hT : TxtsOK s) (n : Nat) (hn1 : 1 ≤ n) (hn : n ≤ 99) (w : Int32) :
    ∀ (j k : Nat) (μ : Memo), k + j = n → Fr [90, 91] μ0 μ → Go V (d + 4) mX9_worst 34 [some (vR 76), some (vI (nI n)), some (vI w), some (vI ((wsF s k).1)), some (vI ((wsF s k).2)), some (vI (nI k)), none] [] μ (fun r' μ'' => r' = some (vI (if w = 0 then (wsF s n).1 else (wsF s n).2)) ∧ Fr [90, 91] μ0 μ'')
  | 0, k, μ, hkj, hf => by
    obtain rfl : k = n := by omega
    refine Go.iload dX9_worst_34 rfl ?_
    refine Go.iload_n dX9_worst_36 rfl ?_
    refine Go.icmp_ge_t (tgt := 87) dX9_worst_37 (by decide) (nI_le (Nat.le_refl _) (by omega)) ?_
    refine Go.iload_n dX9_worst_87 rfl ?_
    refine Go.if_ne (tgt := 95) dX9_worst_88 (by decide) (fun h88 => ?_) (fun h88 => ?_)
    · -- 88 taken
      refine Go.iload dX9_worst_95 rfl ?_
      refine Go.ireturn .int dX9_worst_97 rfl rfl ?_
      exact ⟨by simp only [h88, if_true, if_false], hf⟩
    · -- 88 not
      refine Go.iload_n dX9_worst_91 rfl ?_
      refine Go.goto (tgt := 97) dX9_worst_92 (by decide) ?_
      refine Go.ireturn .int dX9_worst_97 rfl rfl ?_
      exact ⟨by simp only [h88, if_true, if_false], hf⟩
  | j + 1, k, μ, hkj, hf => by
    have hk : k < n := by omega
    have hs : μ 77 = s := (hf 77 (by decide)).trans hs0
    refine Go.iload dX9_worst_34 rfl ?_
    refine Go.iload_n dX9_worst_36 rfl ?_
    refine Go.icmp_ge_f (tgt := 87) dX9_worst_37 (by decide) (nI_ge hk (by omega)) ?_
    refine Go.aload_n dX9_worst_40 rfl ?_
    refine Go.iload dX9_worst_41 rfl ?_
    refine Go.callVx 76 [vI (nI k)] [] dX9_worst_43 lkX9_131 (Or.inl ⟨_, _, _, rfl, rfl, rfl⟩) rfl (Nat.le_of_ble_eq_true rfl) rfl (Nat.le_of_ble_eq_true rfl) (m_dry hs hT (nI k)) (fun μ1 k1 => ?_)
    have hs1 : μ1 77 = s := (k1 77 (by decide)).trans hs
    refine Go.at 46 rfl ?_
    refine Go.callSi [vI (dryF s (nI k))] [] dX9_worst_46 lkX9_134 rfl (Nat.le_of_ble_eq_true rfl) rfl (Nat.le_of_ble_eq_true rfl) ((m_ones (dryF s (nI k))).eq (sz_m _ _)) ?_
    refine Go.istore (ls' := [some (vR 76), some (vI (nI n)), some (vI w), some (vI ((wsF s k).1)), some (vI ((wsF s k).2)), some (vI (nI k)), some (vI (szF s (nI k)))]) dX9_worst_49 (by decide) rfl ?_
    refine Go.iload dX9_worst_51 rfl ?_
    refine Go.iload dX9_worst_53 rfl ?_
    refine Go.icmp_ge (tgt := 63) dX9_worst_55 (by decide) (fun h55 => ?_) (fun h55 => ?_)
    · -- 55 taken
      refine Go.iload_n dX9_worst_63 rfl ?_
      refine Go.istore_n (ls' := [some (vR 76), some (vI (nI n)), some (vI w), some (vI ((wsF s k).1)), some (vI ((wsF s k).2)), some (vI (nI k)), some (vI (szF s (nI k)))]) dX9_worst_64 (by decide) rfl ?_
      refine Go.iload dX9_worst_65 rfl ?_
      refine Go.iload dX9_worst_67 rfl ?_
      refine Go.icmp_ge_t (tgt := 77) dX9_worst_69 (by decide) h55 ?_
      refine Go.iload dX9_worst_77 rfl ?_
      refine Go.at 79 rfl ?_
      refine Go.istore (ls' := [some (vR 76), some (vI (nI n)), some (vI w), some (vI ((wsF s k).1)), some (vI ((wsF s k).2)), some (vI (nI k)), some (vI (szF s (nI k)))]) dX9_worst_79 (by decide) rfl ?_
      refine Go.iinc (v := nI (k + 1)) (ls' := [some (vR 76), some (vI (nI n)), some (vI w), some (vI ((wsF s k).1)), some (vI ((wsF s k).2)), some (vI (nI (k + 1))), some (vI (szF s (nI k)))]) dX9_worst_81 rfl (nI_add _ _) (by decide) rfl ?_
      refine Go.goto (tgt := 34) dX9_worst_84 (by decide) ?_
      refine Go.mask [true, true, true, true, true, true, false] rfl ?_
      have hw : wsF s (k + 1) = wsF s k := (by rw [wsF]; simp only [sI_lt, sI_le] at *; first | rw [if_pos (by omega)] | rw [if_neg (by omega)])
      have ih := m_worst_lp (V := V) (d := d) hs0 hT n hn1 hn w j (k + 1) μ1 (by omega) (hf.trans k1)
      rw [hw] at ih
      exact ih
    · -- 55 not
      refine Go.iload dX9_worst_58 rfl ?_
      refine Go.goto (tgt := 64) dX9_worst_60 (by decide) ?_
      refine Go.istore_n (ls' := [some (vR 76), some (vI (nI n)), some (vI w), some (vI (nI k)), some (vI ((wsF s k).2)), some (vI (nI k)), some (vI (szF s (nI k)))]) dX9_worst_64 (by decide) rfl ?_
      refine Go.iload dX9_worst_65 rfl ?_
      refine Go.iload dX9_worst_67 rfl ?_
      refine Go.icmp_ge_f (tgt := 77) dX9_worst_69 (by decide) h55 ?_
      refine Go.at 72 rfl ?_
      refine Go.iload dX9_worst_72 rfl ?_
      refine Go.goto (tgt := 79) dX9_worst_74 (by decide) ?_
      refine Go.istore (ls' := [some (vR 76), some (vI (nI n)), some (vI w), some (vI (nI k)), some (vI (szF s (nI k))), some (vI (nI k)), some (vI (szF s (nI k)))]) dX9_worst_79 (by decide) rfl ?_
      refine Go.iinc (v := nI (k + 1)) (ls' := [some (vR 76), some (vI (nI n)), some (vI w), some (vI (nI k)), some (vI (szF s (nI k))), some (vI (nI (k + 1))), some (vI (szF s (nI k)))]) dX9_worst_81 rfl (nI_add _ _) (by decide) rfl ?_
      refine Go.goto (tgt := 34) dX9_worst_84 (by decide) ?_
      refine Go.mask [true, true, true, true, true, true, false] rfl ?_
      have hw : wsF s (k + 1) = (nI k, szF s (nI k)) := (by rw [wsF]; simp only [sI_lt, sI_le] at *; first | rw [if_pos (by omega)] | rw [if_neg (by omega)])
      have ih := m_worst_lp (V := V) (d := d) hs0 hT n hn1 hn w j (k + 1) μ1 (by omega) (hf.trans k1)
      rw [hw] at ih
      exact ih
theorem c_dryHours_lp {V : VV} {d : Nat} {μ0 : Memo} {s : Nat → Int32} {B : Nat} (hB : isB B) (hI0 : Isl B μ0 s) (hX0 : Txr μ0 s) (hT : TxtsOK s) (c : Nat) (hc : c < 30) :
    ∀ (j k : Nat) (μ : Memo), k + j = 48 → Fr [1, 6] μ0 μ → Go V (d + 3) mX1_dryHours 8 [some (vR B), some (vI (nI c)), some (vI (tpF s c)), some (vI (nI k))] [] μ (fun r' μ'' => r' = some (vI (nI (dfF s c j k))) ∧ Fr [1, 6] μ0 μ'')
  | 0, k, μ, hkj, hf => by
    obtain rfl : k = 48 := by omega
    refine Go.iload_n dX1_dryHours_8 rfl ?_
    refine Go.bipush (v := nI 48) dX1_dryHours_9 rfl ?_
    refine Go.icmp_ge_t (tgt := 29) dX1_dryHours_11 (by decide) (by decide) ?_
    refine Go.iload_n dX1_dryHours_29 rfl ?_
    refine Go.ireturn .int dX1_dryHours_30 rfl rfl ?_
    exact ⟨rfl, hf⟩
  | j + 1, k, μ, hkj, hf => by
    have hk : k < 48 := by omega
    have hI : Isl B μ s := hI0.fr hB hf
    have hX : Txr μ s := hX0.fr hT.1 hf
    refine Go.iload_n dX1_dryHours_8 rfl ?_
    refine Go.bipush (v := nI 48) dX1_dryHours_9 rfl ?_
    refine Go.icmp_ge_f (tgt := 29) dX1_dryHours_11 (by decide) (nI_ge hk (by decide)) ?_
    refine Go.iload_n dX1_dryHours_14 rfl ?_
    refine Go.aload_n dX1_dryHours_15 rfl ?_
    refine Go.iload_n dX1_dryHours_16 rfl ?_
    refine Go.at 17 rfl ?_
    refine Go.callVx B [vI (nI k)] [vI (tpF s c)] dX1_dryHours_17 lkX1_99 (rcB hB) rfl (Nat.le_of_ble_eq_true rfl) rfl (Nat.le_of_ble_eq_true rfl) (c_level hB hI hX hT (nI k)) (fun μ1 k1 => ?_)
    have hI1 : Isl B μ1 s := hI.fr hB k1
    have hX1 : Txr μ1 s := hX.fr hT.1 k1
    refine Go.icmp_le (tgt := 29) dX1_dryHours_20 (by decide) (fun h20 => ?_) (fun h20 => ?_)
    · -- 20 taken
      refine Go.iload_n dX1_dryHours_29 rfl ?_
      refine Go.ireturn .int dX1_dryHours_30 rfl rfl ?_
      exact ⟨by rw [dfF, if_neg (by simp only [sI_lt, sI_le] at *; omega)], hf.trans k1⟩
    · -- 20 not
      refine Go.iinc (v := nI (k + 1)) (ls' := [some (vR B), some (vI (nI c)), some (vI (tpF s c)), some (vI (nI (k + 1)))]) dX1_dryHours_23 rfl (nI_add _ _) (by decide) rfl ?_
      refine Go.goto (tgt := 8) dX1_dryHours_26 (by decide) ?_
      rw [show dfF s c (j + 1) k = dfF s c j (k + 1) from (by rw [dfF, if_pos (by simp only [sI_lt, sI_le] at *; omega)])]
      exact c_dryHours_lp hB hI0 hX0 hT c hc j (k + 1) μ1 (by omega) (hf.trans k1)
theorem c_dryHours {V : VV} {d : Nat} {μ : Memo} {s : Nat → Int32} {B : Nat} (hB : isB B) (hI : Isl B μ s) (hX : Txr μ s) (hT : TxtsOK s) (c : Nat) (hc : c < 30) : RetI V (d + 3) mX1_dryHours [vR B, vI (nI c)] μ (nI (dfF s c 48 0)) (Fr [1, 6] μ) := by
  show Go V (d + 3) mX1_dryHours 0 [some (vR B), some (vI (nI c)), none, none] [] μ _
  refine Go.aload_n dX1_dryHours_0 rfl ?_
  refine Go.iload_n dX1_dryHours_1 rfl ?_
  refine Go.callVi B [vI (nI c)] [] dX1_dryHours_2 lkX1_83 (rcB hB) rfl (Nat.le_of_ble_eq_true rfl) rfl (Nat.le_of_ble_eq_true rfl) (c_top hB hI c hc) ?_
  refine Go.istore_n (ls' := [some (vR B), some (vI (nI c)), some (vI (tpF s c)), none]) dX1_dryHours_5 (by decide) rfl ?_
  refine Go.iconst (v := nI 0) dX1_dryHours_6 rfl ?_
  refine Go.istore_n (ls' := [some (vR B), some (vI (nI c)), some (vI (tpF s c)), some (vI (nI 0))]) dX1_dryHours_7 (by decide) rfl ?_
  refine Go.at 8 rfl ?_
  exact c_dryHours_lp hB hI hX hT c hc 48 0 μ (by omega) (Fr.rf _ _)
theorem m_dryFor_lp {V : VV} {d : Nat} {μ0 : Memo} {s : Nat → Int32} (hs0 : μ0 77 = s) (hT : TxtsOK s) (c : Nat) (hc : c < 30) :
    ∀ (j k : Nat) (μ : Memo), k + j = 48 → Fr [90, 91] μ0 μ → Go V (d + 4) mX9_dryFor 12 [some (vR 76), some (vI (nI c)), some (vI (nI k))] [] μ (fun r' μ'' => r' = some (vI (nI (dfF s c j k))) ∧ Fr [90, 91] μ0 μ'')
  | 0, k, μ, hkj, hf => by
    obtain rfl : k = 48 := by omega
    refine Go.iload_n dX9_dryFor_12 rfl ?_
    refine Go.bipush (v := nI 48) dX9_dryFor_13 rfl ?_
    refine Go.icmp_ge_t (tgt := 33) dX9_dryFor_15 (by decide) (by decide) ?_
    refine Go.iload_n dX9_dryFor_33 rfl ?_
    refine Go.ireturn .int dX9_dryFor_34 rfl rfl ?_
    exact ⟨rfl, hf⟩
  | j + 1, k, μ, hkj, hf => by
    have hk : k < 48 := by omega
    have hs : μ 77 = s := (hf 77 (by decide)).trans hs0
    refine Go.iload_n dX9_dryFor_12 rfl ?_
    refine Go.bipush (v := nI 48) dX9_dryFor_13 rfl ?_
    refine Go.icmp_ge_f (tgt := 33) dX9_dryFor_15 (by decide) (nI_ge hk (by decide)) ?_
    refine Go.aload_n dX9_dryFor_18 rfl ?_
    refine Go.iload_n dX9_dryFor_19 rfl ?_
    refine Go.iload_n dX9_dryFor_20 rfl ?_
    refine Go.at 21 rfl ?_
    refine Go.callVx 76 [vI (nI c), vI (nI k)] [] dX9_dryFor_21 lkX9_156 (Or.inl ⟨_, _, _, rfl, rfl, rfl⟩) rfl (Nat.le_of_ble_eq_true rfl) rfl (Nat.le_of_ble_eq_true rfl) (m_isDry hs hT c hc (nI k)) (fun μ1 k1 => ?_)
    have hs1 : μ1 77 = s := (k1 77 (by decide)).trans hs
    refine Go.if_eqb (tgt := 33) dX9_dryFor_24 (by decide) (fun h24 => ?_) (fun h24 => ?_)
    · -- 24 taken
      refine Go.iload_n dX9_dryFor_33 rfl ?_
      refine Go.ireturn .int dX9_dryFor_34 rfl rfl ?_
      exact ⟨by rw [dfF, if_neg h24], hf.trans k1⟩
    · -- 24 not
      refine Go.iinc (v := nI (k + 1)) (ls' := [some (vR 76), some (vI (nI c)), some (vI (nI (k + 1)))]) dX9_dryFor_27 rfl (nI_add _ _) (by decide) rfl ?_
      refine Go.goto (tgt := 12) dX9_dryFor_30 (by decide) ?_
      rw [show dfF s c (j + 1) k = dfF s c j (k + 1) from (by rw [dfF, if_pos h24])]
      exact m_dryFor_lp hs0 hT c hc j (k + 1) μ1 (by omega) (hf.trans k1)
theorem c_windowOf_lp {V : VV} {d : Nat} {μ0 : Memo} {s : Nat → Int32} {B : Nat} (hB : isB B) (hI0 : Isl B μ0 s) (hX0 : Txr μ0 s) (hT : TxtsOK s) (c : Nat) (hc : c < 30) (n : Nat) (hn1 : 1 ≤ n) (hn : n ≤ 24) :
    ∀ (j k : Nat) (r : Nat) (μ : Memo), k + j = (99 + n) → r < n → Fr [1, 6] μ0 μ → Go V (d + 3) mX1_windowOf 12 [some (vR B), some (vI (nI c)), some (vI (nI n)), some (vI (tpF s c)), some (vI (nI r)), some (vI (nI k))] [] μ (fun r' μ'' => r' = some (vI (wnF s c n j k r)) ∧ Fr [1, 6] μ0 μ'')
  | 0, k, r, μ, hkj, hr, hf => by
    obtain rfl : k = (99 + n) := by omega
    refine Go.iload dX1_windowOf_12 rfl ?_
    refine Go.bipush (v := nI 99) dX1_windowOf_14 rfl ?_
    refine Go.iload_n dX1_windowOf_16 rfl ?_
    refine Go.iaddN dX1_windowOf_17 ?_
    refine Go.icmp_ge_t (tgt := 60) dX1_windowOf_18 (by decide) (nI_le (Nat.le_refl _) (by omega)) ?_
    refine Go.ldc dX1_windowOf_60 cnX1_41 ?_
    refine Go.at 62 rfl ?_
    refine Go.ireturn .int dX1_windowOf_62 rfl rfl ?_
    exact ⟨rfl, hf⟩
  | j + 1, k, r, μ, hkj, hr, hf => by
    have hk : k < (99 + n) := by omega
    have hI : Isl B μ s := hI0.fr hB hf
    have hX : Txr μ s := hX0.fr hT.1 hf
    refine Go.iload dX1_windowOf_12 rfl ?_
    refine Go.bipush (v := nI 99) dX1_windowOf_14 rfl ?_
    refine Go.iload_n dX1_windowOf_16 rfl ?_
    refine Go.iaddN dX1_windowOf_17 ?_
    refine Go.icmp_ge_f (tgt := 60) dX1_windowOf_18 (by decide) (nI_ge hk (by omega)) ?_
    refine Go.iload_n dX1_windowOf_21 rfl ?_
    refine Go.at 22 rfl ?_
    refine Go.aload_n dX1_windowOf_22 rfl ?_
    refine Go.iload dX1_windowOf_23 rfl ?_
    refine Go.callVx B [vI (nI k)] [vI (tpF s c)] dX1_windowOf_25 lkX1_99 (rcB hB) rfl (Nat.le_of_ble_eq_true rfl) rfl (Nat.le_of_ble_eq_true rfl) (c_level hB hI hX hT (nI k)) (fun μ1 k1 => ?_)
    have hI1 : Isl B μ1 s := hI.fr hB k1
    have hX1 : Txr μ1 s := hX.fr hT.1 k1
    refine Go.icmp_le (tgt := 38) dX1_windowOf_28 (by decide) (fun h28 => ?_) (fun h28 => ?_)
    · -- 28 taken
      refine Go.iconst (v := nI 0) dX1_windowOf_38 rfl ?_
      refine Go.istore (ls' := [some (vR B), some (vI (nI c)), some (vI (nI n)), some (vI (tpF s c)), some (vI (nI 0)), some (vI (nI k))]) dX1_windowOf_39 (by decide) rfl ?_
      refine Go.iload dX1_windowOf_41 rfl ?_
      refine Go.iload_n dX1_windowOf_43 rfl ?_
      refine Go.icmp_ne_t (tgt := 54) dX1_windowOf_44 (by decide) (by intro e; rw [sI_eq, nT, nT] at e; omega) ?_
      refine Go.iinc (v := nI (k + 1)) (ls' := [some (vR B), some (vI (nI c)), some (vI (nI n)), some (vI (tpF s c)), some (vI (nI 0)), some (vI (nI (k + 1)))]) dX1_windowOf_54 rfl (nI_add _ _) (by decide) rfl ?_
      refine Go.at 57 rfl ?_
      refine Go.goto (tgt := 12) dX1_windowOf_57 (by decide) ?_
      rw [show wnF s c n (j + 1) k r = wnF s c n j (k + 1) 0 from (by rw [wnF, if_neg (by simp only [sI_lt, sI_le] at *; omega)])]
      exact c_windowOf_lp hB hI0 hX0 hT c hc n hn1 hn j (k + 1) 0 μ1 (by omega) (by omega) (hf.trans k1)
    · -- 28 not
      refine Go.iload dX1_windowOf_31 rfl ?_
      refine Go.iconst (v := nI 1) dX1_windowOf_33 rfl ?_
      refine Go.iaddN dX1_windowOf_34 ?_
      refine Go.goto (tgt := 39) dX1_windowOf_35 (by decide) ?_
      refine Go.istore (ls' := [some (vR B), some (vI (nI c)), some (vI (nI n)), some (vI (tpF s c)), some (vI (nI (r + 1))), some (vI (nI k))]) dX1_windowOf_39 (by decide) rfl ?_
      refine Go.iload dX1_windowOf_41 rfl ?_
      refine Go.at 43 rfl ?_
      refine Go.iload_n dX1_windowOf_43 rfl ?_
      refine Go.icmp_ne (tgt := 54) dX1_windowOf_44 (by decide) (fun h44 => ?_) (fun h44 => ?_)
      · -- 44 taken
        refine Go.iinc (v := nI (k + 1)) (ls' := [some (vR B), some (vI (nI c)), some (vI (nI n)), some (vI (tpF s c)), some (vI (nI (r + 1))), some (vI (nI (k + 1)))]) dX1_windowOf_54 rfl (nI_add _ _) (by decide) rfl ?_
        refine Go.goto (tgt := 12) dX1_windowOf_57 (by decide) ?_
        rw [show wnF s c n (j + 1) k r = wnF s c n j (k + 1) (r + 1) from (by rw [wnF, if_pos (by simp only [sI_lt, sI_le] at *; omega), if_neg (fun e => h44 (by rw [e]))])]
        exact c_windowOf_lp hB hI0 hX0 hT c hc n hn1 hn j (k + 1) (r + 1) μ1 (by omega) (by have : ¬ r + 1 = n := fun e => h44 (by rw [e]); omega) (hf.trans k1)
      · -- 44 not
        refine Go.iload dX1_windowOf_47 rfl ?_
        refine Go.iload_n dX1_windowOf_49 rfl ?_
        refine Go.isub dX1_windowOf_50 ?_
        refine Go.iconst (v := nI 1) dX1_windowOf_51 rfl ?_
        refine Go.iadd dX1_windowOf_52 ?_
        refine Go.ireturn .int dX1_windowOf_53 rfl rfl ?_
        exact ⟨by rw [wnF, if_pos (by simp only [sI_lt, sI_le] at *; omega), if_pos ((nI_eq (by omega) (by omega)).mp h44)], hf.trans k1⟩
theorem c_windowOf {V : VV} {d : Nat} {μ : Memo} {s : Nat → Int32} {B : Nat} (hB : isB B) (hI : Isl B μ s) (hX : Txr μ s) (hT : TxtsOK s) (c : Nat) (hc : c < 30) (n : Nat) (hn1 : 1 ≤ n) (hn : n ≤ 24) : RetI V (d + 3) mX1_windowOf [vR B, vI (nI c), vI (nI n)] μ (wnF s c n (99 + n) 0 0) (Fr [1, 6] μ) := by
  show Go V (d + 3) mX1_windowOf 0 [some (vR B), some (vI (nI c)), some (vI (nI n)), none, none, none] [] μ _
  refine Go.aload_n dX1_windowOf_0 rfl ?_
  refine Go.iload_n dX1_windowOf_1 rfl ?_
  refine Go.callVi B [vI (nI c)] [] dX1_windowOf_2 lkX1_83 (rcB hB) rfl (Nat.le_of_ble_eq_true rfl) rfl (Nat.le_of_ble_eq_true rfl) (c_top hB hI c hc) ?_
  refine Go.istore_n (ls' := [some (vR B), some (vI (nI c)), some (vI (nI n)), some (vI (tpF s c)), none, none]) dX1_windowOf_5 (by decide) rfl ?_
  refine Go.iconst (v := nI 0) dX1_windowOf_6 rfl ?_
  refine Go.istore (ls' := [some (vR B), some (vI (nI c)), some (vI (nI n)), some (vI (tpF s c)), some (vI (nI 0)), none]) dX1_windowOf_7 (by decide) rfl ?_
  refine Go.at 9 rfl ?_
  refine Go.iconst (v := nI 0) dX1_windowOf_9 rfl ?_
  refine Go.istore (ls' := [some (vR B), some (vI (nI c)), some (vI (nI n)), some (vI (tpF s c)), some (vI (nI 0)), some (vI (nI 0))]) dX1_windowOf_10 (by decide) rfl ?_
  exact c_windowOf_lp hB hI hX hT c hc n hn1 hn (99 + n) 0 0 μ (by omega) (by omega) (Fr.rf _ _)
theorem m_window_lp {V : VV} {d : Nat} {μ0 : Memo} {s : Nat → Int32} (hs0 : μ0 77 = s) (hT : TxtsOK s) (c : Nat) (hc : c < 30) (n : Nat) (hn1 : 1 ≤ n) (hn : n ≤ 24) :
    ∀ (j k : Nat) (r : Nat) (μ : Memo), k + j = (99 + n) → r < n → Fr [90, 91] μ0 μ → Go V (d + 4) mX9_window 27 [some (vR 76), some (vI (nI c)), some (vI (nI n)), some (vI (nI r)), some (vI (nI k))] [] μ (fun r' μ'' => r' = some (vI (wnF s c n j k r)) ∧ Fr [90, 91] μ0 μ'')
  | 0, k, r, μ, hkj, hr, hf => by
    obtain rfl : k = (99 + n) := by omega
    refine Go.iload dX9_window_27 rfl ?_
    refine Go.bipush (v := nI 99) dX9_window_29 rfl ?_
    refine Go.iload_n dX9_window_31 rfl ?_
    refine Go.iaddN dX9_window_32 ?_
    refine Go.icmp_ge_t (tgt := 72) dX9_window_33 (by decide) (nI_le (Nat.le_refl _) (by omega)) ?_
    refine Go.ldc dX9_window_72 cnX9_64 ?_
    refine Go.at 74 rfl ?_
    refine Go.ireturn .int dX9_window_74 rfl rfl ?_
    exact ⟨rfl, hf⟩
  | j + 1, k, r, μ, hkj, hr, hf => by
    have hk : k < (99 + n) := by omega
    have hs : μ 77 = s := (hf 77 (by decide)).trans hs0
    refine Go.iload dX9_window_27 rfl ?_
    refine Go.bipush (v := nI 99) dX9_window_29 rfl ?_
    refine Go.iload_n dX9_window_31 rfl ?_
    refine Go.iaddN dX9_window_32 ?_
    refine Go.icmp_ge_f (tgt := 72) dX9_window_33 (by decide) (nI_ge hk (by omega)) ?_
    refine Go.aload_n dX9_window_36 rfl ?_
    refine Go.at 37 rfl ?_
    refine Go.iload_n dX9_window_37 rfl ?_
    refine Go.iload dX9_window_38 rfl ?_
    refine Go.callVx 76 [vI (nI c), vI (nI k)] [] dX9_window_40 lkX9_156 (Or.inl ⟨_, _, _, rfl, rfl, rfl⟩) rfl (Nat.le_of_ble_eq_true rfl) rfl (Nat.le_of_ble_eq_true rfl) (m_isDry hs hT c hc (nI k)) (fun μ1 k1 => ?_)
    have hs1 : μ1 77 = s := (k1 77 (by decide)).trans hs
    refine Go.if_eqb (tgt := 52) dX9_window_43 (by decide) (fun h43 => ?_) (fun h43 => ?_)
    · -- 43 taken
      refine Go.iconst (v := nI 0) dX9_window_52 rfl ?_
      refine Go.istore_n (ls' := [some (vR 76), some (vI (nI c)), some (vI (nI n)), some (vI (nI 0)), some (vI (nI k))]) dX9_window_53 (by decide) rfl ?_
      refine Go.iload_n dX9_window_54 rfl ?_
      refine Go.iload_n dX9_window_55 rfl ?_
      refine Go.icmp_lt_t (tgt := 66) dX9_window_56 (by decide) (nI_lt (by omega) (by omega)) ?_
      refine Go.iinc (v := nI (k + 1)) (ls' := [some (vR 76), some (vI (nI c)), some (vI (nI n)), some (vI (nI 0)), some (vI (nI (k + 1)))]) dX9_window_66 rfl (nI_add _ _) (by decide) rfl ?_
      refine Go.at 69 rfl ?_
      refine Go.goto (tgt := 27) dX9_window_69 (by decide) ?_
      rw [show wnF s c n (j + 1) k r = wnF s c n j (k + 1) 0 from (by rw [wnF, if_neg h43])]
      exact m_window_lp hs0 hT c hc n hn1 hn j (k + 1) 0 μ1 (by omega) (by omega) (hf.trans k1)
    · -- 43 not
      refine Go.iload_n dX9_window_46 rfl ?_
      refine Go.iconst (v := nI 1) dX9_window_47 rfl ?_
      refine Go.iaddN dX9_window_48 ?_
      refine Go.goto (tgt := 53) dX9_window_49 (by decide) ?_
      refine Go.istore_n (ls' := [some (vR 76), some (vI (nI c)), some (vI (nI n)), some (vI (nI (r + 1))), some (vI (nI k))]) dX9_window_53 (by decide) rfl ?_
      refine Go.iload_n dX9_window_54 rfl ?_
      refine Go.at 55 rfl ?_
      refine Go.iload_n dX9_window_55 rfl ?_
      refine Go.icmp_lt (tgt := 66) dX9_window_56 (by decide) (fun h56 => ?_) (fun h56 => ?_)
      · -- 56 taken
        refine Go.iinc (v := nI (k + 1)) (ls' := [some (vR 76), some (vI (nI c)), some (vI (nI n)), some (vI (nI (r + 1))), some (vI (nI (k + 1)))]) dX9_window_66 rfl (nI_add _ _) (by decide) rfl ?_
        refine Go.goto (tgt := 27) dX9_window_69 (by decide) ?_
        rw [show wnF s c n (j + 1) k r = wnF s c n j (k + 1) (r + 1) from (by rw [wnF, if_pos h43, if_neg (by simp only [sI_lt, nT] at h56; omega)])]
        exact m_window_lp hs0 hT c hc n hn1 hn j (k + 1) (r + 1) μ1 (by omega) (by simp only [sI_lt, nT] at h56; omega) (hf.trans k1)
      · -- 56 not
        refine Go.iload dX9_window_59 rfl ?_
        refine Go.iload_n dX9_window_61 rfl ?_
        refine Go.isub dX9_window_62 ?_
        refine Go.iconst (v := nI 1) dX9_window_63 rfl ?_
        refine Go.iadd dX9_window_64 ?_
        refine Go.ireturn .int dX9_window_65 rfl rfl ?_
        exact ⟨by rw [wnF, if_pos h43, if_pos (by simp only [sI_lt, nT] at h56; omega)], hf.trans k1⟩
theorem c_ownedDry_lp {V : VV} {d : Nat} {μ : Memo} {s : Nat → Int32} {B : Nat} (hB : isB B) (hI : Isl B μ s) (hO : OwnOK s) (ow : Nat) (how : ow < 8) (t : Int32) :
    ∀ (j k : Nat) , k + j = 30 → Go V (d + 3) mX1_ownedDry 12 [some (vR B), some (vI (nI ow)), some (vI t), some (vI (levelF s t)), some (vI (nI ((owF s (nI ow) t k)))), some (vI (nI k))] [] μ (fun r' μ'' => r' = some (vI (nI (owF s (nI ow) t 30))) ∧ μ'' = μ)
  | 0, k, hkj => by
    obtain rfl : k = 30 := by omega
    refine Go.iload dX1_ownedDry_12 rfl ?_
    refine Go.bipush (v := nI 30) dX1_ownedDry_14 rfl ?_
    refine Go.icmp_ge_t (tgt := 49) dX1_ownedDry_16 (by decide) (by decide) ?_
    refine Go.iload dX1_ownedDry_49 rfl ?_
    refine Go.ireturn .int dX1_ownedDry_51 rfl rfl ?_
    exact ⟨rfl, rfl⟩
  | j + 1, k, hkj => by
    have hk : k < 30 := by omega
    refine Go.iload dX1_ownedDry_12 rfl ?_
    refine Go.bipush (v := nI 30) dX1_ownedDry_14 rfl ?_
    refine Go.icmp_ge_f (tgt := 49) dX1_ownedDry_16 (by decide) (nI_ge hk (by decide)) ?_
    refine Go.aload_n dX1_ownedDry_19 rfl ?_
    refine Go.getR dX1_ownedDry_20 flX1_21 (fBr hB 3 (by decide)) ?_
    refine Go.iload dX1_ownedDry_23 rfl ?_
    refine Go.at 25 rfl ?_
    refine Go.iaload k dX1_ownedDry_25 (alB4 hB) (by omega) rfl ?_
    refine Go.topE (oN (s (11 + 4 * k + 3))) ((hI.1 k hk).2.2.2) ?_
    refine Go.iload_n dX1_ownedDry_26 rfl ?_
    refine Go.icmp_ne (tgt := 43) dX1_ownedDry_27 (by decide) (fun h27 => ?_) (fun h27 => ?_)
    · -- 27 taken
      refine Go.iinc (v := nI (k + 1)) (ls' := [some (vR B), some (vI (nI ow)), some (vI t), some (vI (levelF s t)), some (vI (nI ((owF s (nI ow) t k)))), some (vI (nI (k + 1)))]) dX1_ownedDry_43 rfl (nI_add _ _) (by decide) rfl ?_
      refine Go.goto (tgt := 12) dX1_ownedDry_46 (by decide) ?_
      have hw : owF s (nI ow) t (k + 1) = (owF s (nI ow) t k) := (by rw [owF]; have hoe := own_eq hO hk how; first | exact congrArg (owF s (nI ow) t k + ·) (if_neg (fun z => h27 (hoe.mpr z.1))) | exact congrArg (owF s (nI ow) t k + ·) (if_neg (fun z => absurd z.2 (by simp only [sI_lt, sI_le] at *; omega))) | exact congrArg (owF s (nI ow) t k + ·) (if_pos ⟨hoe.mp h27, by simp only [sI_lt, sI_le] at *; omega⟩))
      have ih := c_ownedDry_lp (V := V) (d := d) hB hI hO ow how t j (k + 1) (by omega)
      rw [hw] at ih
      exact ih
    · -- 27 not
      refine Go.aload_n dX1_ownedDry_30 rfl ?_
      refine Go.iload dX1_ownedDry_31 rfl ?_
      refine Go.callVi B [vI (nI k)] [] dX1_ownedDry_33 lkX1_83 (rcB hB) rfl (Nat.le_of_ble_eq_true rfl) rfl (Nat.le_of_ble_eq_true rfl) (c_top hB hI k hk) ?_
      refine Go.iload_n dX1_ownedDry_36 rfl ?_
      refine Go.icmp_le (tgt := 43) dX1_ownedDry_37 (by decide) (fun h37 => ?_) (fun h37 => ?_)
      · -- 37 taken
        refine Go.iinc (v := nI (k + 1)) (ls' := [some (vR B), some (vI (nI ow)), some (vI t), some (vI (levelF s t)), some (vI (nI ((owF s (nI ow) t k)))), some (vI (nI (k + 1)))]) dX1_ownedDry_43 rfl (nI_add _ _) (by decide) rfl ?_
        refine Go.goto (tgt := 12) dX1_ownedDry_46 (by decide) ?_
        have hw : owF s (nI ow) t (k + 1) = (owF s (nI ow) t k) := (by rw [owF]; have hoe := own_eq hO hk how; first | exact congrArg (owF s (nI ow) t k + ·) (if_neg (fun z => h27 (hoe.mpr z.1))) | exact congrArg (owF s (nI ow) t k + ·) (if_neg (fun z => absurd z.2 (by simp only [sI_lt, sI_le] at *; omega))) | exact congrArg (owF s (nI ow) t k + ·) (if_pos ⟨hoe.mp h27, by simp only [sI_lt, sI_le] at *; omega⟩))
        have ih := c_ownedDry_lp (V := V) (d := d) hB hI hO ow how t j (k + 1) (by omega)
        rw [hw] at ih
        exact ih
      · -- 37 not
        refine Go.iinc (v := nI ((owF s (nI ow) t k) + 1)) (ls' := [some (vR B), some (vI (nI ow)), some (vI t), some (vI (levelF s t)), some (vI (nI ((owF s (nI ow) t k) + 1))), some (vI (nI k))]) dX1_ownedDry_40 rfl (nI_add _ _) (by decide) rfl ?_
        refine Go.iinc (v := nI (k + 1)) (ls' := [some (vR B), some (vI (nI ow)), some (vI t), some (vI (levelF s t)), some (vI (nI ((owF s (nI ow) t k) + 1))), some (vI (nI (k + 1)))]) dX1_ownedDry_43 rfl (nI_add _ _) (by decide) rfl ?_
        refine Go.goto (tgt := 12) dX1_ownedDry_46 (by decide) ?_
        have hw : owF s (nI ow) t (k + 1) = ((owF s (nI ow) t k) + 1) := (by rw [owF]; have hoe := own_eq hO hk how; first | exact congrArg (owF s (nI ow) t k + ·) (if_neg (fun z => h27 (hoe.mpr z.1))) | exact congrArg (owF s (nI ow) t k + ·) (if_neg (fun z => absurd z.2 (by simp only [sI_lt, sI_le] at *; omega))) | exact congrArg (owF s (nI ow) t k + ·) (if_pos ⟨hoe.mp h27, by simp only [sI_lt, sI_le] at *; omega⟩))
        have ih := c_ownedDry_lp (V := V) (d := d) hB hI hO ow how t j (k + 1) (by omega)
        rw [hw] at ih
        exact ih
theorem c_ownedDry {V : VV} {d : Nat} {μ : Memo} {s : Nat → Int32} {B : Nat} (hB : isB B) (hI : Isl B μ s) (hX : Txr μ s) (hT : TxtsOK s) (hO : OwnOK s) (ow : Nat) (how : ow < 8) (t : Int32) : RetI V (d + 3) mX1_ownedDry [vR B, vI (nI ow), vI t] μ (nI (owF s (nI ow) t 30)) (Fr [1, 6] μ) := by
  show Go V (d + 3) mX1_ownedDry 0 [some (vR B), some (vI (nI ow)), some (vI t), none, none, none] [] μ _
  refine Go.aload_n dX1_ownedDry_0 rfl ?_
  refine Go.iload_n dX1_ownedDry_1 rfl ?_
  refine Go.callVx B [vI t] [] dX1_ownedDry_2 lkX1_99 (rcB hB) rfl (Nat.le_of_ble_eq_true rfl) rfl (Nat.le_of_ble_eq_true rfl) (c_level hB hI hX hT t) (fun μ1 k1 => ?_)
  have hI1 : Isl B μ1 s := hI.fr hB k1
  have hX1 : Txr μ1 s := hX.fr hT.1 k1
  refine Go.istore_n (ls' := [some (vR B), some (vI (nI ow)), some (vI t), some (vI (levelF s t)), none, none]) dX1_ownedDry_5 (by decide) rfl ?_
  refine Go.iconst (v := nI 0) dX1_ownedDry_6 rfl ?_
  refine Go.istore (ls' := [some (vR B), some (vI (nI ow)), some (vI t), some (vI (levelF s t)), some (vI (nI 0)), none]) dX1_ownedDry_7 (by decide) rfl ?_
  refine Go.at 9 rfl ?_
  refine Go.iconst (v := nI 0) dX1_ownedDry_9 rfl ?_
  refine Go.istore (ls' := [some (vR B), some (vI (nI ow)), some (vI t), some (vI (levelF s t)), some (vI (nI 0)), some (vI (nI 0))]) dX1_ownedDry_10 (by decide) rfl ?_
  exact Go.mono (c_ownedDry_lp hB hI1 hO ow how t 30 0 (by omega)) (by rintro r m2 ⟨rfl, rfl⟩; exact ⟨rfl, k1⟩)
theorem c_ownedInDay_lp {V : VV} {d : Nat} {μ0 : Memo} {s : Nat → Int32} {B : Nat} (hB : isB B) (hI0 : Isl B μ0 s) (hX0 : Txr μ0 s) (hT : TxtsOK s) (hO : OwnOK s) (ow : Nat) (how : ow < 8) :
    ∀ (j k : Nat) (μ : Memo), k + j = 24 → Fr [1, 6] μ0 μ → Go V (d + 4) mX1_ownedInDay 4 [some (vR B), some (vI (nI ow)), some (vI (nI ((odF s (nI ow) k)))), some (vI (nI k))] [] μ (fun r' μ'' => r' = some (vI (nI (odF s (nI ow) 24))) ∧ Fr [1, 6] μ0 μ'')
  | 0, k, μ, hkj, hf => by
    obtain rfl : k = 24 := by omega
    refine Go.iload_n dX1_ownedInDay_4 rfl ?_
    refine Go.bipush (v := nI 24) dX1_ownedInDay_5 rfl ?_
    refine Go.icmp_ge_t (tgt := 25) dX1_ownedInDay_7 (by decide) (by decide) ?_
    refine Go.iload_n dX1_ownedInDay_25 rfl ?_
    refine Go.ireturn .int dX1_ownedInDay_26 rfl rfl ?_
    exact ⟨rfl, hf⟩
  | j + 1, k, μ, hkj, hf => by
    have hk : k < 24 := by omega
    have hI : Isl B μ s := hI0.fr hB hf
    have hX : Txr μ s := hX0.fr hT.1 hf
    refine Go.iload_n dX1_ownedInDay_4 rfl ?_
    refine Go.bipush (v := nI 24) dX1_ownedInDay_5 rfl ?_
    refine Go.icmp_ge_f (tgt := 25) dX1_ownedInDay_7 (by decide) (nI_ge hk (by decide)) ?_
    refine Go.iload_n dX1_ownedInDay_10 rfl ?_
    refine Go.aload_n dX1_ownedInDay_11 rfl ?_
    refine Go.iload_n dX1_ownedInDay_12 rfl ?_
    refine Go.at 13 rfl ?_
    refine Go.iload_n dX1_ownedInDay_13 rfl ?_
    refine Go.callVx B [vI (nI ow), vI (nI k)] [vI (nI ((odF s (nI ow) k)))] dX1_ownedInDay_14 lkX1_113 (rcB hB) rfl (Nat.le_of_ble_eq_true rfl) rfl (Nat.le_of_ble_eq_true rfl) (c_ownedDry hB hI hX hT hO ow how (nI k)) (fun μ1 k1 => ?_)
    have hI1 : Isl B μ1 s := hI.fr hB k1
    have hX1 : Txr μ1 s := hX.fr hT.1 k1
    refine Go.iaddN dX1_ownedInDay_17 ?_
    refine Go.istore_n (ls' := [some (vR B), some (vI (nI ow)), some (vI (nI ((odF s (nI ow) k) + (owF s (nI ow) (nI k) 30)))), some (vI (nI k))]) dX1_ownedInDay_18 (by decide) rfl ?_
    refine Go.iinc (v := nI (k + 1)) (ls' := [some (vR B), some (vI (nI ow)), some (vI (nI ((odF s (nI ow) k) + (owF s (nI ow) (nI k) 30)))), some (vI (nI (k + 1)))]) dX1_ownedInDay_19 rfl (nI_add _ _) (by decide) rfl ?_
    refine Go.goto (tgt := 4) dX1_ownedInDay_22 (by decide) ?_
    refine Go.at 4 rfl ?_
    exact c_ownedInDay_lp hB hI0 hX0 hT hO ow how j (k + 1) μ1 (by omega) (hf.trans k1)
theorem c_ownedInDay {V : VV} {d : Nat} {μ : Memo} {s : Nat → Int32} {B : Nat} (hB : isB B) (hI : Isl B μ s) (hX : Txr μ s) (hT : TxtsOK s) (hO : OwnOK s) (ow : Nat) (how : ow < 8) : RetI V (d + 4) mX1_ownedInDay [vR B, vI (nI ow)] μ (nI (odF s (nI ow) 24)) (Fr [1, 6] μ) := by
  show Go V (d + 4) mX1_ownedInDay 0 [some (vR B), some (vI (nI ow)), none, none] [] μ _
  refine Go.iconst (v := nI 0) dX1_ownedInDay_0 rfl ?_
  refine Go.istore_n (ls' := [some (vR B), some (vI (nI ow)), some (vI (nI 0)), none]) dX1_ownedInDay_1 (by decide) rfl ?_
  refine Go.iconst (v := nI 0) dX1_ownedInDay_2 rfl ?_
  refine Go.istore_n (ls' := [some (vR B), some (vI (nI ow)), some (vI (nI 0)), some (vI (nI 0))]) dX1_ownedInDay_3 (by decide) rfl ?_
  exact c_ownedInDay_lp hB hI hX hT hO ow how 24 0 μ (by omega) (Fr.rf _ _)
/-- the component's two numbers behind k owners -/
def rcC (s : Nat → Int32) : Nat → Int32 × Int32
  | 0 => (nI 0, (-1))
  | k + 1 => if (rcC s k).2 < nI (odF s (nI k) 24) then (nI k, nI (odF s (nI k) 24)) else rcC s k
theorem rcC_eq (s : Nat → Int32) : ∀ k, rcC s (k + 1) = (nI (rcF s k), nI (odF s (nI (rcF s k)) 24))
  | 0 => by
    have h : (rcC s 0).2 < nI (odF s (nI 0) 24) := by
      have := odF_le s (nI 0) 24
      show (-1 : Int32) < _
      rw [sI_lt, tI_n1, nT]; omega
    rw [rcC, if_pos h]; rfl
  | k + 1 => by
    have ih := rcC_eq s k
    have h1 := odF_le s (nI (rcF s k)) 24
    have h2 := odF_le s (nI (k + 1)) 24
    rw [rcC, ih]
    show (if nI (odF s (nI (rcF s k)) 24) < nI (odF s (nI (k + 1)) 24) then _ else _) = _
    rw [rcF]
    by_cases h : odF s (nI (rcF s k)) 24 < odF s (nI (k + 1)) 24
    · rw [if_pos h, if_pos (nI_lt h (by omega))]
    · rw [if_neg h, if_neg (nI_nlt (by omega) (by omega))]
theorem c_richest_lp {V : VV} {d : Nat} {μ0 : Memo} {s : Nat → Int32} {B : Nat} (hB : isB B) (hI0 : Isl B μ0 s) (hX0 : Txr μ0 s) (hT : TxtsOK s) (hO : OwnOK s) :
    ∀ (j k : Nat) (μ : Memo), k + j = 8 → Fr [1, 6] μ0 μ → Go V (d + 5) mX1_richestOwner 6 [some (vR B), some (vI ((rcC s k).1)), some (vI ((rcC s k).2)), some (vI (nI k)), none] [] μ (fun r' μ'' => r' = some (vI (rcC s 8).1) ∧ Fr [1, 6] μ0 μ'')
  | 0, k, μ, hkj, hf => by
    obtain rfl : k = 8 := by omega
    refine Go.iload_n dX1_richestOwner_6 rfl ?_
    refine Go.bipush (v := nI 8) dX1_richestOwner_7 rfl ?_
    refine Go.icmp_ge_t (tgt := 36) dX1_richestOwner_9 (by decide) (by decide) ?_
    refine Go.iload_n dX1_richestOwner_36 rfl ?_
    refine Go.ireturn .int dX1_richestOwner_37 rfl rfl ?_
    exact ⟨rfl, hf⟩
  | j + 1, k, μ, hkj, hf => by
    have hk : k < 8 := by omega
    have hI : Isl B μ s := hI0.fr hB hf
    have hX : Txr μ s := hX0.fr hT.1 hf
    refine Go.iload_n dX1_richestOwner_6 rfl ?_
    refine Go.bipush (v := nI 8) dX1_richestOwner_7 rfl ?_
    refine Go.icmp_ge_f (tgt := 36) dX1_richestOwner_9 (by decide) (nI_ge hk (by decide)) ?_
    refine Go.aload_n dX1_richestOwner_12 rfl ?_
    refine Go.iload_n dX1_richestOwner_13 rfl ?_
    refine Go.callVx B [vI (nI k)] [] dX1_richestOwner_14 lkX1_116 (rcB hB) rfl (Nat.le_of_ble_eq_true rfl) rfl (Nat.le_of_ble_eq_true rfl) (c_ownedInDay hB hI hX hT hO k hk) (fun μ1 k1 => ?_)
    have hI1 : Isl B μ1 s := hI.fr hB k1
    have hX1 : Txr μ1 s := hX.fr hT.1 k1
    refine Go.at 17 rfl ?_
    refine Go.istore (ls' := [some (vR B), some (vI ((rcC s k).1)), some (vI ((rcC s k).2)), some (vI (nI k)), some (vI (nI (odF s (nI k) 24)))]) dX1_richestOwner_17 (by decide) rfl ?_
    refine Go.iload dX1_richestOwner_19 rfl ?_
    refine Go.iload_n dX1_richestOwner_21 rfl ?_
    refine Go.icmp_le (tgt := 30) dX1_richestOwner_22 (by decide) (fun h22 => ?_) (fun h22 => ?_)
    · -- 22 taken
      refine Go.iinc (v := nI (k + 1)) (ls' := [some (vR B), some (vI ((rcC s k).1)), some (vI ((rcC s k).2)), some (vI (nI (k + 1))), some (vI (nI (odF s (nI k) 24)))]) dX1_richestOwner_30 rfl (nI_add _ _) (by decide) rfl ?_
      refine Go.goto (tgt := 6) dX1_richestOwner_33 (by decide) ?_
      refine Go.mask [true, true, true, true, false] rfl ?_
      have hw : rcC s (k + 1) = rcC s k := (by rw [rcC]; simp only [sI_lt, sI_le] at *; first | rw [if_pos (by omega)] | rw [if_neg (by omega)])
      have ih := c_richest_lp (V := V) (d := d) hB hI0 hX0 hT hO j (k + 1) μ1 (by omega) (hf.trans k1)
      rw [hw] at ih
      exact ih
    · -- 22 not
      refine Go.iload dX1_richestOwner_25 rfl ?_
      refine Go.istore_n (ls' := [some (vR B), some (vI ((rcC s k).1)), some (vI (nI (odF s (nI k) 24))), some (vI (nI k)), some (vI (nI (odF s (nI k) 24)))]) dX1_richestOwner_27 (by decide) rfl ?_
      refine Go.iload_n dX1_richestOwner_28 rfl ?_
      refine Go.istore_n (ls' := [some (vR B), some (vI (nI k)), some (vI (nI (odF s (nI k) 24))), some (vI (nI k)), some (vI (nI (odF s (nI k) 24)))]) dX1_richestOwner_29 (by decide) rfl ?_
      refine Go.iinc (v := nI (k + 1)) (ls' := [some (vR B), some (vI (nI k)), some (vI (nI (odF s (nI k) 24))), some (vI (nI (k + 1))), some (vI (nI (odF s (nI k) 24)))]) dX1_richestOwner_30 rfl (nI_add _ _) (by decide) rfl ?_
      refine Go.goto (tgt := 6) dX1_richestOwner_33 (by decide) ?_
      refine Go.at 6 rfl ?_
      refine Go.mask [true, true, true, true, false] rfl ?_
      have hw : rcC s (k + 1) = (nI k, nI (odF s (nI k) 24)) := (by rw [rcC]; simp only [sI_lt, sI_le] at *; first | rw [if_pos (by omega)] | rw [if_neg (by omega)])
      have ih := c_richest_lp (V := V) (d := d) hB hI0 hX0 hT hO j (k + 1) μ1 (by omega) (hf.trans k1)
      rw [hw] at ih
      exact ih
theorem c_richest {V : VV} {d : Nat} {μ : Memo} {s : Nat → Int32} {B : Nat} (hB : isB B) (hI : Isl B μ s) (hX : Txr μ s) (hT : TxtsOK s) (hO : OwnOK s) : RetI V (d + 5) mX1_richestOwner [vR B] μ (nI (rcF s 7)) (Fr [1, 6] μ) := by
  show Go V (d + 5) mX1_richestOwner 0 [some (vR B), none, none, none, none] [] μ _
  refine Go.iconst (v := nI 0) dX1_richestOwner_0 rfl ?_
  refine Go.istore_n (ls' := [some (vR B), some (vI (nI 0)), none, none, none]) dX1_richestOwner_1 (by decide) rfl ?_
  refine Go.iconst (v := (-1)) dX1_richestOwner_2 rfl ?_
  refine Go.istore_n (ls' := [some (vR B), some (vI (nI 0)), some (vI (-1)), none, none]) dX1_richestOwner_3 (by decide) rfl ?_
  refine Go.iconst (v := nI 0) dX1_richestOwner_4 rfl ?_
  refine Go.istore_n (ls' := [some (vR B), some (vI (nI 0)), some (vI (-1)), some (vI (nI 0)), none]) dX1_richestOwner_5 (by decide) rfl ?_
  refine Go.at 6 rfl ?_
  exact Go.mono (c_richest_lp hB hI hX hT hO 8 0 μ (by omega) (Fr.rf _ _)) (fun r m2 q => ⟨q.1.trans (by rw [rcC_eq s 7]), q.2⟩)
theorem m_ownsAt_lp {V : VV} {d : Nat} {μ : Memo} {s : Nat → Int32} (hs : μ 77 = s) (ow t : Int32) :
    ∀ (j k : Nat) , k + j = 30 → Go V (d + 2) mX9_ownsAt 12 [some (vR 76), some (vI ow), some (vI t), some (vI (dryF s t)), some (vI (nI ((owF s ow t k)))), some (vI (nI k))] [] μ (fun r' μ'' => r' = some (vI (nI (owF s ow t 30))) ∧ μ'' = μ)
  | 0, k, hkj => by
    obtain rfl : k = 30 := by omega
    refine Go.iload dX9_ownsAt_12 rfl ?_
    refine Go.bipush (v := nI 30) dX9_ownsAt_14 rfl ?_
    refine Go.icmp_ge_t (tgt := 51) dX9_ownsAt_16 (by decide) (by decide) ?_
    refine Go.iload dX9_ownsAt_51 rfl ?_
    refine Go.ireturn .int dX9_ownsAt_53 rfl rfl ?_
    exact ⟨rfl, rfl⟩
  | j + 1, k, hkj => by
    have hk : k < 30 := by omega
    refine Go.iload dX9_ownsAt_12 rfl ?_
    refine Go.bipush (v := nI 30) dX9_ownsAt_14 rfl ?_
    refine Go.icmp_ge_f (tgt := 51) dX9_ownsAt_16 (by decide) (nI_ge hk (by decide)) ?_
    refine Go.iload dX9_ownsAt_19 rfl ?_
    refine Go.aload_n dX9_ownsAt_21 rfl ?_
    refine Go.iload dX9_ownsAt_22 rfl ?_
    refine Go.at 24 rfl ?_
    refine Go.iconst (v := nI 3) dX9_ownsAt_24 rfl ?_
    refine Go.callVi 76 [vI (nI k), vI (nI 3)] [vI (nI ((owF s ow t k)))] dX9_ownsAt_25 lkX9_70 (Or.inl ⟨_, _, _, rfl, rfl, rfl⟩) rfl (Nat.le_of_ble_eq_true rfl) rfl (Nat.le_of_ble_eq_true rfl) (m_of hs k 3 hk (by decide)) ?_
    refine Go.iload_n dX9_ownsAt_28 rfl ?_
    refine Go.icmp_ne (tgt := 41) dX9_ownsAt_29 (by decide) (fun h29 => ?_) (fun h29 => ?_)
    · -- 29 taken
      refine Go.iconst (v := nI 0) dX9_ownsAt_41 rfl ?_
      refine Go.iaddN dX9_ownsAt_42 ?_
      refine Go.istore (ls' := [some (vR 76), some (vI ow), some (vI t), some (vI (dryF s t)), some (vI (nI ((owF s ow t k) + 0))), some (vI (nI k))]) dX9_ownsAt_43 (by decide) rfl ?_
      refine Go.iinc (v := nI (k + 1)) (ls' := [some (vR 76), some (vI ow), some (vI t), some (vI (dryF s t)), some (vI (nI ((owF s ow t k) + 0))), some (vI (nI (k + 1)))]) dX9_ownsAt_45 rfl (nI_add _ _) (by decide) rfl ?_
      refine Go.goto (tgt := 12) dX9_ownsAt_48 (by decide) ?_
      have hw : owF s ow t (k + 1) = ((owF s ow t k) + 0) := (by rw [owF]; first | (by_cases hz : levelF s t < tpF s k <;> simp [h29, hz]) | (rw [if_neg (fun z => h29 z.1)]))
      have ih := m_ownsAt_lp (V := V) (d := d) hs ow t j (k + 1) (by omega)
      rw [hw] at ih
      exact ih
    · -- 29 not
      refine Go.iload_n dX9_ownsAt_32 rfl ?_
      refine Go.iload dX9_ownsAt_33 rfl ?_
      refine Go.ishr dX9_ownsAt_35 ?_
      refine Go.iconst (v := nI 1) dX9_ownsAt_36 rfl ?_
      refine Go.iand dX9_ownsAt_37 ?_
      refine Go.topE (y := nI (if levelF s t < tpF s k then 1 else 0)) (by rw [bitM (by omega), dry_bt s t hk]; simp only [decide_eq_true_eq]; split <;> rfl) ?_
      refine Go.goto (tgt := 42) dX9_ownsAt_38 (by decide) ?_
      refine Go.at 42 rfl ?_
      refine Go.iaddN dX9_ownsAt_42 ?_
      refine Go.istore (ls' := [some (vR 76), some (vI ow), some (vI t), some (vI (dryF s t)), some (vI (nI ((owF s ow t k) + (if levelF s t < tpF s k then 1 else 0)))), some (vI (nI k))]) dX9_ownsAt_43 (by decide) rfl ?_
      refine Go.iinc (v := nI (k + 1)) (ls' := [some (vR 76), some (vI ow), some (vI t), some (vI (dryF s t)), some (vI (nI ((owF s ow t k) + (if levelF s t < tpF s k then 1 else 0)))), some (vI (nI (k + 1)))]) dX9_ownsAt_45 rfl (nI_add _ _) (by decide) rfl ?_
      refine Go.goto (tgt := 12) dX9_ownsAt_48 (by decide) ?_
      have hw : owF s ow t (k + 1) = ((owF s ow t k) + (if levelF s t < tpF s k then 1 else 0)) := (by rw [owF]; first | (by_cases hz : levelF s t < tpF s k <;> simp [h29, hz]) | (rw [if_neg (fun z => h29 z.1)]))
      have ih := m_ownsAt_lp (V := V) (d := d) hs ow t j (k + 1) (by omega)
      rw [hw] at ih
      exact ih
theorem m_ownsAt {V : VV} {d : Nat} {μ : Memo} {s : Nat → Int32} (hs : μ 77 = s) (hT : TxtsOK s) (ow t : Int32) : RetI V (d + 4) mX9_ownsAt [vR 76, vI ow, vI t] μ (nI (owF s ow t 30)) (Fr [90, 91] μ) := by
  show Go V (d + 4) mX9_ownsAt 0 [some (vR 76), some (vI ow), some (vI t), none, none, none] [] μ _
  refine Go.aload_n dX9_ownsAt_0 rfl ?_
  refine Go.iload_n dX9_ownsAt_1 rfl ?_
  refine Go.callVx 76 [vI t] [] dX9_ownsAt_2 lkX9_131 (Or.inl ⟨_, _, _, rfl, rfl, rfl⟩) rfl (Nat.le_of_ble_eq_true rfl) rfl (Nat.le_of_ble_eq_true rfl) (m_dry hs hT t) (fun μ1 k1 => ?_)
  have hs1 : μ1 77 = s := (k1 77 (by decide)).trans hs
  refine Go.istore_n (ls' := [some (vR 76), some (vI ow), some (vI t), some (vI (dryF s t)), none, none]) dX9_ownsAt_5 (by decide) rfl ?_
  refine Go.iconst (v := nI 0) dX9_ownsAt_6 rfl ?_
  refine Go.istore (ls' := [some (vR 76), some (vI ow), some (vI t), some (vI (dryF s t)), some (vI (nI 0)), none]) dX9_ownsAt_7 (by decide) rfl ?_
  refine Go.at 9 rfl ?_
  refine Go.iconst (v := nI 0) dX9_ownsAt_9 rfl ?_
  refine Go.istore (ls' := [some (vR 76), some (vI ow), some (vI t), some (vI (dryF s t)), some (vI (nI 0)), some (vI (nI 0))]) dX9_ownsAt_10 (by decide) rfl ?_
  exact Go.mono (m_ownsAt_lp hs1 ow t 30 0 (by omega)) (by rintro r m2 ⟨rfl, rfl⟩; exact ⟨rfl, k1⟩)
theorem c_cut_lp {V : VV} {d : Nat} {μ : Memo} {s : Nat → Int32} {B : Nat} (hB : isB B) (hI : Isl B μ s) (hH : HouOK s) (t dr off : Int32) :
    ∀ (j k : Nat), k + j = nH s → Go V (d + 1) mX1_cutHouses 27 [some (vR B), some (vI t), some (vI dr), some (vI off), some (vI (cuF s off k)), some (vI (nI k))] [] μ (fun r' μ'' => r' = some (vI (cuF s off (nH s))) ∧ μ'' = μ)
  | 0, k, hkj => by
    obtain hkn : k = nH s := by omega
    rw [hkn]
    have h8 := hH.1
    refine Go.iload dX1_cutHouses_27 rfl ?_
    refine Go.aload_n dX1_cutHouses_29 rfl ?_
    refine Go.getI dX1_cutHouses_30 flX1_54 (fBi hB 7 (by decide) (by decide)) ?_
    refine Go.topE (y := nI (nH s)) (hI.2.2.2.1.trans hH.2.1) ?_
    refine Go.icmp_ge_t (tgt := 77) dX1_cutHouses_33 (by decide) (nI_le (Nat.le_refl _) (by omega)) ?_
    refine Go.iload dX1_cutHouses_77 rfl ?_
    refine Go.ireturn .int dX1_cutHouses_79 rfl rfl ?_
    exact ⟨rfl, rfl⟩
  | j + 1, k, hkj => by
    have hk : k < nH s := by omega
    have h8 := hH.1
    rcases hH.2.2 k hk with e | ⟨c, hc, e⟩
    · have e2 : μ (B + 7) k = (-1000000005) := by rw [(hI.2.2.1 k hk).2, e, oN_n1]
      have hw : cuF s off (k + 1) = cuF s off k := by rw [cuF, if_neg (fun z => z.1 (by rw [e]; decide))]
      refine Go.iload dX1_cutHouses_27 rfl ?_
      refine Go.aload_n dX1_cutHouses_29 rfl ?_
      refine Go.getI dX1_cutHouses_30 flX1_54 (fBi hB 7 (by decide) (by decide)) ?_
      refine Go.topE (y := nI (nH s)) (hI.2.2.2.1.trans hH.2.1) ?_
      refine Go.icmp_ge_f (tgt := 77) dX1_cutHouses_33 (by decide) (nI_ge hk (by omega)) ?_
      refine Go.aload_n dX1_cutHouses_36 rfl ?_
      refine Go.getR dX1_cutHouses_37 flX1_30 (fBr hB 6 (by decide)) ?_
      refine Go.at 40 rfl ?_
      refine Go.iload dX1_cutHouses_40 rfl ?_
      refine Go.iaload k dX1_cutHouses_42 (alB7 hB) (by omega) rfl ?_
      refine Go.topE (y := (-1000000005)) e2 ?_
      refine Go.ldc dX1_cutHouses_43 cnX1_41 ?_
      refine Go.icmp_eq_t (tgt := 71) dX1_cutHouses_45 (by decide) (by decide) ?_
      refine Go.iinc (v := nI (k + 1)) (ls' := [some (vR B), some (vI t), some (vI dr), some (vI off), some (vI (cuF s off k)), some (vI (nI (k + 1)))]) dX1_cutHouses_71 rfl (nI_add _ _) (by decide) rfl ?_
      refine Go.goto (tgt := 27) dX1_cutHouses_74 (by decide) ?_
      refine Go.at 27 rfl ?_
      have ih := c_cut_lp (V := V) (d := d) hB hI hH t dr off j (k + 1) (by omega)
      rw [hw] at ih
      exact ih
    · have e2 : μ (B + 7) k = nI c := by rw [(hI.2.2.1 k hk).2, e, oN_n (by omega)]
      have e3 : (s (131 + 2 * k + 1)).toNatClampNeg = c := by rw [e]; exact nI_clamp (by omega)
      have e4 : ¬ s (131 + 2 * k + 1) < 0 := by rw [e]; exact nI_pos (by omega)
      by_cases hb : bt off c = true
      · have hw : cuF s off (k + 1) = cuF s off k ||| (nI 1 <<< (nI k &&& 31)) := by rw [cuF, if_pos ⟨e4, by rw [e3]; exact hb⟩]
        refine Go.iload dX1_cutHouses_27 rfl ?_
        refine Go.aload_n dX1_cutHouses_29 rfl ?_
        refine Go.getI dX1_cutHouses_30 flX1_54 (fBi hB 7 (by decide) (by decide)) ?_
        refine Go.topE (y := nI (nH s)) (hI.2.2.2.1.trans hH.2.1) ?_
        refine Go.icmp_ge_f (tgt := 77) dX1_cutHouses_33 (by decide) (nI_ge hk (by omega)) ?_
        refine Go.aload_n dX1_cutHouses_36 rfl ?_
        refine Go.getR dX1_cutHouses_37 flX1_30 (fBr hB 6 (by decide)) ?_
        refine Go.at 40 rfl ?_
        refine Go.iload dX1_cutHouses_40 rfl ?_
        refine Go.iaload k dX1_cutHouses_42 (alB7 hB) (by omega) rfl ?_
        refine Go.topE (y := nI c) e2 ?_
        refine Go.ldc dX1_cutHouses_43 cnX1_41 ?_
        refine Go.icmp_eq_f (tgt := 71) dX1_cutHouses_45 (by decide) (nI_NONE (by omega)) ?_
        refine Go.iload_n dX1_cutHouses_48 rfl ?_
        refine Go.aload_n dX1_cutHouses_49 rfl ?_
        refine Go.at 50 rfl ?_
        refine Go.getR dX1_cutHouses_50 flX1_30 (fBr hB 6 (by decide)) ?_
        refine Go.iload dX1_cutHouses_53 rfl ?_
        refine Go.iaload k dX1_cutHouses_55 (alB7 hB) (by omega) rfl ?_
        refine Go.topE (y := nI c) e2 ?_
        refine Go.callSi [vI off, vI (nI c)] [] dX1_cutHouses_56 lkX1_127 rfl (Nat.le_of_ble_eq_true rfl) rfl (Nat.le_of_ble_eq_true rfl) (c_has off (nI c)) ?_
        refine Go.if_eqb_f (tgt := 71) dX1_cutHouses_59 (by decide) ((bitU1 (by omega) off).mpr hb) ?_
        refine Go.iload dX1_cutHouses_62 rfl ?_
        refine Go.at 64 rfl ?_
        refine Go.iconst (v := nI 1) dX1_cutHouses_64 rfl ?_
        refine Go.iload dX1_cutHouses_65 rfl ?_
        refine Go.ishl dX1_cutHouses_67 ?_
        refine Go.ior dX1_cutHouses_68 ?_
        refine Go.istore (ls' := [some (vR B), some (vI t), some (vI dr), some (vI off), some (vI ((cuF s off k) ||| ((nI 1) <<< ((nI k) &&& 31)))), some (vI (nI k))]) dX1_cutHouses_69 (by decide) rfl ?_
        refine Go.iinc (v := nI (k + 1)) (ls' := [some (vR B), some (vI t), some (vI dr), some (vI off), some (vI ((cuF s off k) ||| ((nI 1) <<< ((nI k) &&& 31)))), some (vI (nI (k + 1)))]) dX1_cutHouses_71 rfl (nI_add _ _) (by decide) rfl ?_
        refine Go.at 74 rfl ?_
        refine Go.goto (tgt := 27) dX1_cutHouses_74 (by decide) ?_
        have ih := c_cut_lp (V := V) (d := d) hB hI hH t dr off j (k + 1) (by omega)
        rw [hw] at ih
        exact ih
      · have hw : cuF s off (k + 1) = cuF s off k := by rw [cuF, if_neg (fun z => hb (by rw [← e3]; exact z.2))]
        refine Go.iload dX1_cutHouses_27 rfl ?_
        refine Go.aload_n dX1_cutHouses_29 rfl ?_
        refine Go.getI dX1_cutHouses_30 flX1_54 (fBi hB 7 (by decide) (by decide)) ?_
        refine Go.topE (y := nI (nH s)) (hI.2.2.2.1.trans hH.2.1) ?_
        refine Go.icmp_ge_f (tgt := 77) dX1_cutHouses_33 (by decide) (nI_ge hk (by omega)) ?_
        refine Go.aload_n dX1_cutHouses_36 rfl ?_
        refine Go.getR dX1_cutHouses_37 flX1_30 (fBr hB 6 (by decide)) ?_
        refine Go.at 40 rfl ?_
        refine Go.iload dX1_cutHouses_40 rfl ?_
        refine Go.iaload k dX1_cutHouses_42 (alB7 hB) (by omega) rfl ?_
        refine Go.topE (y := nI c) e2 ?_
        refine Go.ldc dX1_cutHouses_43 cnX1_41 ?_
        refine Go.icmp_eq_f (tgt := 71) dX1_cutHouses_45 (by decide) (nI_NONE (by omega)) ?_
        refine Go.iload_n dX1_cutHouses_48 rfl ?_
        refine Go.aload_n dX1_cutHouses_49 rfl ?_
        refine Go.at 50 rfl ?_
        refine Go.getR dX1_cutHouses_50 flX1_30 (fBr hB 6 (by decide)) ?_
        refine Go.iload dX1_cutHouses_53 rfl ?_
        refine Go.iaload k dX1_cutHouses_55 (alB7 hB) (by omega) rfl ?_
        refine Go.topE (y := nI c) e2 ?_
        refine Go.callSi [vI off, vI (nI c)] [] dX1_cutHouses_56 lkX1_127 rfl (Nat.le_of_ble_eq_true rfl) rfl (Nat.le_of_ble_eq_true rfl) (c_has off (nI c)) ?_
        refine Go.if_eqb_t (tgt := 71) dX1_cutHouses_59 (by decide) (fun z => hb ((bitU1 (by omega) off).mp z)) ?_
        refine Go.iinc (v := nI (k + 1)) (ls' := [some (vR B), some (vI t), some (vI dr), some (vI off), some (vI (cuF s off k)), some (vI (nI (k + 1)))]) dX1_cutHouses_71 rfl (nI_add _ _) (by decide) rfl ?_
        refine Go.at 74 rfl ?_
        refine Go.goto (tgt := 27) dX1_cutHouses_74 (by decide) ?_
        have ih := c_cut_lp (V := V) (d := d) hB hI hH t dr off j (k + 1) (by omega)
        rw [hw] at ih
        exact ih
theorem c_cut {V : VV} {d : Nat} {μ : Memo} {s : Nat → Int32} {B : Nat} (hB : isB B) (hI : Isl B μ s) (hX : Txr μ s) (hT : TxtsOK s) (hH : HouOK s) (t : Int32) : RetI V (d + 4) mX1_cutHouses [vR B, vI t] μ (cuF s (offF s t) (nH s)) (Fr [1, 6] μ) := by
  show Go V (d + 4) mX1_cutHouses 0 [some (vR B), some (vI t), none, none, none, none] [] μ _
  refine Go.aload_n dX1_cutHouses_0 rfl ?_
  refine Go.iload_n dX1_cutHouses_1 rfl ?_
  refine Go.callVx B [vI t] [] dX1_cutHouses_2 lkX1_102 (rcB hB) rfl (Nat.le_of_ble_eq_true rfl) rfl (Nat.le_of_ble_eq_true rfl) (c_dry hB hI hX hT t) (fun μ1 k1 => ?_)
  have hI1 : Isl B μ1 s := hI.fr hB k1
  have hX1 : Txr μ1 s := hX.fr hT.1 k1
  refine Go.istore_n (ls' := [some (vR B), some (vI t), some (vI (dryF s t)), none, none, none]) dX1_cutHouses_5 (by decide) rfl ?_
  refine Go.iload_n dX1_cutHouses_6 rfl ?_
  refine Go.iconst (v := nI 1) dX1_cutHouses_7 rfl ?_
  refine Go.at 8 rfl ?_
  refine Go.aload_n dX1_cutHouses_8 rfl ?_
  refine Go.callVi B [] [vI (nI 1), vI (dryF s t)] dX1_cutHouses_9 lkX1_119 (rcB hB) rfl (Nat.le_of_ble_eq_true rfl) rfl (Nat.le_of_ble_eq_true rfl) (c_peak hB hI1) ?_
  refine Go.ishl dX1_cutHouses_12 ?_
  refine Go.iload_n dX1_cutHouses_13 rfl ?_
  refine Go.callSi [vI ((nI 1) <<< ((nI (pkF s 29)) &&& 31)), vI (dryF s t)] [vI (dryF s t)] dX1_cutHouses_14 lkX1_122 rfl (Nat.le_of_ble_eq_true rfl) rfl (Nat.le_of_ble_eq_true rfl) (c_partAround ((nI 1) <<< ((nI (pkF s 29)) &&& 31)) (dryF s t)) ?_
  refine Go.iconst (v := (-1)) dX1_cutHouses_17 rfl ?_
  refine Go.at 18 rfl ?_
  refine Go.ixor dX1_cutHouses_18 ?_
  refine Go.iand dX1_cutHouses_19 ?_
  refine Go.topE (y := offF s t) off_c ?_
  refine Go.istore_n (ls' := [some (vR B), some (vI t), some (vI (dryF s t)), some (vI (offF s t)), none, none]) dX1_cutHouses_20 (by decide) rfl ?_
  refine Go.iconst (v := nI 0) dX1_cutHouses_21 rfl ?_
  refine Go.istore (ls' := [some (vR B), some (vI t), some (vI (dryF s t)), some (vI (offF s t)), some (vI (nI 0)), none]) dX1_cutHouses_22 (by decide) rfl ?_
  refine Go.iconst (v := nI 0) dX1_cutHouses_24 rfl ?_
  refine Go.at 25 rfl ?_
  refine Go.istore (ls' := [some (vR B), some (vI t), some (vI (dryF s t)), some (vI (offF s t)), some (vI (nI 0)), some (vI (nI 0))]) dX1_cutHouses_25 (by decide) rfl ?_
  exact Go.mono (c_cut_lp hB hI1 hH t _ _ (nH s) 0 (by omega)) (by rintro r m2 ⟨rfl, rfl⟩; exact ⟨rfl, k1⟩)
theorem m_cut_lp {V : VV} {d : Nat} {μ : Memo} {s : Nat → Int32} (hs : μ 77 = s) (hH : HouOK s) (t dr pk off : Int32) :
    ∀ (j k : Nat), k + j = nH s → Go V (d + 1) mX9_cut 51 [some (vR 76), some (vI t), some (vI dr), some (vI pk), some (vI off), some (vI (cuF s off k)), some (vI (nI k))] [] μ (fun r' μ'' => r' = some (vI (cuF s off (nH s))) ∧ μ'' = μ)
  | 0, k, hkj => by
    obtain hkn : k = nH s := by omega
    rw [hkn]
    have h8 := hH.1
    refine Go.iload dX9_cut_51 rfl ?_
    refine Go.aload_n dX9_cut_53 rfl ?_
    refine Go.getR dX9_cut_54 flX9_7 rfl ?_
    refine Go.iconst (v := nI 0) dX9_cut_57 rfl ?_
    refine Go.iaload 0 dX9_cut_58 rfl (by omega) rfl ?_
    refine Go.topE (y := nI (nH s)) ((congrFun hs _).trans hH.2.1) ?_
    refine Go.icmp_ge_t (tgt := 105) dX9_cut_59 (by decide) (nI_le (Nat.le_refl _) (by omega)) ?_
    refine Go.at 105 rfl ?_
    refine Go.iload dX9_cut_105 rfl ?_
    refine Go.ireturn .int dX9_cut_107 rfl rfl ?_
    exact ⟨rfl, rfl⟩
  | j + 1, k, hkj => by
    have hk : k < nH s := by omega
    have h8 := hH.1
    rcases hH.2.2 k hk with e | ⟨c, hc, e⟩
    · have hw : cuF s off (k + 1) = cuF s off k := by rw [cuF, if_neg (fun z => z.1 (by rw [e]; decide))]
      refine Go.iload dX9_cut_51 rfl ?_
      refine Go.aload_n dX9_cut_53 rfl ?_
      refine Go.getR dX9_cut_54 flX9_7 rfl ?_
      refine Go.iconst (v := nI 0) dX9_cut_57 rfl ?_
      refine Go.iaload 0 dX9_cut_58 rfl (by omega) rfl ?_
      refine Go.topE (y := nI (nH s)) ((congrFun hs _).trans hH.2.1) ?_
      refine Go.icmp_ge_f (tgt := 105) dX9_cut_59 (by decide) (nI_ge hk (by omega)) ?_
      refine Go.at 62 rfl ?_
      refine Go.iload dX9_cut_62 rfl ?_
      refine Go.aload_n dX9_cut_64 rfl ?_
      refine Go.iload dX9_cut_65 rfl ?_
      refine Go.callVi 76 [vI (nI k)] [vI (cuF s off k)] dX9_cut_67 lkX9_171 (Or.inl ⟨_, _, _, rfl, rfl, rfl⟩) rfl (Nat.le_of_ble_eq_true rfl) rfl (Nat.le_of_ble_eq_true rfl) (m_where hs k (by omega)) ?_
      refine Go.topE (y := (-1)) e ?_
      refine Go.if_lt_t (tgt := 95) dX9_cut_70 (by decide) (by decide) ?_
      refine Go.iconst (v := nI 0) dX9_cut_95 rfl ?_
      refine Go.at 96 rfl ?_
      refine Go.ior dX9_cut_96 ?_
      refine Go.topE (y := cuF s off k) (or0 _) ?_
      refine Go.istore (ls' := [some (vR 76), some (vI t), some (vI dr), some (vI pk), some (vI off), some (vI (cuF s off k)), some (vI (nI k))]) dX9_cut_97 (by decide) rfl ?_
      refine Go.iinc (v := nI (k + 1)) (ls' := [some (vR 76), some (vI t), some (vI dr), some (vI pk), some (vI off), some (vI (cuF s off k)), some (vI (nI (k + 1)))]) dX9_cut_99 rfl (nI_add _ _) (by decide) rfl ?_
      refine Go.goto (tgt := 51) dX9_cut_102 (by decide) ?_
      have ih := m_cut_lp (V := V) (d := d) hs hH t dr pk off j (k + 1) (by omega)
      rw [hw] at ih
      exact ih
    · have e3 : (s (131 + 2 * k + 1)).toNatClampNeg = c := by rw [e]; exact nI_clamp (by omega)
      have e4 : ¬ s (131 + 2 * k + 1) < 0 := by rw [e]; exact nI_pos (by omega)
      by_cases hb : bt off c = true
      · have hw : cuF s off (k + 1) = cuF s off k ||| (nI 1 <<< (nI k &&& 31)) := by rw [cuF, if_pos ⟨e4, by rw [e3]; exact hb⟩]
        refine Go.iload dX9_cut_51 rfl ?_
        refine Go.aload_n dX9_cut_53 rfl ?_
        refine Go.getR dX9_cut_54 flX9_7 rfl ?_
        refine Go.iconst (v := nI 0) dX9_cut_57 rfl ?_
        refine Go.iaload 0 dX9_cut_58 rfl (by omega) rfl ?_
        refine Go.topE (y := nI (nH s)) ((congrFun hs _).trans hH.2.1) ?_
        refine Go.icmp_ge_f (tgt := 105) dX9_cut_59 (by decide) (nI_ge hk (by omega)) ?_
        refine Go.at 62 rfl ?_
        refine Go.iload dX9_cut_62 rfl ?_
        refine Go.aload_n dX9_cut_64 rfl ?_
        refine Go.iload dX9_cut_65 rfl ?_
        refine Go.callVi 76 [vI (nI k)] [vI (cuF s off k)] dX9_cut_67 lkX9_171 (Or.inl ⟨_, _, _, rfl, rfl, rfl⟩) rfl (Nat.le_of_ble_eq_true rfl) rfl (Nat.le_of_ble_eq_true rfl) (m_where hs k (by omega)) ?_
        refine Go.topE (y := nI c) e ?_
        refine Go.if_lt_f (tgt := 95) dX9_cut_70 (by decide) (nI_pos (by omega)) ?_
        refine Go.iload dX9_cut_73 rfl ?_
        refine Go.at 75 rfl ?_
        refine Go.aload_n dX9_cut_75 rfl ?_
        refine Go.iload dX9_cut_76 rfl ?_
        refine Go.callVi 76 [vI (nI k)] [vI off, vI (cuF s off k)] dX9_cut_78 lkX9_171 (Or.inl ⟨_, _, _, rfl, rfl, rfl⟩) rfl (Nat.le_of_ble_eq_true rfl) rfl (Nat.le_of_ble_eq_true rfl) (m_where hs k (by omega)) ?_
        refine Go.topE (y := nI c) e ?_
        refine Go.ishr dX9_cut_81 ?_
        refine Go.iconst (v := nI 1) dX9_cut_82 rfl ?_
        refine Go.iand dX9_cut_83 ?_
        refine Go.at 84 rfl ?_
        refine Go.iconst (v := nI 1) dX9_cut_84 rfl ?_
        refine Go.icmp_ne_f (tgt := 95) dX9_cut_85 (by decide) ((bitM1 (by omega) off).mpr hb) ?_
        refine Go.iconst (v := nI 1) dX9_cut_88 rfl ?_
        refine Go.iload dX9_cut_89 rfl ?_
        refine Go.ishl dX9_cut_91 ?_
        refine Go.goto (tgt := 96) dX9_cut_92 (by decide) ?_
        refine Go.at 96 rfl ?_
        refine Go.ior dX9_cut_96 ?_
        refine Go.istore (ls' := [some (vR 76), some (vI t), some (vI dr), some (vI pk), some (vI off), some (vI ((cuF s off k) ||| ((nI 1) <<< ((nI k) &&& 31)))), some (vI (nI k))]) dX9_cut_97 (by decide) rfl ?_
        refine Go.iinc (v := nI (k + 1)) (ls' := [some (vR 76), some (vI t), some (vI dr), some (vI pk), some (vI off), some (vI ((cuF s off k) ||| ((nI 1) <<< ((nI k) &&& 31)))), some (vI (nI (k + 1)))]) dX9_cut_99 rfl (nI_add _ _) (by decide) rfl ?_
        refine Go.goto (tgt := 51) dX9_cut_102 (by decide) ?_
        have ih := m_cut_lp (V := V) (d := d) hs hH t dr pk off j (k + 1) (by omega)
        rw [hw] at ih
        exact ih
      · have hw : cuF s off (k + 1) = cuF s off k := by rw [cuF, if_neg (fun z => hb (by rw [← e3]; exact z.2))]
        refine Go.iload dX9_cut_51 rfl ?_
        refine Go.aload_n dX9_cut_53 rfl ?_
        refine Go.getR dX9_cut_54 flX9_7 rfl ?_
        refine Go.iconst (v := nI 0) dX9_cut_57 rfl ?_
        refine Go.iaload 0 dX9_cut_58 rfl (by omega) rfl ?_
        refine Go.topE (y := nI (nH s)) ((congrFun hs _).trans hH.2.1) ?_
        refine Go.icmp_ge_f (tgt := 105) dX9_cut_59 (by decide) (nI_ge hk (by omega)) ?_
        refine Go.at 62 rfl ?_
        refine Go.iload dX9_cut_62 rfl ?_
        refine Go.aload_n dX9_cut_64 rfl ?_
        refine Go.iload dX9_cut_65 rfl ?_
        refine Go.callVi 76 [vI (nI k)] [vI (cuF s off k)] dX9_cut_67 lkX9_171 (Or.inl ⟨_, _, _, rfl, rfl, rfl⟩) rfl (Nat.le_of_ble_eq_true rfl) rfl (Nat.le_of_ble_eq_true rfl) (m_where hs k (by omega)) ?_
        refine Go.topE (y := nI c) e ?_
        refine Go.if_lt_f (tgt := 95) dX9_cut_70 (by decide) (nI_pos (by omega)) ?_
        refine Go.iload dX9_cut_73 rfl ?_
        refine Go.at 75 rfl ?_
        refine Go.aload_n dX9_cut_75 rfl ?_
        refine Go.iload dX9_cut_76 rfl ?_
        refine Go.callVi 76 [vI (nI k)] [vI off, vI (cuF s off k)] dX9_cut_78 lkX9_171 (Or.inl ⟨_, _, _, rfl, rfl, rfl⟩) rfl (Nat.le_of_ble_eq_true rfl) rfl (Nat.le_of_ble_eq_true rfl) (m_where hs k (by omega)) ?_
        refine Go.topE (y := nI c) e ?_
        refine Go.ishr dX9_cut_81 ?_
        refine Go.iconst (v := nI 1) dX9_cut_82 rfl ?_
        refine Go.iand dX9_cut_83 ?_
        refine Go.at 84 rfl ?_
        refine Go.iconst (v := nI 1) dX9_cut_84 rfl ?_
        refine Go.icmp_ne_t (tgt := 95) dX9_cut_85 (by decide) (fun z => hb ((bitM1 (by omega) off).mp z)) ?_
        refine Go.iconst (v := nI 0) dX9_cut_95 rfl ?_
        refine Go.ior dX9_cut_96 ?_
        refine Go.topE (y := cuF s off k) (or0 _) ?_
        refine Go.istore (ls' := [some (vR 76), some (vI t), some (vI dr), some (vI pk), some (vI off), some (vI (cuF s off k)), some (vI (nI k))]) dX9_cut_97 (by decide) rfl ?_
        refine Go.iinc (v := nI (k + 1)) (ls' := [some (vR 76), some (vI t), some (vI dr), some (vI pk), some (vI off), some (vI (cuF s off k)), some (vI (nI (k + 1)))]) dX9_cut_99 rfl (nI_add _ _) (by decide) rfl ?_
        refine Go.at 102 rfl ?_
        refine Go.goto (tgt := 51) dX9_cut_102 (by decide) ?_
        have ih := m_cut_lp (V := V) (d := d) hs hH t dr pk off j (k + 1) (by omega)
        rw [hw] at ih
        exact ih
theorem sub0 (x : Int32) : x - nI 0 = x := Int32.sub_zero x
theorem c_lack_l1 {V : VV} {d : Nat} {μ : Memo} {s : Nat → Int32} {B : Nat} (hB : isB B) (hI : Isl B μ s) (hH : HouOK s) (t : Int32) {Q : Option AVal → Memo → Prop} (hk : Go V (d + 4) mX1_lackAt 27 [some (vR B), some (vI t), some (vI (mnF s (nH s))), some (vI (nI (nH s))), none] [] μ Q) :
    ∀ (j k : Nat), k + j = nH s → Go V (d + 4) mX1_lackAt 4 [some (vR B), some (vI t), some (vI (mnF s k)), some (vI (nI k)), none] [] μ Q
  | 0, k, hkj => by
    obtain hkn : k = nH s := by omega
    rw [hkn]
    have h8 := hH.1
    refine Go.iload_n dX1_lackAt_4 rfl ?_
    refine Go.aload_n dX1_lackAt_5 rfl ?_
    refine Go.getI dX1_lackAt_6 flX1_54 (fBi hB 7 (by decide) (by decide)) ?_
    refine Go.topE (y := nI (nH s)) (hI.2.2.2.1.trans hH.2.1) ?_
    refine Go.icmp_ge_t (tgt := 27) dX1_lackAt_9 (by decide) (nI_le (Nat.le_refl _) (by omega)) ?_
    exact hk
  | j + 1, k, hkj => by
    have hk8 : k < nH s := by omega
    have h8 := hH.1
    refine Go.iload_n dX1_lackAt_4 rfl ?_
    refine Go.aload_n dX1_lackAt_5 rfl ?_
    refine Go.getI dX1_lackAt_6 flX1_54 (fBi hB 7 (by decide) (by decide)) ?_
    refine Go.topE (y := nI (nH s)) (hI.2.2.2.1.trans hH.2.1) ?_
    refine Go.icmp_ge_f (tgt := 27) dX1_lackAt_9 (by decide) (nI_ge hk8 (by omega)) ?_
    refine Go.iload_n dX1_lackAt_12 rfl ?_
    refine Go.aload_n dX1_lackAt_13 rfl ?_
    refine Go.at 14 rfl ?_
    refine Go.getR dX1_lackAt_14 flX1_27 (fBr hB 5 (by decide)) ?_
    refine Go.iload_n dX1_lackAt_17 rfl ?_
    refine Go.iaload k dX1_lackAt_18 (alB6 hB) (by omega) rfl ?_
    refine Go.topE (y := s (131 + 2 * k)) (hI.2.2.1 k hk8).1 ?_
    refine Go.iadd dX1_lackAt_19 ?_
    refine Go.istore_n (ls' := [some (vR B), some (vI t), some (vI ((mnF s k) + (s (131 + 2 * k)))), some (vI (nI k)), none]) dX1_lackAt_20 (by decide) rfl ?_
    refine Go.iinc (v := nI (k + 1)) (ls' := [some (vR B), some (vI t), some (vI ((mnF s k) + (s (131 + 2 * k)))), some (vI (nI (k + 1))), none]) dX1_lackAt_21 rfl (nI_add _ _) (by decide) rfl ?_
    refine Go.at 24 rfl ?_
    refine Go.goto (tgt := 4) dX1_lackAt_24 (by decide) ?_
    exact c_lack_l1 hB hI hH t hk j (k + 1) (by omega)
theorem c_lack_l2 {V : VV} {d : Nat} {μ0 : Memo} {s : Nat → Int32} {B : Nat} (hB : isB B) (hI0 : Isl B μ0 s) (hX0 : Txr μ0 s) (hT : TxtsOK s) (t z : Int32) :
    ∀ (j k : Nat) (μ : Memo), k + j = 30 → Fr [1, 6] μ0 μ → Go V (d + 4) mX1_lackAt 36 [some (vR B), some (vI t), some (vI (lkF s t z k)), some (vI (dryF s t)), some (vI (nI k))] [] μ (fun r' μ'' => r' = some (vI (maxI (nI 0) (lkF s t z 30))) ∧ Fr [1, 6] μ0 μ'')
  | 0, k, μ, hkj, hf => by
    obtain rfl : k = 30 := by omega
    refine Go.iload dX1_lackAt_36 rfl ?_
    refine Go.bipush (v := nI 30) dX1_lackAt_38 rfl ?_
    refine Go.icmp_ge_t (tgt := 67) dX1_lackAt_40 (by decide) (by decide) ?_
    refine Go.iconst (v := nI 0) dX1_lackAt_67 rfl ?_
    refine Go.iload_n dX1_lackAt_68 rfl ?_
    refine Go.mmaxE dX1_lackAt_69 lkX1_133 (Nat.le_of_ble_eq_true rfl) ?_
    refine Go.at 72 rfl ?_
    refine Go.ireturn .int dX1_lackAt_72 rfl rfl ?_
    exact ⟨rfl, hf⟩
  | j + 1, k, μ, hkj, hf => by
    have hc : k < 30 := by omega
    have hI : Isl B μ s := hI0.fr hB hf
    have hX : Txr μ s := hX0.fr hT.1 hf
    by_cases hl : levelF s t < tpF s k
    · have hw : lkF s t z (k + 1) = lkF s t z k - roomF s k := by rw [lkF, if_pos hl]
      refine Go.iload dX1_lackAt_36 rfl ?_
      refine Go.bipush (v := nI 30) dX1_lackAt_38 rfl ?_
      refine Go.icmp_ge_f (tgt := 67) dX1_lackAt_40 (by decide) (nI_ge hc (by decide)) ?_
      refine Go.iload_n dX1_lackAt_43 rfl ?_
      refine Go.iload dX1_lackAt_44 rfl ?_
      refine Go.callSi [vI (dryF s t), vI (nI k)] [] dX1_lackAt_46 lkX1_127 rfl (Nat.le_of_ble_eq_true rfl) rfl (Nat.le_of_ble_eq_true rfl) (c_has (dryF s t) (nI k)) ?_
      refine Go.at 49 rfl ?_
      refine Go.if_eqb_f (tgt := 61) dX1_lackAt_49 (by decide) ((bitU1 (by omega) _).mpr (by rw [dry_bt s t hc]; exact decide_eq_true hl)) ?_
      refine Go.iload_n dX1_lackAt_52 rfl ?_
      refine Go.aload_n dX1_lackAt_53 rfl ?_
      refine Go.iload dX1_lackAt_54 rfl ?_
      refine Go.callVx B [vI (nI k)] [vI (lkF s t z k)] dX1_lackAt_56 lkX1_131 (rcB hB) rfl (Nat.le_of_ble_eq_true rfl) rfl (Nat.le_of_ble_eq_true rfl) (c_room hB hI hX hT k hc) (fun μ1 k1 => ?_)
      have hI1 : Isl B μ1 s := hI.fr hB k1
      have hX1 : Txr μ1 s := hX.fr hT.1 k1
      refine Go.isub dX1_lackAt_59 ?_
      refine Go.at 60 rfl ?_
      refine Go.istore_n (ls' := [some (vR B), some (vI t), some (vI ((lkF s t z k) - (roomF s k))), some (vI (dryF s t)), some (vI (nI k))]) dX1_lackAt_60 (by decide) rfl ?_
      refine Go.iinc (v := nI (k + 1)) (ls' := [some (vR B), some (vI t), some (vI ((lkF s t z k) - (roomF s k))), some (vI (dryF s t)), some (vI (nI (k + 1)))]) dX1_lackAt_61 rfl (nI_add _ _) (by decide) rfl ?_
      refine Go.goto (tgt := 36) dX1_lackAt_64 (by decide) ?_
      have ih := c_lack_l2 (V := V) (d := d) hB hI0 hX0 hT t z j (k + 1) μ1 (by omega) (hf.trans k1)
      rw [hw] at ih
      exact ih
    · have hw : lkF s t z (k + 1) = lkF s t z k := by rw [lkF, if_neg hl]
      refine Go.iload dX1_lackAt_36 rfl ?_
      refine Go.bipush (v := nI 30) dX1_lackAt_38 rfl ?_
      refine Go.icmp_ge_f (tgt := 67) dX1_lackAt_40 (by decide) (nI_ge hc (by decide)) ?_
      refine Go.iload_n dX1_lackAt_43 rfl ?_
      refine Go.iload dX1_lackAt_44 rfl ?_
      refine Go.callSi [vI (dryF s t), vI (nI k)] [] dX1_lackAt_46 lkX1_127 rfl (Nat.le_of_ble_eq_true rfl) rfl (Nat.le_of_ble_eq_true rfl) (c_has (dryF s t) (nI k)) ?_
      refine Go.at 49 rfl ?_
      refine Go.if_eqb_t (tgt := 61) dX1_lackAt_49 (by decide) (fun z => hl (by have h9 := (bitU1 (by omega) _).mp z; rw [dry_bt s t hc] at h9; exact of_decide_eq_true h9)) ?_
      refine Go.iinc (v := nI (k + 1)) (ls' := [some (vR B), some (vI t), some (vI (lkF s t z k)), some (vI (dryF s t)), some (vI (nI (k + 1)))]) dX1_lackAt_61 rfl (nI_add _ _) (by decide) rfl ?_
      refine Go.goto (tgt := 36) dX1_lackAt_64 (by decide) ?_
      have ih := c_lack_l2 (V := V) (d := d) hB hI0 hX0 hT t z j (k + 1) μ (by omega) hf
      rw [hw] at ih
      exact ih
theorem m_lack_l1 {V : VV} {d : Nat} {μ : Memo} {s : Nat → Int32} (hs : μ 77 = s) (hH : HouOK s) (t : Int32) {Q : Option AVal → Memo → Prop} (hk : Go V (d + 4) mX9_lack 38 [some (vR 76), some (vI t), some (vI (mnF s (nH s))), some (vI (nI (nH s))), none] [] μ Q) :
    ∀ (j k : Nat), k + j = nH s → Go V (d + 4) mX9_lack 14 [some (vR 76), some (vI t), some (vI (mnF s k)), some (vI (nI k)), none] [] μ Q
  | 0, k, hkj => by
    obtain hkn : k = nH s := by omega
    rw [hkn]
    have h8 := hH.1
    refine Go.iload_n dX9_lack_14 rfl ?_
    refine Go.aload_n dX9_lack_15 rfl ?_
    refine Go.getR dX9_lack_16 flX9_7 rfl ?_
    refine Go.iconst (v := nI 0) dX9_lack_19 rfl ?_
    refine Go.iaload 0 dX9_lack_20 rfl (by omega) rfl ?_
    refine Go.topE (y := nI (nH s)) ((congrFun hs _).trans hH.2.1) ?_
    refine Go.icmp_ge_t (tgt := 38) dX9_lack_21 (by decide) (nI_le (Nat.le_refl _) (by omega)) ?_
    refine Go.at 38 rfl ?_
    exact hk
  | j + 1, k, hkj => by
    have hk8 : k < nH s := by omega
    have h8 := hH.1
    refine Go.iload_n dX9_lack_14 rfl ?_
    refine Go.aload_n dX9_lack_15 rfl ?_
    refine Go.getR dX9_lack_16 flX9_7 rfl ?_
    refine Go.iconst (v := nI 0) dX9_lack_19 rfl ?_
    refine Go.iaload 0 dX9_lack_20 rfl (by omega) rfl ?_
    refine Go.topE (y := nI (nH s)) ((congrFun hs _).trans hH.2.1) ?_
    refine Go.icmp_ge_f (tgt := 38) dX9_lack_21 (by decide) (nI_ge hk8 (by omega)) ?_
    refine Go.at 24 rfl ?_
    refine Go.iload_n dX9_lack_24 rfl ?_
    refine Go.aload_n dX9_lack_25 rfl ?_
    refine Go.iload_n dX9_lack_26 rfl ?_
    refine Go.callVi 76 [vI (nI k)] [vI (mnF s k)] dX9_lack_27 lkX9_168 (Or.inl ⟨_, _, _, rfl, rfl, rfl⟩) rfl (Nat.le_of_ble_eq_true rfl) rfl (Nat.le_of_ble_eq_true rfl) (m_many hs k (by omega)) ?_
    refine Go.iadd dX9_lack_30 ?_
    refine Go.istore_n (ls' := [some (vR 76), some (vI t), some (vI ((mnF s k) + (s (131 + 2 * k)))), some (vI (nI k)), none]) dX9_lack_31 (by decide) rfl ?_
    refine Go.at 32 rfl ?_
    refine Go.iinc (v := nI (k + 1)) (ls' := [some (vR 76), some (vI t), some (vI ((mnF s k) + (s (131 + 2 * k)))), some (vI (nI (k + 1))), none]) dX9_lack_32 rfl (nI_add _ _) (by decide) rfl ?_
    refine Go.goto (tgt := 14) dX9_lack_35 (by decide) ?_
    exact m_lack_l1 hs hH t hk j (k + 1) (by omega)
theorem m_lack_l2 {V : VV} {d : Nat} {μ0 : Memo} {s : Nat → Int32} (hs0 : μ0 77 = s) (hT : TxtsOK s) (t z : Int32) (hCo : CornOK s) :
    ∀ (j k : Nat) (μ : Memo), k + j = 30 → Fr [90, 91] μ0 μ → Go V (d + 4) mX9_lack 47 [some (vR 76), some (vI t), some (vI (lkF s t z k)), some (vI (dryF s t)), some (vI (nI k))] [] μ (fun r' μ'' => r' = some (vI (maxI (nI 0) (lkF s t z 30))) ∧ Fr [90, 91] μ0 μ'')
  | 0, k, μ, hkj, hf => by
    obtain rfl : k = 30 := by omega
    refine Go.iload dX9_lack_47 rfl ?_
    refine Go.bipush (v := nI 30) dX9_lack_49 rfl ?_
    refine Go.icmp_ge_t (tgt := 83) dX9_lack_51 (by decide) (by decide) ?_
    refine Go.iload_n dX9_lack_83 rfl ?_
    refine Go.if_ge (tgt := 91) dX9_lack_84 (by decide) (fun h84 => ?_) (fun h84 => ?_)
    · -- 84 taken
      refine Go.iload_n dX9_lack_91 rfl ?_
      refine Go.ireturn .int dX9_lack_92 rfl rfl ?_
      exact ⟨congrArg (fun z => some (vI z)) (by unfold maxI; simp only [sI_lt, sI_le, Int32.toInt_zero] at *; first | (rw [if_neg (by rw [nT]; omega)]) | (split <;> first | rfl | (apply Int32.toInt_inj.mp; rw [nT] at *; omega))), hf⟩
    · -- 84 not
      refine Go.iconst (v := nI 0) dX9_lack_87 rfl ?_
      refine Go.goto (tgt := 92) dX9_lack_88 (by decide) ?_
      refine Go.ireturn .int dX9_lack_92 rfl rfl ?_
      exact ⟨congrArg (fun z => some (vI z)) (by unfold maxI; simp only [sI_lt, sI_le, Int32.toInt_zero] at *; first | (rw [if_neg (by rw [nT]; omega)]) | (split <;> first | rfl | (apply Int32.toInt_inj.mp; rw [nT] at *; omega))), hf⟩
  | j + 1, k, μ, hkj, hf => by
    have hc : k < 30 := by omega
    have hs : μ 77 = s := (hf 77 (by decide)).trans hs0
    by_cases hl : levelF s t < tpF s k
    · have hw : lkF s t z (k + 1) = lkF s t z k - roomF s k := by rw [lkF, if_pos hl]
      refine Go.iload dX9_lack_47 rfl ?_
      refine Go.bipush (v := nI 30) dX9_lack_49 rfl ?_
      refine Go.icmp_ge_f (tgt := 83) dX9_lack_51 (by decide) (nI_ge hc (by decide)) ?_
      refine Go.iload_n dX9_lack_54 rfl ?_
      refine Go.iload_n dX9_lack_55 rfl ?_
      refine Go.iload dX9_lack_56 rfl ?_
      refine Go.at 58 rfl ?_
      refine Go.ishr dX9_lack_58 ?_
      refine Go.iconst (v := nI 1) dX9_lack_59 rfl ?_
      refine Go.iand dX9_lack_60 ?_
      refine Go.iconst (v := nI 1) dX9_lack_61 rfl ?_
      refine Go.icmp_ne_f (tgt := 74) dX9_lack_62 (by decide) ((bitM1 (by omega) _).mpr (by rw [dry_bt s t hc]; exact decide_eq_true hl)) ?_
      refine Go.aload_n dX9_lack_65 rfl ?_
      refine Go.at 66 rfl ?_
      refine Go.iload dX9_lack_66 rfl ?_
      refine Go.callVx 76 [vI (nI k)] [vI (lkF s t z k)] dX9_lack_68 lkX9_106 (Or.inl ⟨_, _, _, rfl, rfl, rfl⟩) rfl (Nat.le_of_ble_eq_true rfl) rfl (Nat.le_of_ble_eq_true rfl) (m_room hs hT hCo k hc) (fun μ1 k1 => ?_)
      have hs1 : μ1 77 = s := (k1 77 (by decide)).trans hs
      refine Go.goto (tgt := 75) dX9_lack_71 (by decide) ?_
      refine Go.isub dX9_lack_75 ?_
      refine Go.istore_n (ls' := [some (vR 76), some (vI t), some (vI ((lkF s t z k) - (roomF s k))), some (vI (dryF s t)), some (vI (nI k))]) dX9_lack_76 (by decide) rfl ?_
      refine Go.iinc (v := nI (k + 1)) (ls' := [some (vR 76), some (vI t), some (vI ((lkF s t z k) - (roomF s k))), some (vI (dryF s t)), some (vI (nI (k + 1)))]) dX9_lack_77 rfl (nI_add _ _) (by decide) rfl ?_
      refine Go.at 80 rfl ?_
      refine Go.goto (tgt := 47) dX9_lack_80 (by decide) ?_
      have ih := m_lack_l2 (V := V) (d := d) hs0 hT t z hCo j (k + 1) μ1 (by omega) (hf.trans k1)
      rw [hw] at ih
      exact ih
    · have hw : lkF s t z (k + 1) = lkF s t z k := by rw [lkF, if_neg hl]
      refine Go.iload dX9_lack_47 rfl ?_
      refine Go.bipush (v := nI 30) dX9_lack_49 rfl ?_
      refine Go.icmp_ge_f (tgt := 83) dX9_lack_51 (by decide) (nI_ge hc (by decide)) ?_
      refine Go.iload_n dX9_lack_54 rfl ?_
      refine Go.iload_n dX9_lack_55 rfl ?_
      refine Go.iload dX9_lack_56 rfl ?_
      refine Go.at 58 rfl ?_
      refine Go.ishr dX9_lack_58 ?_
      refine Go.iconst (v := nI 1) dX9_lack_59 rfl ?_
      refine Go.iand dX9_lack_60 ?_
      refine Go.iconst (v := nI 1) dX9_lack_61 rfl ?_
      refine Go.icmp_ne_t (tgt := 74) dX9_lack_62 (by decide) (fun z => hl (by have h9 := (bitM1 (by omega) _).mp z; rw [dry_bt s t hc] at h9; exact of_decide_eq_true h9)) ?_
      refine Go.iconst (v := nI 0) dX9_lack_74 rfl ?_
      refine Go.at 75 rfl ?_
      refine Go.isub dX9_lack_75 ?_
      refine Go.topE (y := lkF s t z k) (sub0 _) ?_
      refine Go.istore_n (ls' := [some (vR 76), some (vI t), some (vI (lkF s t z k)), some (vI (dryF s t)), some (vI (nI k))]) dX9_lack_76 (by decide) rfl ?_
      refine Go.iinc (v := nI (k + 1)) (ls' := [some (vR 76), some (vI t), some (vI (lkF s t z k)), some (vI (dryF s t)), some (vI (nI (k + 1)))]) dX9_lack_77 rfl (nI_add _ _) (by decide) rfl ?_
      refine Go.goto (tgt := 47) dX9_lack_80 (by decide) ?_
      have ih := m_lack_l2 (V := V) (d := d) hs0 hT t z hCo j (k + 1) μ (by omega) hf
      rw [hw] at ih
      exact ih
theorem c_lack {V : VV} {d : Nat} {μ : Memo} {s : Nat → Int32} {B : Nat} (hB : isB B) (hI : Isl B μ s) (hX : Txr μ s) (hT : TxtsOK s) (hH : HouOK s) (t : Int32) : RetI V (d + 4) mX1_lackAt [vR B, vI t] μ (maxI (nI 0) (lkF s t (mnF s (nH s)) 30)) (Fr [1, 6] μ) := by
  show Go V (d + 4) mX1_lackAt 0 [some (vR B), some (vI t), none, none, none] [] μ _
  refine Go.iconst (v := nI 0) dX1_lackAt_0 rfl ?_
  refine Go.istore_n (ls' := [some (vR B), some (vI t), some (vI (nI 0)), none, none]) dX1_lackAt_1 (by decide) rfl ?_
  refine Go.iconst (v := nI 0) dX1_lackAt_2 rfl ?_
  refine Go.istore_n (ls' := [some (vR B), some (vI t), some (vI (nI 0)), some (vI (nI 0)), none]) dX1_lackAt_3 (by decide) rfl ?_
  refine c_lack_l1 hB hI hH t ?_ (nH s) 0 (by omega)
  refine Go.aload_n dX1_lackAt_27 rfl ?_
  refine Go.iload_n dX1_lackAt_28 rfl ?_
  refine Go.callVx B [vI t] [] dX1_lackAt_29 lkX1_102 (rcB hB) rfl (Nat.le_of_ble_eq_true rfl) rfl (Nat.le_of_ble_eq_true rfl) (c_dry hB hI hX hT t) (fun μ1 k1 => ?_)
  have hI1 : Isl B μ1 s := hI.fr hB k1
  have hX1 : Txr μ1 s := hX.fr hT.1 k1
  refine Go.istore_n (ls' := [some (vR B), some (vI t), some (vI (mnF s (nH s))), some (vI (dryF s t)), none]) dX1_lackAt_32 (by decide) rfl ?_
  refine Go.iconst (v := nI 0) dX1_lackAt_33 rfl ?_
  refine Go.istore (ls' := [some (vR B), some (vI t), some (vI (mnF s (nH s))), some (vI (dryF s t)), some (vI (nI 0))]) dX1_lackAt_34 (by decide) rfl ?_
  refine Go.at 36 rfl ?_
  exact Go.mono (c_lack_l2 hB hI1 hX1 hT t _ 30 0 μ1 (by omega) (Fr.rf _ _)) (fun r m2 q => ⟨q.1, k1.trans q.2⟩)
theorem c_going_lp {V : VV} {d : Nat} {μ0 : Memo} {s : Nat → Int32} {B : Nat} (hB : isB B) (hI0 : Isl B μ0 s) (hX0 : Txr μ0 s) (hT : TxtsOK s) (f : Int32) (c : Nat) (hc : c < 30) :
    ∀ (j k : Nat) (x : Int32) (μ : Memo), k + j = 49 → Fr [1, 6] μ0 μ → Go V (d + 4) mX1_hoursBetween 7 [some (vR B), some (vI f), some (vI (nI c)), some (vI x), some (vI (nI k))] [] μ (fun r' μ'' => r' = some (vI (goF s c j k x)) ∧ Fr [1, 6] μ0 μ'')
  | 0, k, x, μ, hkj, hf => by
    obtain rfl : k = 49 := by omega
    refine Go.iload dX1_hoursBetween_7 rfl ?_
    refine Go.bipush (v := nI 48) dX1_hoursBetween_9 rfl ?_
    refine Go.icmp_gt_t (tgt := 45) dX1_hoursBetween_11 (by decide) (by decide) ?_
    refine Go.ldc dX1_hoursBetween_45 cnX1_41 ?_
    refine Go.ireturn .int dX1_hoursBetween_47 rfl rfl ?_
    exact ⟨rfl, hf⟩
  | j + 1, k, x, μ, hkj, hf => by
    have hk : k < 49 := by omega
    have hI : Isl B μ s := hI0.fr hB hf
    have hX : Txr μ s := hX0.fr hT.1 hf
    refine Go.iload dX1_hoursBetween_7 rfl ?_
    refine Go.bipush (v := nI 48) dX1_hoursBetween_9 rfl ?_
    refine Go.icmp_gt_f (tgt := 45) dX1_hoursBetween_11 (by decide) (nI_nlt (by omega) (by omega)) ?_
    refine Go.iload_n dX1_hoursBetween_14 rfl ?_
    refine Go.aload_n dX1_hoursBetween_15 rfl ?_
    refine Go.iload dX1_hoursBetween_16 rfl ?_
    refine Go.at 18 rfl ?_
    refine Go.callVx B [vI (nI k)] [vI x] dX1_hoursBetween_18 lkX1_102 (rcB hB) rfl (Nat.le_of_ble_eq_true rfl) rfl (Nat.le_of_ble_eq_true rfl) (c_dry hB hI hX hT (nI k)) (fun μ1 k1 => ?_)
    have hI1 : Isl B μ1 s := hI.fr hB k1
    have hX1 : Txr μ1 s := hX.fr hT.1 k1
    refine Go.iand dX1_hoursBetween_21 ?_
    refine Go.istore_n (ls' := [some (vR B), some (vI f), some (vI (nI c)), some (vI (x &&& (dryF s (nI k)))), some (vI (nI k))]) dX1_hoursBetween_22 (by decide) rfl ?_
    refine Go.iload_n dX1_hoursBetween_23 rfl ?_
    refine Go.iload_n dX1_hoursBetween_24 rfl ?_
    refine Go.callSi [vI (x &&& (dryF s (nI k))), vI (nI c)] [] dX1_hoursBetween_25 lkX1_127 rfl (Nat.le_of_ble_eq_true rfl) rfl (Nat.le_of_ble_eq_true rfl) (c_has (x &&& (dryF s (nI k))) (nI c)) ?_
    refine Go.at 28 rfl ?_
    refine Go.if_eqb (tgt := 34) dX1_hoursBetween_28 (by decide) (fun h28 => ?_) (fun h28 => ?_)
    · -- 28 taken
      refine Go.iload_n dX1_hoursBetween_34 rfl ?_
      refine Go.callSi [vI (x &&& (dryF s (nI k)))] [] dX1_hoursBetween_35 lkX1_138 rfl (Nat.le_of_ble_eq_true rfl) rfl (Nat.le_of_ble_eq_true rfl) (c_spread (x &&& (dryF s (nI k)))) ?_
      refine Go.istore_n (ls' := [some (vR B), some (vI f), some (vI (nI c)), some (vI (sprF (x &&& (dryF s (nI k))))), some (vI (nI k))]) dX1_hoursBetween_38 (by decide) rfl ?_
      refine Go.iinc (v := nI (k + 1)) (ls' := [some (vR B), some (vI f), some (vI (nI c)), some (vI (sprF (x &&& (dryF s (nI k))))), some (vI (nI (k + 1)))]) dX1_hoursBetween_39 rfl (nI_add _ _) (by decide) rfl ?_
      refine Go.goto (tgt := 7) dX1_hoursBetween_42 (by decide) ?_
      have hw : goF s c (j + 1) k x = goF s c j (k + 1) (sprF (x &&& dryF s (nI k))) := by rw [goF, if_neg (fun z => h28 ((bitU1 (by omega) _).mpr z))]
      rw [hw]
      exact c_going_lp hB hI0 hX0 hT f c hc j (k + 1) _ μ1 (by omega) (hf.trans k1)
    · -- 28 not
      refine Go.iload dX1_hoursBetween_31 rfl ?_
      refine Go.ireturn .int dX1_hoursBetween_33 rfl rfl ?_
      exact ⟨by rw [goF, if_pos ((bitU1 (by omega) _).mp h28)], hf.trans k1⟩
theorem c_going {V : VV} {d : Nat} {μ : Memo} {s : Nat → Int32} {B : Nat} (hB : isB B) (hI : Isl B μ s) (hX : Txr μ s) (hT : TxtsOK s) (f c : Nat) (hc : c < 30) : RetI V (d + 4) mX1_hoursBetween [vR B, vI (nI f), vI (nI c)] μ (goF s c 49 0 (nI 1 <<< (nI f &&& 31))) (Fr [1, 6] μ) := by
  show Go V (d + 4) mX1_hoursBetween 0 [some (vR B), some (vI (nI f)), some (vI (nI c)), none, none] [] μ _
  refine Go.iconst (v := nI 1) dX1_hoursBetween_0 rfl ?_
  refine Go.iload_n dX1_hoursBetween_1 rfl ?_
  refine Go.ishl dX1_hoursBetween_2 ?_
  refine Go.istore_n (ls' := [some (vR B), some (vI (nI f)), some (vI (nI c)), some (vI ((nI 1) <<< ((nI f) &&& 31))), none]) dX1_hoursBetween_3 (by decide) rfl ?_
  refine Go.iconst (v := nI 0) dX1_hoursBetween_4 rfl ?_
  refine Go.istore (ls' := [some (vR B), some (vI (nI f)), some (vI (nI c)), some (vI ((nI 1) <<< ((nI f) &&& 31))), some (vI (nI 0))]) dX1_hoursBetween_5 (by decide) rfl ?_
  refine Go.at 7 rfl ?_
  exact c_going_lp hB hI hX hT _ c hc 49 0 _ μ (by omega) (Fr.rf _ _)
theorem m_going_lp {V : VV} {d : Nat} {μ0 : Memo} {s : Nat → Int32} (hs0 : μ0 77 = s) (hT : TxtsOK s) (hh : Int32) (c : Nat) (hc : c < 30) :
    ∀ (j k : Nat) (x : Int32) (μ : Memo), k + j = 49 → Fr [90, 91] μ0 μ → Go V (d + 4) mX9_going 46 [some (vR 76), some (vI hh), some (vI (nI c)), some (vI (x &&& dryF s (nI k))), some (vI (nI k))] [] μ (fun r' μ'' => r' = some (vI (goF s c j k x)) ∧ Fr [90, 91] μ0 μ'')
  | 0, k, x, μ, hkj, hf => by
    obtain rfl : k = 49 := by omega
    refine Go.iload dX9_going_46 rfl ?_
    refine Go.bipush (v := nI 48) dX9_going_48 rfl ?_
    refine Go.icmp_gt_t (tgt := 85) dX9_going_50 (by decide) (by decide) ?_
    refine Go.ldc dX9_going_85 cnX9_64 ?_
    refine Go.ireturn .int dX9_going_87 rfl rfl ?_
    exact ⟨rfl, hf⟩
  | j + 1, k, x, μ, hkj, hf => by
    have hk : k < 49 := by omega
    have hs : μ 77 = s := (hf 77 (by decide)).trans hs0
    refine Go.iload dX9_going_46 rfl ?_
    refine Go.bipush (v := nI 48) dX9_going_48 rfl ?_
    refine Go.icmp_gt_f (tgt := 85) dX9_going_50 (by decide) (nI_nlt (by omega) (by omega)) ?_
    refine Go.iload_n dX9_going_53 rfl ?_
    refine Go.iload_n dX9_going_54 rfl ?_
    refine Go.ishr dX9_going_55 ?_
    refine Go.at 56 rfl ?_
    refine Go.iconst (v := nI 1) dX9_going_56 rfl ?_
    refine Go.iand dX9_going_57 ?_
    refine Go.iconst (v := nI 1) dX9_going_58 rfl ?_
    refine Go.icmp_ne (tgt := 65) dX9_going_59 (by decide) (fun h59 => ?_) (fun h59 => ?_)
    · -- 59 taken
      refine Go.iload_n dX9_going_65 rfl ?_
      refine Go.callSi [vI (x &&& dryF s (nI k))] [] dX9_going_66 lkX9_140 rfl (Nat.le_of_ble_eq_true rfl) rfl (Nat.le_of_ble_eq_true rfl) ((m_spread (x &&& dryF s (nI k))).eq (spM_eq (and_S30 (dry_S30 _ _)))) ?_
      refine Go.aload_n dX9_going_69 rfl ?_
      refine Go.iload dX9_going_70 rfl ?_
      refine Go.iconst (v := nI 1) dX9_going_72 rfl ?_
      refine Go.iaddN dX9_going_73 ?_
      refine Go.at 74 rfl ?_
      refine Go.callVx 76 [vI (nI (k + 1))] [vI (sprF (x &&& dryF s (nI k)))] dX9_going_74 lkX9_131 (Or.inl ⟨_, _, _, rfl, rfl, rfl⟩) rfl (Nat.le_of_ble_eq_true rfl) rfl (Nat.le_of_ble_eq_true rfl) (m_dry hs hT (nI (k + 1))) (fun μ1 k1 => ?_)
      have hs1 : μ1 77 = s := (k1 77 (by decide)).trans hs
      refine Go.iand dX9_going_77 ?_
      refine Go.istore_n (ls' := [some (vR 76), some (vI hh), some (vI (nI c)), some (vI ((sprF (x &&& dryF s (nI k))) &&& (dryF s (nI (k + 1))))), some (vI (nI k))]) dX9_going_78 (by decide) rfl ?_
      refine Go.iinc (v := nI (k + 1)) (ls' := [some (vR 76), some (vI hh), some (vI (nI c)), some (vI ((sprF (x &&& dryF s (nI k))) &&& (dryF s (nI (k + 1))))), some (vI (nI (k + 1)))]) dX9_going_79 rfl (nI_add _ _) (by decide) rfl ?_
      refine Go.goto (tgt := 46) dX9_going_82 (by decide) ?_
      have hw : goF s c (j + 1) k x = goF s c j (k + 1) (sprF (x &&& dryF s (nI k))) := by rw [goF, if_neg (fun z => h59 ((bitM1 (by omega) _).mpr z))]
      rw [hw]
      exact m_going_lp hs0 hT hh c hc j (k + 1) _ μ1 (by omega) (hf.trans k1)
    · -- 59 not
      refine Go.iload dX9_going_62 rfl ?_
      refine Go.ireturn .int dX9_going_64 rfl rfl ?_
      exact ⟨by rw [goF, if_pos ((bitM1 (by omega) _).mp h59)], hf⟩
