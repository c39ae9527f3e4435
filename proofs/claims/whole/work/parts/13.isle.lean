/-! ===== an island as a row of numbers: what is read of it ===== -/
def nH (s : Nat → Int32) : Nat := (s 0).toNatClampNeg
def nX (s : Nat → Int32) : Nat := (s 1).toNatClampNeg
def nSt (s : Nat → Int32) (t : Nat) : Nat := (s (147 + 200 * t + 2)).toNatClampNeg
def TxtOK (s : Nat → Int32) (t : Nat) : Prop := nSt s t ≤ 96 ∧ s (147 + 200 * t + 2) = nI (nSt s t) ∧ (s (147 + 200 * t) = nI 0 ∨ s (147 + 200 * t) = nI 1 ∨ s (147 + 200 * t) = nI 2) ∧ (∀ k, k < nSt s t → stepOK (s (147 + 200 * t)) (tW s t k) (tV s t k) (dpR (tW s t) (tV s t) k)) ∧ dpR (tW s t) (tV s t) (nSt s t) = 1
def TxtsOK (s : Nat → Int32) : Prop := nX s ≤ 14 ∧ s 1 = nI (nX s) ∧ ∀ t, t < nX s → TxtOK s t
def valT (s : Nat → Int32) (t : Nat) (env : Int32 → Int32) : Int32 := (rnR env (tW s t) (tV s t) (fun _ => 0) (nSt s t)).2 0
theorem rnR_same {key : Int32} {W Vv : Nat → Int32} {n : Nat} (hok : ∀ k, k < n → stepOK key (W k) (Vv k) (dpR W Vv k)) {env env2 : Int32 → Int32} (he : ∀ v, nameP key v → env v = env2 v) (f0 g0 : Nat → Int32) :
    ∀ k, k ≤ n → ∀ j, j < dpR W Vv k → (rnR env W Vv f0 k).2 j = (rnR env2 W Vv g0 k).2 j
  | 0, _, j, hj => absurd hj (Nat.not_lt_zero j)
  | k + 1, hk, j, hj => by
    have ih := rnR_same hok he f0 g0 k (by omega)
    have d1 := rnR_dp env W Vv f0 k
    have d2 := rnR_dp env2 W Vv g0 k
    show (stR env (W k) (Vv k) (rnR env W Vv f0 k)).2 j = (stR env2 (W k) (Vv k) (rnR env2 W Vv g0 k)).2 j
    generalize rnR env W Vv f0 k = q1 at ih d1 ⊢
    generalize rnR env2 W Vv g0 k = q2 at ih d2 ⊢
    rw [dpR] at hj
    unfold stR
    rcases hok k (by omega) with ⟨hw, hv⟩ | ⟨hw, hnm⟩ | ⟨hw, hv, hdp⟩ | ⟨hw, hsg, hdp⟩
    · have h2 : ¬ W k = nI 2 := by rw [hw]; decide
      have h0 : W k = 0 := hw
      rw [if_neg h2] at hj
      rw [if_neg h2, if_neg h2, if_pos h0, if_pos h0]
      show upd q1.2 q1.1 _ j = upd q2.2 q2.1 _ j
      rw [d1, d2]
      by_cases e : j = dpR W Vv k
      · rw [e, upd_self, upd_self]
      · rw [upd_ne _ _ e, upd_ne _ _ e]; exact ih j (by omega)
    · have h2 : ¬ W k = nI 2 := by rw [hw]; decide
      have h0 : ¬ W k = 0 := by rw [hw]; decide
      rw [if_neg h2] at hj
      rw [if_neg h2, if_neg h2, if_neg h0, if_neg h0]
      show upd q1.2 q1.1 _ j = upd q2.2 q2.1 _ j
      rw [d1, d2, he _ hnm]
      by_cases e : j = dpR W Vv k
      · rw [e, upd_self, upd_self]
      · rw [upd_ne _ _ e, upd_ne _ _ e]; exact ih j (by omega)
    · rw [if_pos hw, if_pos hv] at hj
      rw [if_pos hw, if_pos hw, if_pos hv, if_pos hv]
      show upd q1.2 (q1.1 - 1) _ j = upd q2.2 (q2.1 - 1) _ j
      rw [d1, d2, ih (dpR W Vv k - 1) (by omega)]
      by_cases e : j = dpR W Vv k - 1
      · rw [e, upd_self, upd_self]
      · rw [upd_ne _ _ e, upd_ne _ _ e]; exact ih j (by omega)
    · have h33 := sign_no33 hsg
      rw [if_pos hw, if_neg h33] at hj
      rw [if_pos hw, if_pos hw, if_neg h33, if_neg h33]
      show upd q1.2 (q1.1 - 2) _ j = upd q2.2 (q2.1 - 2) _ j
      rw [d1, d2, ih (dpR W Vv k - 1) (by omega), ih (dpR W Vv k - 2) (by omega)]
      by_cases e : j = dpR W Vv k - 2
      · rw [e, upd_self, upd_self]
      · rw [upd_ne _ _ e, upd_ne _ _ e]; exact ih j (by omega)
theorem val_any {s : Nat → Int32} {t : Nat} (h : TxtOK s t) {env env2 : Int32 → Int32} (he : ∀ v, nameP (s (147 + 200 * t)) v → env v = env2 v) (f0 : Nat → Int32) : (rnR env (tW s t) (tV s t) f0 (nSt s t)).2 0 = valT s t env2 :=
  rnR_same h.2.2.2.1 he f0 _ _ (Nat.le_refl _) 0 (by rw [h.2.2.2.2]; decide)
def tpF (s : Nat → Int32) (c : Nat) : Int32 := topF (s (11 + 4 * c)) (s (11 + 4 * c + 1)) (s 10)
def plainF (s : Nat → Int32) (T : Int32) : Int32 :=
  (s 5 * (nI 6 - (if irm T (nI 12) ≤ nI 6 then irm T (nI 12) else nI 12 - irm T (nI 12))) + s 6 * (if irm T (nI 12) ≤ nI 6 then irm T (nI 12) else nI 12 - irm T (nI 12))) / nI 6 + (if irm (T / nI 24) (nI 15) = 0 then s 7 else nI 0) + s 8
def levelF (s : Nat → Int32) (t : Int32) : Int32 := match lawN s (nI 0) (nX s) with
  | none => plainF s (s 2 + t)
  | some l => wiF (valT s l (envK (nI 0) (irm (s 2 + t) (nI 24)) ((s 2 + t) / nI 24) (s 8))) (nI 40)
def landF (s : Nat → Int32) (c : Nat) : Int32 := match lawN s (nI 2) (nX s) with
  | none => nI 10
  | some l => wiF (valT s l (envK (nI 2) (tpF s c) (s (11 + 4 * c + 1)) (nI 0))) (nI 99)
def roomF (s : Nat → Int32) (c : Nat) : Int32 := roomC (s (11 + 4 * c)) (landF s c) (s (11 + 4 * c + 2))
def growF (s : Nat → Int32) (c : Nat) : Int32 := match lawN s (nI 1) (nX s) with
  | none => nI 1
  | some l => wiF (valT s l (envK (nI 1) (s (11 + 4 * c + 2)) (s (11 + 4 * c + 1)) (nI 0))) (nI 9)
def drL (s : Nat → Int32) (l : Int32) : Nat → Int32
  | 0 => nI 0
  | c + 1 => if l < tpF s c then drL s l c ||| (nI 1 <<< (nI c &&& 31)) else drL s l c
def dryF (s : Nat → Int32) (t : Int32) : Int32 := drL s (levelF s t) 30
theorem hold_eq (v b : Int32) (hb : 0 ≤ b) : maxI (nI 0) (minI b v) = wiF v b := by
  unfold maxI minI wiF
  rw [sI_le] at hb
  simp only [sI_lt, nT, Int32.toInt_zero] at *
  (repeat' split) <;> first | rfl | (exfalso; omega) | (apply Int32.toInt_inj.mp; (try simp only [nT]); omega)
theorem wiF_rng (v b : Int32) (hb : 0 ≤ b) : 0 ≤ (wiF v b).toInt ∧ (wiF v b).toInt ≤ b.toInt := by
  unfold wiF
  rw [sI_le] at hb
  simp only [sI_lt, Int32.toInt_zero] at *
  split
  · rw [nT]; omega
  · split <;> omega
theorem w29 (h : Int32) : nI 29 - h = nI 20 - h + nI 9 := by
  apply Int32.toInt_inj.mp
  simp only [tI_sub, tI_add, nT]
  omega
theorem div10 {x : Int32} (h0 : 0 ≤ x.toInt) (h1 : x.toInt ≤ 99) : 0 ≤ (x / nI 10).toInt ∧ (x / nI 10).toInt ≤ 9 := by
  obtain ⟨j, hj, rfl⟩ : ∃ j : Nat, j ≤ 99 ∧ x = nI j := ⟨x.toInt.toNat, by omega, by apply Int32.toInt_inj.mp; rw [nT]; omega⟩
  rw [pk_div (by omega) (by decide) (by decide), nT]
  omega
theorem or0 (x : Int32) : x ||| nI 0 = x := Int32.or_zero

theorem m_of0 {V : VV} {d : Nat} {μ : Memo} {s : Nat → Int32} (hs : μ 77 = s) (c : Nat) (hc : c < 30) : Ret V d mX9_of [vR 76, vI (nI c), vI (nI 0)] μ (some (vI (s (11 + 4 * c)))) μ := m_of hs c 0 hc (by decide)
theorem m_top {V : VV} {d : Nat} {μ : Memo} {s : Nat → Int32} (hs : μ 77 = s) (c : Nat) (hc : c < 30) : Ret V (d + 1) mX9_top [vR 76, vI (nI c)] μ (some (vI (tpF s c))) μ := by
  show Go V (d + 1) mX9_top 0 [some (vR 76), some (vI (nI c)), none] [] μ _
  refine Go.aload_n dX9_top_0 rfl ?_
  refine Go.iload_n dX9_top_1 rfl ?_
  refine Go.iconst (v := nI 1) dX9_top_2 rfl ?_
  refine Go.callVi 76 [vI (nI c), vI (nI 1)] [] dX9_top_3 lkX9_70 (Or.inl ⟨_, _, _, rfl, rfl, rfl⟩) rfl (Nat.le_of_ble_eq_true rfl) rfl (Nat.le_of_ble_eq_true rfl) (m_of hs c 1 hc (by decide)) ?_
  refine Go.istore_n (ls' := [some (vR 76), some (vI (nI c)), some (vI (s (11 + 4 * c + 1)))]) dX9_top_6 (by decide) rfl ?_
  refine Go.aload_n dX9_top_7 rfl ?_
  refine Go.at 8 rfl ?_
  refine Go.iload_n dX9_top_8 rfl ?_
  refine Go.iconst (v := nI 0) dX9_top_9 rfl ?_
  refine Go.callVi 76 [vI (nI c), vI (nI 0)] [] dX9_top_10 lkX9_70 (Or.inl ⟨_, _, _, rfl, rfl, rfl⟩) rfl (Nat.le_of_ble_eq_true rfl) rfl (Nat.le_of_ble_eq_true rfl) (m_of0 hs c hc) ?_
  by_cases h13_2 : s (11 + 4 * c) = nI 2
  · refine Go.tsw (tgt := 44) (nI 2) h13_2 dX9_top_13 (by decide) (by decide) rfl (by decide) ?_
    refine Go.iload_n dX9_top_44 rfl ?_
    refine Go.iconst (v := nI 2) dX9_top_45 rfl ?_
    refine Go.iadd dX9_top_46 ?_
    refine Go.ireturn .int dX9_top_47 rfl rfl ?_
    exact ⟨congrArg (fun z => some (vI z)) (by unfold tpF topF; (repeat' split) <;> first | rfl | (exfalso; (try simp only [sI_lt, sI_le, sI_eq, nT, Int32.toInt_zero, tI_n1, tI_NONE] at *); omega)), rfl⟩
  by_cases h13_3 : s (11 + 4 * c) = nI 3
  · refine Go.tsw (tgt := 48) (nI 3) h13_3 dX9_top_13 (by decide) (by decide) rfl (by decide) ?_
    refine Go.iload_n dX9_top_48 rfl ?_
    refine Go.iconst (v := nI 1) dX9_top_49 rfl ?_
    refine Go.iadd dX9_top_50 ?_
    refine Go.ireturn .int dX9_top_51 rfl rfl ?_
    exact ⟨congrArg (fun z => some (vI z)) (by unfold tpF topF; (repeat' split) <;> first | rfl | (exfalso; (try simp only [sI_lt, sI_le, sI_eq, nT, Int32.toInt_zero, tI_n1, tI_NONE] at *); omega)), rfl⟩
  by_cases h13_4 : s (11 + 4 * c) = nI 4
  · refine Go.tsw (tgt := 52) (nI 4) h13_4 dX9_top_13 (by decide) (by decide) rfl (by decide) ?_
    refine Go.iload_n dX9_top_52 rfl ?_
    refine Go.iconst (v := nI 3) dX9_top_53 rfl ?_
    refine Go.iadd dX9_top_54 ?_
    refine Go.ireturn .int dX9_top_55 rfl rfl ?_
    exact ⟨congrArg (fun z => some (vI z)) (by unfold tpF topF; (repeat' split) <;> first | rfl | (exfalso; (try simp only [sI_lt, sI_le, sI_eq, nT, Int32.toInt_zero, tI_n1, tI_NONE] at *); omega)), rfl⟩
  by_cases h13_5 : s (11 + 4 * c) = nI 5
  · refine Go.tsw (tgt := 56) (nI 5) h13_5 dX9_top_13 (by decide) (by decide) rfl (by decide) ?_
    refine Go.iload_n dX9_top_56 rfl ?_
    refine Go.aload_n dX9_top_57 rfl ?_
    refine Go.getR dX9_top_58 flX9_7 rfl ?_
    refine Go.bipush (v := nI 10) dX9_top_61 rfl ?_
    refine Go.iaload 10 dX9_top_63 rfl (by omega) rfl ?_
    refine Go.topE (s 10) (congrFun hs _) ?_
    refine Go.iadd dX9_top_64 ?_
    refine Go.at 65 rfl ?_
    refine Go.ireturn .int dX9_top_65 rfl rfl ?_
    exact ⟨congrArg (fun z => some (vI z)) (by unfold tpF topF; (repeat' split) <;> first | rfl | (exfalso; (try simp only [sI_lt, sI_le, sI_eq, nT, Int32.toInt_zero, tI_n1, tI_NONE] at *); omega)), rfl⟩
  refine Go.tswD (tgt := 66) dX9_top_13 (by have a0 := lv_neT h13_2 (a := 2) rfl; have a1 := lv_neT h13_3 (a := 3) rfl; have a2 := lv_neT h13_4 (a := 4) rfl; have a3 := lv_neT h13_5 (a := 5) rfl; omega) (by decide) ?_
  refine Go.iload_n dX9_top_66 rfl ?_
  refine Go.ireturn .int dX9_top_67 rfl rfl ?_
  exact ⟨congrArg (fun z => some (vI z)) (by unfold tpF topF; (repeat' split) <;> first | rfl | (exfalso; (try simp only [sI_lt, sI_le, sI_eq, nT, Int32.toInt_zero, tI_n1, tI_NONE] at *); omega)), rfl⟩
theorem m_worth {V : VV} {d : Nat} {μ : Memo} {s : Nat → Int32} (hs : μ 77 = s) (c : Nat) (hc : c < 30) : Ret V (d + 1) mX9_worth [vR 76, vI (nI c)] μ (some (vI (worthF (s (11 + 4 * c)) (s (11 + 4 * c + 1))))) μ := by
  show Go V (d + 1) mX9_worth 0 [some (vR 76), some (vI (nI c)), none] [] μ _
  refine Go.aload_n dX9_worth_0 rfl ?_
  refine Go.iload_n dX9_worth_1 rfl ?_
  refine Go.iconst (v := nI 1) dX9_worth_2 rfl ?_
  refine Go.callVi 76 [vI (nI c), vI (nI 1)] [] dX9_worth_3 lkX9_70 (Or.inl ⟨_, _, _, rfl, rfl, rfl⟩) rfl (Nat.le_of_ble_eq_true rfl) rfl (Nat.le_of_ble_eq_true rfl) (m_of hs c 1 hc (by decide)) ?_
  refine Go.istore_n (ls' := [some (vR 76), some (vI (nI c)), some (vI (s (11 + 4 * c + 1)))]) dX9_worth_6 (by decide) rfl ?_
  refine Go.aload_n dX9_worth_7 rfl ?_
  refine Go.at 8 rfl ?_
  refine Go.iload_n dX9_worth_8 rfl ?_
  refine Go.iconst (v := nI 0) dX9_worth_9 rfl ?_
  refine Go.callVi 76 [vI (nI c), vI (nI 0)] [] dX9_worth_10 lkX9_70 (Or.inl ⟨_, _, _, rfl, rfl, rfl⟩) rfl (Nat.le_of_ble_eq_true rfl) rfl (Nat.le_of_ble_eq_true rfl) (m_of0 hs c hc) ?_
  by_cases h13_1 : s (11 + 4 * c) = nI 1
  · refine Go.tsw (tgt := 48) (nI 1) h13_1 dX9_worth_13 (by decide) (by decide) rfl (by decide) ?_
    refine Go.iload_n dX9_worth_48 rfl ?_
    refine Go.iconst (v := nI 3) dX9_worth_49 rfl ?_
    refine Go.iadd dX9_worth_50 ?_
    refine Go.ireturn .int dX9_worth_51 rfl rfl ?_
    exact ⟨congrArg (fun z => some (vI z)) (by unfold worthF; (try rw [w29]); (repeat' split) <;> first | rfl | (exfalso; (try simp only [sI_lt, sI_le, sI_eq, nT, Int32.toInt_zero, tI_n1, tI_NONE] at *); omega)), rfl⟩
  by_cases h13_2 : s (11 + 4 * c) = nI 2
  · refine Go.tsw (tgt := 52) (nI 2) h13_2 dX9_worth_13 (by decide) (by decide) rfl (by decide) ?_
    refine Go.bipush (v := nI 20) dX9_worth_52 rfl ?_
    refine Go.iload_n dX9_worth_54 rfl ?_
    refine Go.isub dX9_worth_55 ?_
    refine Go.ireturn .int dX9_worth_56 rfl rfl ?_
    exact ⟨congrArg (fun z => some (vI z)) (by unfold worthF; (try rw [w29]); (repeat' split) <;> first | rfl | (exfalso; (try simp only [sI_lt, sI_le, sI_eq, nT, Int32.toInt_zero, tI_n1, tI_NONE] at *); omega)), rfl⟩
  by_cases h13_3 : s (11 + 4 * c) = nI 3
  · refine Go.tsw (tgt := 57) (nI 3) h13_3 dX9_worth_13 (by decide) (by decide) rfl (by decide) ?_
    refine Go.iconst (v := nI 2) dX9_worth_57 rfl ?_
    refine Go.iload_n dX9_worth_58 rfl ?_
    refine Go.iconst (v := nI 3) dX9_worth_59 rfl ?_
    refine Go.iadd dX9_worth_60 ?_
    refine Go.imul dX9_worth_61 ?_
    refine Go.ireturn .int dX9_worth_62 rfl rfl ?_
    exact ⟨congrArg (fun z => some (vI z)) (by unfold worthF; (try rw [w29]); (repeat' split) <;> first | rfl | (exfalso; (try simp only [sI_lt, sI_le, sI_eq, nT, Int32.toInt_zero, tI_n1, tI_NONE] at *); omega)), rfl⟩
  by_cases h13_4 : s (11 + 4 * c) = nI 4
  · refine Go.tsw (tgt := 63) (nI 4) h13_4 dX9_worth_13 (by decide) (by decide) rfl (by decide) ?_
    refine Go.bipush (v := nI 29) dX9_worth_63 rfl ?_
    refine Go.iload_n dX9_worth_65 rfl ?_
    refine Go.isub dX9_worth_66 ?_
    refine Go.ireturn .int dX9_worth_67 rfl rfl ?_
    exact ⟨congrArg (fun z => some (vI z)) (by unfold worthF; (try rw [w29]); (repeat' split) <;> first | rfl | (exfalso; (try simp only [sI_lt, sI_le, sI_eq, nT, Int32.toInt_zero, tI_n1, tI_NONE] at *); omega)), rfl⟩
  by_cases h13_5 : s (11 + 4 * c) = nI 5
  · refine Go.tsw (tgt := 68) (nI 5) h13_5 dX9_worth_13 (by decide) (by decide) rfl (by decide) ?_
    refine Go.bipush (v := nI 50) dX9_worth_68 rfl ?_
    refine Go.ireturn .int dX9_worth_70 rfl rfl ?_
    exact ⟨congrArg (fun z => some (vI z)) (by unfold worthF; (try rw [w29]); (repeat' split) <;> first | rfl | (exfalso; (try simp only [sI_lt, sI_le, sI_eq, nT, Int32.toInt_zero, tI_n1, tI_NONE] at *); omega)), rfl⟩
  refine Go.tswD (tgt := 71) dX9_worth_13 (by have a0 := lv_neT h13_1 (a := 1) rfl; have a1 := lv_neT h13_2 (a := 2) rfl; have a2 := lv_neT h13_3 (a := 3) rfl; have a3 := lv_neT h13_4 (a := 4) rfl; have a4 := lv_neT h13_5 (a := 5) rfl; omega) (by decide) ?_
  refine Go.iload_n dX9_worth_71 rfl ?_
  refine Go.ireturn .int dX9_worth_72 rfl rfl ?_
  exact ⟨congrArg (fun z => some (vI z)) (by unfold worthF; (try rw [w29]); (repeat' split) <;> first | rfl | (exfalso; (try simp only [sI_lt, sI_le, sI_eq, nT, Int32.toInt_zero, tI_n1, tI_NONE] at *); omega)), rfl⟩
theorem m_law {V : VV} {d : Nat} {μ : Memo} {s : Nat → Int32} (hs : μ 77 = s) (hT : TxtsOK s) {key a b c : Int32} {l : Nat} (hl : lawN s key (nX s) = some l) (hn : ∀ v, nameP key v → μ 90 v.toNatClampNeg = envK key a b c v) :
    RetI V (d + 1) mX9_worked [vR 76, vI (nI l)] μ (valT s l (envK key a b c)) (Fr [91] μ) := by
  obtain ⟨h1, h2⟩ := lawN_lt hl
  have hok := hT.2.2 l h1
  refine (m_worked hs (Nat.lt_of_lt_of_le h1 hT.1) hok.2.1 hok.1 hok.2.2.2.1 hok.2.2.2.2).eq (val_any hok (fun v hv => ?_) _)
  exact hn v (by rw [← h2]; exact hv)
theorem nm0 {f : Nat → Int32} {a b c : Int32} (v : Int32) (hv : nameP (nI 0) v) : upd (upd (upd f 104 a) 100 b) 115 c v.toNatClampNeg = envK (nI 0) a b c v := by
  have h : v = nI 104 ∨ v = nI 100 ∨ v = nI 115 := hv
  rcases h with rfl | rfl | rfl <;> rfl
theorem nm1 {f : Nat → Int32} {a b c : Int32} (v : Int32) (hv : nameP (nI 1) v) : upd (upd f 99 a) 104 b v.toNatClampNeg = envK (nI 1) a b c v := by
  have h : v = nI 99 ∨ v = nI 104 := hv
  rcases h with rfl | rfl <;> rfl
theorem nm2 {f : Nat → Int32} {a b c : Int32} (v : Int32) (hv : nameP (nI 2) v) : upd (upd f 116 a) 104 b v.toNatClampNeg = envK (nI 2) a b c v := by
  have h : v = nI 116 ∨ v = nI 104 := hv
  rcases h with rfl | rfl <;> rfl
theorem m_level {V : VV} {d : Nat} {μ : Memo} {s : Nat → Int32} (hs : μ 77 = s) (hT : TxtsOK s) (t : Int32) : RetI V (d + 2) mX9_level [vR 76, vI t] μ (levelF s t) (Fr [90, 91] μ) := by
  show Go V (d + 2) mX9_level 0 [some (vR 76), some (vI t), none, none, none, none] [] μ _
  cases hl : lawN s (nI 0) (nX s) with
  | none =>
    refine Go.aload_n dX9_level_0 rfl ?_
    refine Go.getR dX9_level_1 flX9_7 rfl ?_
    refine Go.iconst (v := nI 2) dX9_level_4 rfl ?_
    refine Go.iaload 2 dX9_level_5 rfl (by omega) rfl ?_
    refine Go.topE (s 2) (congrFun hs _) ?_
    refine Go.iload_n dX9_level_6 rfl ?_
    refine Go.iadd dX9_level_7 ?_
    refine Go.at 8 rfl ?_
    refine Go.istore_n (ls' := [some (vR 76), some (vI t), some (vI ((s 2) + t)), none, none, none]) dX9_level_8 (by decide) rfl ?_
    refine Go.aload_n dX9_level_9 rfl ?_
    refine Go.iconst (v := nI 0) dX9_level_10 rfl ?_
    refine Go.callVi 76 [vI (nI 0)] [] dX9_level_11 lkX9_74 (Or.inl ⟨_, _, _, rfl, rfl, rfl⟩) rfl (Nat.le_of_ble_eq_true rfl) rfl (Nat.le_of_ble_eq_true rfl) (m_counts hs hT.2.1 hT.1 (nI 0)) ?_
    refine Go.topE (y := (-1)) (by rw [hl]; rfl) ?_
    refine Go.istore_n (ls' := [some (vR 76), some (vI t), some (vI ((s 2) + t)), some (vI (-1)), none, none]) dX9_level_14 (by decide) rfl ?_
    refine Go.iload_n dX9_level_15 rfl ?_
    refine Go.at 16 rfl ?_
    refine Go.if_lt_t (tgt := 66) dX9_level_16 (by decide) (by decide) ?_
    refine Go.iload_n dX9_level_66 rfl ?_
    refine Go.bipush (v := nI 12) dX9_level_67 rfl ?_
    refine Go.iremE dX9_level_69 (by decide) ?_
    refine Go.bipush (v := nI 6) dX9_level_70 rfl ?_
    refine Go.icmp_le (tgt := 85) dX9_level_72 (by decide) (fun h72 => ?_) (fun h72 => ?_)
    · -- 72 taken
      refine Go.iload_n dX9_level_85 rfl ?_
      refine Go.bipush (v := nI 12) dX9_level_86 rfl ?_
      refine Go.iremE dX9_level_88 (by decide) ?_
      refine Go.istore (ls' := [some (vR 76), some (vI t), some (vI ((s 2) + t)), some (vI (-1)), some (vI (irm ((s 2) + t) (nI 12))), none]) dX9_level_89 (by decide) rfl ?_
      refine Go.iload_n dX9_level_91 rfl ?_
      refine Go.bipush (v := nI 24) dX9_level_92 rfl ?_
      refine Go.at 94 rfl ?_
      refine Go.idiv dX9_level_94 (by decide) ?_
      refine Go.bipush (v := nI 15) dX9_level_95 rfl ?_
      refine Go.iremE dX9_level_97 (by decide) ?_
      refine Go.if_ne (tgt := 111) dX9_level_98 (by decide) (fun h98 => ?_) (fun h98 => ?_)
      · -- 98 taken
        refine Go.iconst (v := nI 0) dX9_level_111 rfl ?_
        refine Go.istore (ls' := [some (vR 76), some (vI t), some (vI ((s 2) + t)), some (vI (-1)), some (vI (irm ((s 2) + t) (nI 12))), some (vI (nI 0))]) dX9_level_112 (by decide) rfl ?_
        refine Go.aload_n dX9_level_114 rfl ?_
        refine Go.getR dX9_level_115 flX9_7 rfl ?_
        refine Go.iconst (v := nI 5) dX9_level_118 rfl ?_
        refine Go.iaload 5 dX9_level_119 rfl (by omega) rfl ?_
        refine Go.topE (s 5) (congrFun hs _) ?_
        refine Go.at 120 rfl ?_
        refine Go.bipush (v := nI 6) dX9_level_120 rfl ?_
        refine Go.iload dX9_level_122 rfl ?_
        refine Go.isub dX9_level_124 ?_
        refine Go.imul dX9_level_125 ?_
        refine Go.aload_n dX9_level_126 rfl ?_
        refine Go.getR dX9_level_127 flX9_7 rfl ?_
        refine Go.at 130 rfl ?_
        refine Go.bipush (v := nI 6) dX9_level_130 rfl ?_
        refine Go.iaload 6 dX9_level_132 rfl (by omega) rfl ?_
        refine Go.topE (s 6) (congrFun hs _) ?_
        refine Go.iload dX9_level_133 rfl ?_
        refine Go.imul dX9_level_135 ?_
        refine Go.iadd dX9_level_136 ?_
        refine Go.bipush (v := nI 6) dX9_level_137 rfl ?_
        refine Go.at 139 rfl ?_
        refine Go.idiv dX9_level_139 (by decide) ?_
        refine Go.iload dX9_level_140 rfl ?_
        refine Go.iadd dX9_level_142 ?_
        refine Go.aload_n dX9_level_143 rfl ?_
        refine Go.getR dX9_level_144 flX9_7 rfl ?_
        refine Go.bipush (v := nI 8) dX9_level_147 rfl ?_
        refine Go.at 149 rfl ?_
        refine Go.iaload 8 dX9_level_149 rfl (by omega) rfl ?_
        refine Go.topE (s 8) (congrFun hs _) ?_
        refine Go.iadd dX9_level_150 ?_
        refine Go.ireturn .int dX9_level_151 rfl rfl ?_
        exact ⟨by unfold levelF; rw [hl]; refine congrArg (fun z => some (vI z)) ?_; unfold plainF; simp only [h72, h98, if_true, if_false], Fr.rf _ _⟩
      · -- 98 not
        refine Go.aload_n dX9_level_101 rfl ?_
        refine Go.getR dX9_level_102 flX9_7 rfl ?_
        refine Go.bipush (v := nI 7) dX9_level_105 rfl ?_
        refine Go.iaload 7 dX9_level_107 rfl (by omega) rfl ?_
        refine Go.topE (s 7) (congrFun hs _) ?_
        refine Go.goto (tgt := 112) dX9_level_108 (by decide) ?_
        refine Go.istore (ls' := [some (vR 76), some (vI t), some (vI ((s 2) + t)), some (vI (-1)), some (vI (irm ((s 2) + t) (nI 12))), some (vI (s 7))]) dX9_level_112 (by decide) rfl ?_
        refine Go.at 114 rfl ?_
        refine Go.aload_n dX9_level_114 rfl ?_
        refine Go.getR dX9_level_115 flX9_7 rfl ?_
        refine Go.iconst (v := nI 5) dX9_level_118 rfl ?_
        refine Go.iaload 5 dX9_level_119 rfl (by omega) rfl ?_
        refine Go.topE (s 5) (congrFun hs _) ?_
        refine Go.bipush (v := nI 6) dX9_level_120 rfl ?_
        refine Go.iload dX9_level_122 rfl ?_
        refine Go.at 124 rfl ?_
        refine Go.isub dX9_level_124 ?_
        refine Go.imul dX9_level_125 ?_
        refine Go.aload_n dX9_level_126 rfl ?_
        refine Go.getR dX9_level_127 flX9_7 rfl ?_
        refine Go.bipush (v := nI 6) dX9_level_130 rfl ?_
        refine Go.iaload 6 dX9_level_132 rfl (by omega) rfl ?_
        refine Go.topE (s 6) (congrFun hs _) ?_
        refine Go.at 133 rfl ?_
        refine Go.iload dX9_level_133 rfl ?_
        refine Go.imul dX9_level_135 ?_
        refine Go.iadd dX9_level_136 ?_
        refine Go.bipush (v := nI 6) dX9_level_137 rfl ?_
        refine Go.idiv dX9_level_139 (by decide) ?_
        refine Go.iload dX9_level_140 rfl ?_
        refine Go.at 142 rfl ?_
        refine Go.iadd dX9_level_142 ?_
        refine Go.aload_n dX9_level_143 rfl ?_
        refine Go.getR dX9_level_144 flX9_7 rfl ?_
        refine Go.bipush (v := nI 8) dX9_level_147 rfl ?_
        refine Go.iaload 8 dX9_level_149 rfl (by omega) rfl ?_
        refine Go.topE (s 8) (congrFun hs _) ?_
        refine Go.iadd dX9_level_150 ?_
        refine Go.at 151 rfl ?_
        refine Go.ireturn .int dX9_level_151 rfl rfl ?_
        exact ⟨by unfold levelF; rw [hl]; refine congrArg (fun z => some (vI z)) ?_; unfold plainF; simp only [h72, h98, if_true, if_false], Fr.rf _ _⟩
    · -- 72 not
      refine Go.bipush (v := nI 12) dX9_level_75 rfl ?_
      refine Go.iload_n dX9_level_77 rfl ?_
      refine Go.bipush (v := nI 12) dX9_level_78 rfl ?_
      refine Go.iremE dX9_level_80 (by decide) ?_
      refine Go.isub dX9_level_81 ?_
      refine Go.goto (tgt := 89) dX9_level_82 (by decide) ?_
      refine Go.at 89 rfl ?_
      refine Go.istore (ls' := [some (vR 76), some (vI t), some (vI ((s 2) + t)), some (vI (-1)), some (vI ((nI 12) - (irm ((s 2) + t) (nI 12)))), none]) dX9_level_89 (by decide) rfl ?_
      refine Go.iload_n dX9_level_91 rfl ?_
      refine Go.bipush (v := nI 24) dX9_level_92 rfl ?_
      refine Go.idiv dX9_level_94 (by decide) ?_
      refine Go.bipush (v := nI 15) dX9_level_95 rfl ?_
      refine Go.iremE dX9_level_97 (by decide) ?_
      refine Go.at 98 rfl ?_
      refine Go.if_ne (tgt := 111) dX9_level_98 (by decide) (fun h98 => ?_) (fun h98 => ?_)
      · -- 98 taken
        refine Go.iconst (v := nI 0) dX9_level_111 rfl ?_
        refine Go.istore (ls' := [some (vR 76), some (vI t), some (vI ((s 2) + t)), some (vI (-1)), some (vI ((nI 12) - (irm ((s 2) + t) (nI 12)))), some (vI (nI 0))]) dX9_level_112 (by decide) rfl ?_
        refine Go.aload_n dX9_level_114 rfl ?_
        refine Go.getR dX9_level_115 flX9_7 rfl ?_
        refine Go.iconst (v := nI 5) dX9_level_118 rfl ?_
        refine Go.iaload 5 dX9_level_119 rfl (by omega) rfl ?_
        refine Go.topE (s 5) (congrFun hs _) ?_
        refine Go.at 120 rfl ?_
        refine Go.bipush (v := nI 6) dX9_level_120 rfl ?_
        refine Go.iload dX9_level_122 rfl ?_
        refine Go.isub dX9_level_124 ?_
        refine Go.imul dX9_level_125 ?_
        refine Go.aload_n dX9_level_126 rfl ?_
        refine Go.getR dX9_level_127 flX9_7 rfl ?_
        refine Go.at 130 rfl ?_
        refine Go.bipush (v := nI 6) dX9_level_130 rfl ?_
        refine Go.iaload 6 dX9_level_132 rfl (by omega) rfl ?_
        refine Go.topE (s 6) (congrFun hs _) ?_
        refine Go.iload dX9_level_133 rfl ?_
        refine Go.imul dX9_level_135 ?_
        refine Go.iadd dX9_level_136 ?_
        refine Go.bipush (v := nI 6) dX9_level_137 rfl ?_
        refine Go.at 139 rfl ?_
        refine Go.idiv dX9_level_139 (by decide) ?_
        refine Go.iload dX9_level_140 rfl ?_
        refine Go.iadd dX9_level_142 ?_
        refine Go.aload_n dX9_level_143 rfl ?_
        refine Go.getR dX9_level_144 flX9_7 rfl ?_
        refine Go.bipush (v := nI 8) dX9_level_147 rfl ?_
        refine Go.at 149 rfl ?_
        refine Go.iaload 8 dX9_level_149 rfl (by omega) rfl ?_
        refine Go.topE (s 8) (congrFun hs _) ?_
        refine Go.iadd dX9_level_150 ?_
        refine Go.ireturn .int dX9_level_151 rfl rfl ?_
        exact ⟨by unfold levelF; rw [hl]; refine congrArg (fun z => some (vI z)) ?_; unfold plainF; simp only [h72, h98, if_true, if_false], Fr.rf _ _⟩
      · -- 98 not
        refine Go.aload_n dX9_level_101 rfl ?_
        refine Go.getR dX9_level_102 flX9_7 rfl ?_
        refine Go.bipush (v := nI 7) dX9_level_105 rfl ?_
        refine Go.iaload 7 dX9_level_107 rfl (by omega) rfl ?_
        refine Go.topE (s 7) (congrFun hs _) ?_
        refine Go.goto (tgt := 112) dX9_level_108 (by decide) ?_
        refine Go.istore (ls' := [some (vR 76), some (vI t), some (vI ((s 2) + t)), some (vI (-1)), some (vI ((nI 12) - (irm ((s 2) + t) (nI 12)))), some (vI (s 7))]) dX9_level_112 (by decide) rfl ?_
        refine Go.at 114 rfl ?_
        refine Go.aload_n dX9_level_114 rfl ?_
        refine Go.getR dX9_level_115 flX9_7 rfl ?_
        refine Go.iconst (v := nI 5) dX9_level_118 rfl ?_
        refine Go.iaload 5 dX9_level_119 rfl (by omega) rfl ?_
        refine Go.topE (s 5) (congrFun hs _) ?_
        refine Go.bipush (v := nI 6) dX9_level_120 rfl ?_
        refine Go.iload dX9_level_122 rfl ?_
        refine Go.at 124 rfl ?_
        refine Go.isub dX9_level_124 ?_
        refine Go.imul dX9_level_125 ?_
        refine Go.aload_n dX9_level_126 rfl ?_
        refine Go.getR dX9_level_127 flX9_7 rfl ?_
        refine Go.bipush (v := nI 6) dX9_level_130 rfl ?_
        refine Go.iaload 6 dX9_level_132 rfl (by omega) rfl ?_
        refine Go.topE (s 6) (congrFun hs _) ?_
        refine Go.at 133 rfl ?_
        refine Go.iload dX9_level_133 rfl ?_
        refine Go.imul dX9_level_135 ?_
        refine Go.iadd dX9_level_136 ?_
        refine Go.bipush (v := nI 6) dX9_level_137 rfl ?_
        refine Go.idiv dX9_level_139 (by decide) ?_
        refine Go.iload dX9_level_140 rfl ?_
        refine Go.at 142 rfl ?_
        refine Go.iadd dX9_level_142 ?_
        refine Go.aload_n dX9_level_143 rfl ?_
        refine Go.getR dX9_level_144 flX9_7 rfl ?_
        refine Go.bipush (v := nI 8) dX9_level_147 rfl ?_
        refine Go.iaload 8 dX9_level_149 rfl (by omega) rfl ?_
        refine Go.topE (s 8) (congrFun hs _) ?_
        refine Go.iadd dX9_level_150 ?_
        refine Go.at 151 rfl ?_
        refine Go.ireturn .int dX9_level_151 rfl rfl ?_
        exact ⟨by unfold levelF; rw [hl]; refine congrArg (fun z => some (vI z)) ?_; unfold plainF; simp only [h72, h98, if_true, if_false], Fr.rf _ _⟩
  | some l =>
    have hl14 : l < 14 := Nat.lt_of_lt_of_le (lawN_lt hl).1 hT.1
    refine Go.aload_n dX9_level_0 rfl ?_
    refine Go.getR dX9_level_1 flX9_7 rfl ?_
    refine Go.iconst (v := nI 2) dX9_level_4 rfl ?_
    refine Go.iaload 2 dX9_level_5 rfl (by omega) rfl ?_
    refine Go.topE (s 2) (congrFun hs _) ?_
    refine Go.iload_n dX9_level_6 rfl ?_
    refine Go.iadd dX9_level_7 ?_
    refine Go.at 8 rfl ?_
    refine Go.istore_n (ls' := [some (vR 76), some (vI t), some (vI ((s 2) + t)), none, none, none]) dX9_level_8 (by decide) rfl ?_
    refine Go.aload_n dX9_level_9 rfl ?_
    refine Go.iconst (v := nI 0) dX9_level_10 rfl ?_
    refine Go.callVi 76 [vI (nI 0)] [] dX9_level_11 lkX9_74 (Or.inl ⟨_, _, _, rfl, rfl, rfl⟩) rfl (Nat.le_of_ble_eq_true rfl) rfl (Nat.le_of_ble_eq_true rfl) (m_counts hs hT.2.1 hT.1 (nI 0)) ?_
    refine Go.topE (y := nI l) (by rw [hl]; rfl) ?_
    refine Go.istore_n (ls' := [some (vR 76), some (vI t), some (vI ((s 2) + t)), some (vI (nI l)), none, none]) dX9_level_14 (by decide) rfl ?_
    refine Go.iload_n dX9_level_15 rfl ?_
    refine Go.at 16 rfl ?_
    refine Go.if_lt_f (tgt := 66) dX9_level_16 (by decide) (nI_pos (by omega)) ?_
    refine Go.aload_n dX9_level_19 rfl ?_
    refine Go.getR dX9_level_20 flX9_49 rfl ?_
    refine Go.bipush (v := nI 104) dX9_level_23 rfl ?_
    refine Go.iload_n dX9_level_25 rfl ?_
    refine Go.bipush (v := nI 24) dX9_level_26 rfl ?_
    refine Go.at 28 rfl ?_
    refine Go.iremE dX9_level_28 (by decide) ?_
    refine Go.iastore 104 dX9_level_29 rfl (by omega) rfl ?_
    refine Go.aload_n dX9_level_30 rfl ?_
    refine Go.getR dX9_level_31 flX9_49 rfl ?_
    refine Go.bipush (v := nI 100) dX9_level_34 rfl ?_
    refine Go.iload_n dX9_level_36 rfl ?_
    refine Go.at 37 rfl ?_
    refine Go.bipush (v := nI 24) dX9_level_37 rfl ?_
    refine Go.idiv dX9_level_39 (by decide) ?_
    refine Go.iastore 100 dX9_level_40 rfl (by omega) rfl ?_
    refine Go.aload_n dX9_level_41 rfl ?_
    refine Go.getR dX9_level_42 flX9_49 rfl ?_
    refine Go.bipush (v := nI 115) dX9_level_45 rfl ?_
    refine Go.at 47 rfl ?_
    refine Go.aload_n dX9_level_47 rfl ?_
    refine Go.getR dX9_level_48 flX9_7 rfl ?_
    refine Go.bipush (v := nI 8) dX9_level_51 rfl ?_
    refine Go.iaload 8 dX9_level_53 rfl (by omega) rfl ?_
    refine Go.topE (s 8) (congrFun ((ms_ne _ _ _ (by decide)).trans ((ms_ne _ _ _ (by decide)).trans hs)) _) ?_
    refine Go.iastore 115 dX9_level_54 rfl (by omega) rfl ?_
    refine Go.aload_n dX9_level_55 rfl ?_
    refine Go.at 56 rfl ?_
    refine Go.iload_n dX9_level_56 rfl ?_
    refine Go.callVx 76 [vI (nI l)] [] dX9_level_57 lkX9_81 (Or.inl ⟨_, _, _, rfl, rfl, rfl⟩) rfl (Nat.le_of_ble_eq_true rfl) rfl (Nat.le_of_ble_eq_true rfl) (m_law (c := (s 8)) ((ms_ne _ _ _ (by decide)).trans ((ms_ne _ _ _ (by decide)).trans ((ms_ne _ _ _ (by decide)).trans hs))) hT hl (fun v hv => (by simp only [ms_self]; exact nm0 v hv))) (fun μ9 k9 => ?_)
    refine Go.bipush (v := nI 40) dX9_level_60 rfl ?_
    refine Go.callSi [vI (valT s l (envK (nI 0) (irm (s 2 + t) (nI 24)) ((s 2 + t) / nI 24) (s 8))), vI (nI 40)] [] dX9_level_62 lkX9_84 rfl (Nat.le_of_ble_eq_true rfl) rfl (Nat.le_of_ble_eq_true rfl) (m_within (valT s l (envK (nI 0) (irm (s 2 + t) (nI 24)) ((s 2 + t) / nI 24) (s 8))) (nI 40)) ?_
    refine Go.ireturn .int dX9_level_65 rfl rfl ?_
    exact ⟨by unfold levelF; rw [hl], ((Fr.wide (Fr.ms (Fr.ms (Fr.ms (Fr.rf _ _) _ _ (by decide)) _ _ (by decide)) _ _ (by decide)) (by decide : ∀ o, o ∈ [90] → o ∈ [90, 91])).trans (k9.wide (by decide)))⟩
theorem m_grows {V : VV} {d : Nat} {μ : Memo} {s : Nat → Int32} (hs : μ 77 = s) (hT : TxtsOK s) (c : Nat) (hc : c < 30) : RetI V (d + 2) mX9_grows [vR 76, vI (nI c)] μ (growF s c) (Fr [90, 91] μ) := by
  show Go V (d + 2) mX9_grows 0 [some (vR 76), some (vI (nI c)), none] [] μ _
  cases hl : lawN s (nI 1) (nX s) with
  | none =>
    refine Go.aload_n dX9_grows_0 rfl ?_
    refine Go.iconst (v := nI 1) dX9_grows_1 rfl ?_
    refine Go.callVi 76 [vI (nI 1)] [] dX9_grows_2 lkX9_74 (Or.inl ⟨_, _, _, rfl, rfl, rfl⟩) rfl (Nat.le_of_ble_eq_true rfl) rfl (Nat.le_of_ble_eq_true rfl) (m_counts hs hT.2.1 hT.1 (nI 1)) ?_
    refine Go.topE (y := (-1)) (by rw [hl]; rfl) ?_
    refine Go.istore_n (ls' := [some (vR 76), some (vI (nI c)), some (vI (-1))]) dX9_grows_5 (by decide) rfl ?_
    refine Go.iload_n dX9_grows_6 rfl ?_
    refine Go.if_ge_f (tgt := 12) dX9_grows_7 (by decide) (by decide) ?_
    refine Go.at 10 rfl ?_
    refine Go.iconst (v := nI 1) dX9_grows_10 rfl ?_
    refine Go.ireturn .int dX9_grows_11 rfl rfl ?_
    exact ⟨by unfold growF; rw [hl], Fr.rf _ _⟩
  | some l =>
    have hl14 : l < 14 := Nat.lt_of_lt_of_le (lawN_lt hl).1 hT.1
    refine Go.aload_n dX9_grows_0 rfl ?_
    refine Go.iconst (v := nI 1) dX9_grows_1 rfl ?_
    refine Go.callVi 76 [vI (nI 1)] [] dX9_grows_2 lkX9_74 (Or.inl ⟨_, _, _, rfl, rfl, rfl⟩) rfl (Nat.le_of_ble_eq_true rfl) rfl (Nat.le_of_ble_eq_true rfl) (m_counts hs hT.2.1 hT.1 (nI 1)) ?_
    refine Go.topE (y := nI l) (by rw [hl]; rfl) ?_
    refine Go.istore_n (ls' := [some (vR 76), some (vI (nI c)), some (vI (nI l))]) dX9_grows_5 (by decide) rfl ?_
    refine Go.iload_n dX9_grows_6 rfl ?_
    refine Go.if_ge_t (tgt := 12) dX9_grows_7 (by decide) (nI_pos' (by omega)) ?_
    refine Go.at 12 rfl ?_
    refine Go.aload_n dX9_grows_12 rfl ?_
    refine Go.getR dX9_grows_13 flX9_49 rfl ?_
    refine Go.bipush (v := nI 99) dX9_grows_16 rfl ?_
    refine Go.aload_n dX9_grows_18 rfl ?_
    refine Go.iload_n dX9_grows_19 rfl ?_
    refine Go.iconst (v := nI 2) dX9_grows_20 rfl ?_
    refine Go.at 21 rfl ?_
    refine Go.callVi 76 [vI (nI c), vI (nI 2)] [vI (nI 99), vR 90] dX9_grows_21 lkX9_70 (Or.inl ⟨_, _, _, rfl, rfl, rfl⟩) rfl (Nat.le_of_ble_eq_true rfl) rfl (Nat.le_of_ble_eq_true rfl) (m_of hs c 2 hc (by decide)) ?_
    refine Go.iastore 99 dX9_grows_24 rfl (by omega) rfl ?_
    refine Go.aload_n dX9_grows_25 rfl ?_
    refine Go.getR dX9_grows_26 flX9_49 rfl ?_
    refine Go.bipush (v := nI 104) dX9_grows_29 rfl ?_
    refine Go.aload_n dX9_grows_31 rfl ?_
    refine Go.at 32 rfl ?_
    refine Go.iload_n dX9_grows_32 rfl ?_
    refine Go.iconst (v := nI 1) dX9_grows_33 rfl ?_
    refine Go.callVi 76 [vI (nI c), vI (nI 1)] [vI (nI 104), vR 90] dX9_grows_34 lkX9_70 (Or.inl ⟨_, _, _, rfl, rfl, rfl⟩) rfl (Nat.le_of_ble_eq_true rfl) rfl (Nat.le_of_ble_eq_true rfl) (m_of ((ms_ne _ _ _ (by decide)).trans hs) c 1 hc (by decide)) ?_
    refine Go.iastore 104 dX9_grows_37 rfl (by omega) rfl ?_
    refine Go.aload_n dX9_grows_38 rfl ?_
    refine Go.iload_n dX9_grows_39 rfl ?_
    refine Go.at 40 rfl ?_
    refine Go.callVx 76 [vI (nI l)] [] dX9_grows_40 lkX9_81 (Or.inl ⟨_, _, _, rfl, rfl, rfl⟩) rfl (Nat.le_of_ble_eq_true rfl) rfl (Nat.le_of_ble_eq_true rfl) (m_law (c := (nI 0)) ((ms_ne _ _ _ (by decide)).trans ((ms_ne _ _ _ (by decide)).trans hs)) hT hl (fun v hv => (by simp only [ms_self]; exact nm1 v hv))) (fun μ9 k9 => ?_)
    refine Go.bipush (v := nI 9) dX9_grows_43 rfl ?_
    refine Go.callSi [vI (valT s l (envK (nI 1) (s (11 + 4 * c + 2)) (s (11 + 4 * c + 1)) (nI 0))), vI (nI 9)] [] dX9_grows_45 lkX9_84 rfl (Nat.le_of_ble_eq_true rfl) rfl (Nat.le_of_ble_eq_true rfl) (m_within (valT s l (envK (nI 1) (s (11 + 4 * c + 2)) (s (11 + 4 * c + 1)) (nI 0))) (nI 9)) ?_
    refine Go.ireturn .int dX9_grows_48 rfl rfl ?_
    exact ⟨by unfold growF; rw [hl], ((Fr.wide (Fr.ms (Fr.ms (Fr.rf _ _) _ _ (by decide)) _ _ (by decide)) (by decide : ∀ o, o ∈ [90] → o ∈ [90, 91])).trans (k9.wide (by decide)))⟩
theorem room_eq {k r co : Int32} (hr : 0 ≤ r.toInt ∧ r.toInt ≤ 99) (hc : 0 ≤ co.toInt ∧ co.toInt ≤ 99) : wiF (r - co / nI 10) (nI 99) = maxI (nI 0) (r - co / nI 10) ∧ wiF (r - nI 4) (nI 99) = maxI (nI 0) (r - nI 4) := by
  have hd := div10 hc.1 hc.2
  have key : ∀ x : Int32, x.toInt ≤ 99 → wiF x (nI 99) = maxI (nI 0) x := by
    intro x hx
    unfold wiF maxI
    simp only [sI_lt, nT, Int32.toInt_zero]
    (repeat' split) <;> first | rfl | (exfalso; omega) | (apply Int32.toInt_inj.mp; (try simp only [nT]); omega)
  exact ⟨key _ (by rw [tI_sub]; omega), key _ (by rw [tI_sub, nT]; omega)⟩
def CornOK (s : Nat → Int32) : Prop := ∀ c, c < 30 → 0 ≤ (s (11 + 4 * c + 2)).toInt ∧ (s (11 + 4 * c + 2)).toInt ≤ 99
theorem landF_rng (s : Nat → Int32) (c : Nat) : 0 ≤ (landF s c).toInt ∧ (landF s c).toInt ≤ 99 := by
  unfold landF
  split
  · rw [nT]; decide
  · exact wiF_rng _ _ (by decide)
theorem m_room {V : VV} {d : Nat} {μ : Memo} {s : Nat → Int32} (hs : μ 77 = s) (hT : TxtsOK s) (hCo : CornOK s) (c : Nat) (hc : c < 30) : RetI V (d + 2) mX9_room [vR 76, vI (nI c)] μ (roomF s c) (Fr [90, 91] μ) := by
  show Go V (d + 2) mX9_room 0 [some (vR 76), some (vI (nI c)), none, none, none] [] μ _
  have hr := landF_rng s c
  cases hl : lawN s (nI 2) (nX s) with
  | none =>
    have hld : landF s c = nI 10 := by unfold landF; rw [hl]
    rw [hld] at hr
    refine Go.bipush (v := nI 10) dX9_room_0 rfl ?_
    refine Go.istore_n (ls' := [some (vR 76), some (vI (nI c)), some (vI (nI 10)), none, none]) dX9_room_2 (by decide) rfl ?_
    refine Go.aload_n dX9_room_3 rfl ?_
    refine Go.iconst (v := nI 2) dX9_room_4 rfl ?_
    refine Go.callVi 76 [vI (nI 2)] [] dX9_room_5 lkX9_74 (Or.inl ⟨_, _, _, rfl, rfl, rfl⟩) rfl (Nat.le_of_ble_eq_true rfl) rfl (Nat.le_of_ble_eq_true rfl) (m_counts hs hT.2.1 hT.1 (nI 2)) ?_
    refine Go.topE (y := (-1)) (by rw [hl]; rfl) ?_
    refine Go.istore_n (ls' := [some (vR 76), some (vI (nI c)), some (vI (nI 10)), some (vI (-1)), none]) dX9_room_8 (by decide) rfl ?_
    refine Go.at 9 rfl ?_
    refine Go.iload_n dX9_room_9 rfl ?_
    refine Go.if_lt_t (tgt := 49) dX9_room_10 (by decide) (by decide) ?_
    refine Go.iload_n dX9_room_49 rfl ?_
    refine Go.aload_n dX9_room_50 rfl ?_
    refine Go.iload_n dX9_room_51 rfl ?_
    refine Go.iconst (v := nI 2) dX9_room_52 rfl ?_
    refine Go.at 53 rfl ?_
    refine Go.callVi 76 [vI (nI c), vI (nI 2)] [vI (nI 10)] dX9_room_53 lkX9_70 (Or.inl ⟨_, _, _, rfl, rfl, rfl⟩) rfl (Nat.le_of_ble_eq_true rfl) rfl (Nat.le_of_ble_eq_true rfl) (m_of hs c 2 hc (by decide)) ?_
    refine Go.bipush (v := nI 10) dX9_room_56 rfl ?_
    refine Go.idiv dX9_room_58 (by decide) ?_
    refine Go.isub dX9_room_59 ?_
    refine Go.bipush (v := nI 99) dX9_room_60 rfl ?_
    refine Go.callSi [vI ((nI 10) - ((s (11 + 4 * c + 2)) / (nI 10))), vI (nI 99)] [] dX9_room_62 lkX9_84 rfl (Nat.le_of_ble_eq_true rfl) rfl (Nat.le_of_ble_eq_true rfl) (m_within ((nI 10) - ((s (11 + 4 * c + 2)) / (nI 10))) (nI 99)) ?_
    refine Go.at 65 rfl ?_
    refine Go.istore (ls' := [some (vR 76), some (vI (nI c)), some (vI (nI 10)), some (vI (-1)), some (vI (wiF ((nI 10) - ((s (11 + 4 * c + 2)) / (nI 10))) (nI 99)))]) dX9_room_65 (by decide) rfl ?_
    refine Go.aload_n dX9_room_67 rfl ?_
    refine Go.iload_n dX9_room_68 rfl ?_
    refine Go.iconst (v := nI 0) dX9_room_69 rfl ?_
    refine Go.callVi 76 [vI (nI c), vI (nI 0)] [] dX9_room_70 lkX9_70 (Or.inl ⟨_, _, _, rfl, rfl, rfl⟩) rfl (Nat.le_of_ble_eq_true rfl) rfl (Nat.le_of_ble_eq_true rfl) (m_of0 hs c hc) ?_
    by_cases h73_1 : s (11 + 4 * c) = nI 1
    · refine Go.tsw (tgt := 108) (nI 1) h73_1 dX9_room_73 (by decide) (by decide) rfl (by decide) ?_
      refine Go.iload dX9_room_108 rfl ?_
      refine Go.ireturn .int dX9_room_110 rfl rfl ?_
      exact ⟨congrArg (fun z => some (vI z)) (by unfold roomF roomC; rw [hld]; (try simp only [(room_eq (k := 0) hr (hCo c hc)).1, (room_eq (k := 0) hr (hCo c hc)).2]); (repeat' split) <;> first | with_reducible rfl | contradiction | (exfalso; (try simp only [sI_lt, sI_le, sI_eq, nT, Int32.toInt_zero, tI_n1, tI_NONE] at *); omega)), Fr.rf _ _⟩
    by_cases h73_2 : s (11 + 4 * c) = nI 2
    · refine Go.tsw (tgt := 116) (nI 2) h73_2 dX9_room_73 (by decide) (by decide) rfl (by decide) ?_
      refine Go.iload_n dX9_room_116 rfl ?_
      refine Go.iconst (v := nI 4) dX9_room_117 rfl ?_
      refine Go.isub dX9_room_118 ?_
      refine Go.bipush (v := nI 99) dX9_room_119 rfl ?_
      refine Go.callSi [vI ((nI 10) - (nI 4)), vI (nI 99)] [] dX9_room_121 lkX9_84 rfl (Nat.le_of_ble_eq_true rfl) rfl (Nat.le_of_ble_eq_true rfl) (m_within ((nI 10) - (nI 4)) (nI 99)) ?_
      refine Go.ireturn .int dX9_room_124 rfl rfl ?_
      exact ⟨congrArg (fun z => some (vI z)) (by unfold roomF roomC; rw [hld]; (try simp only [(room_eq (k := 0) hr (hCo c hc)).1, (room_eq (k := 0) hr (hCo c hc)).2]); (repeat' split) <;> first | with_reducible rfl | contradiction | (exfalso; (try simp only [sI_lt, sI_le, sI_eq, nT, Int32.toInt_zero, tI_n1, tI_NONE] at *); omega)), Fr.rf _ _⟩
    by_cases h73_3 : s (11 + 4 * c) = nI 3
    · refine Go.tsw (tgt := 111) (nI 3) h73_3 dX9_room_73 (by decide) (by decide) rfl (by decide) ?_
      refine Go.iload dX9_room_111 rfl ?_
      refine Go.iconst (v := nI 2) dX9_room_113 rfl ?_
      refine Go.idiv dX9_room_114 (by decide) ?_
      refine Go.ireturn .int dX9_room_115 rfl rfl ?_
      exact ⟨congrArg (fun z => some (vI z)) (by unfold roomF roomC; rw [hld]; (try simp only [(room_eq (k := 0) hr (hCo c hc)).1, (room_eq (k := 0) hr (hCo c hc)).2]); (repeat' split) <;> first | with_reducible rfl | contradiction | (exfalso; (try simp only [sI_lt, sI_le, sI_eq, nT, Int32.toInt_zero, tI_n1, tI_NONE] at *); omega)), Fr.rf _ _⟩
    by_cases h73_4 : s (11 + 4 * c) = nI 4
    · refine Go.tsw (tgt := 116) (nI 4) h73_4 dX9_room_73 (by decide) (by decide) rfl (by decide) ?_
      refine Go.iload_n dX9_room_116 rfl ?_
      refine Go.iconst (v := nI 4) dX9_room_117 rfl ?_
      refine Go.isub dX9_room_118 ?_
      refine Go.bipush (v := nI 99) dX9_room_119 rfl ?_
      refine Go.callSi [vI ((nI 10) - (nI 4)), vI (nI 99)] [] dX9_room_121 lkX9_84 rfl (Nat.le_of_ble_eq_true rfl) rfl (Nat.le_of_ble_eq_true rfl) (m_within ((nI 10) - (nI 4)) (nI 99)) ?_
      refine Go.ireturn .int dX9_room_124 rfl rfl ?_
      exact ⟨congrArg (fun z => some (vI z)) (by unfold roomF roomC; rw [hld]; (try simp only [(room_eq (k := 0) hr (hCo c hc)).1, (room_eq (k := 0) hr (hCo c hc)).2]); (repeat' split) <;> first | with_reducible rfl | contradiction | (exfalso; (try simp only [sI_lt, sI_le, sI_eq, nT, Int32.toInt_zero, tI_n1, tI_NONE] at *); omega)), Fr.rf _ _⟩
    by_cases h73_5 : s (11 + 4 * c) = nI 5
    · refine Go.tsw (tgt := 125) (nI 5) h73_5 dX9_room_73 (by decide) (by decide) rfl (by decide) ?_
      refine Go.iconst (v := nI 1) dX9_room_125 rfl ?_
      refine Go.ireturn .int dX9_room_126 rfl rfl ?_
      exact ⟨congrArg (fun z => some (vI z)) (by unfold roomF roomC; rw [hld]; (try simp only [(room_eq (k := 0) hr (hCo c hc)).1, (room_eq (k := 0) hr (hCo c hc)).2]); (repeat' split) <;> first | with_reducible rfl | contradiction | (exfalso; (try simp only [sI_lt, sI_le, sI_eq, nT, Int32.toInt_zero, tI_n1, tI_NONE] at *); omega)), Fr.rf _ _⟩
    refine Go.tswD (tgt := 127) dX9_room_73 (by have a0 := lv_neT h73_1 (a := 1) rfl; have a1 := lv_neT h73_2 (a := 2) rfl; have a2 := lv_neT h73_3 (a := 3) rfl; have a3 := lv_neT h73_4 (a := 4) rfl; have a4 := lv_neT h73_5 (a := 5) rfl; omega) (by decide) ?_
    refine Go.iload_n dX9_room_127 rfl ?_
    refine Go.ireturn .int dX9_room_128 rfl rfl ?_
    exact ⟨congrArg (fun z => some (vI z)) (by unfold roomF roomC; rw [hld]; (try simp only [(room_eq (k := 0) hr (hCo c hc)).1, (room_eq (k := 0) hr (hCo c hc)).2]); (repeat' split) <;> first | with_reducible rfl | contradiction | (exfalso; (try simp only [sI_lt, sI_le, sI_eq, nT, Int32.toInt_zero, tI_n1, tI_NONE] at *); omega)), Fr.rf _ _⟩
  | some l =>
    have hl14 : l < 14 := Nat.lt_of_lt_of_le (lawN_lt hl).1 hT.1
    have hld : landF s c = wiF (valT s l (envK (nI 2) (tpF s c) (s (11 + 4 * c + 1)) (nI 0))) (nI 99) := by unfold landF; rw [hl]
    rw [hld] at hr
    refine Go.bipush (v := nI 10) dX9_room_0 rfl ?_
    refine Go.istore_n (ls' := [some (vR 76), some (vI (nI c)), some (vI (nI 10)), none, none]) dX9_room_2 (by decide) rfl ?_
    refine Go.aload_n dX9_room_3 rfl ?_
    refine Go.iconst (v := nI 2) dX9_room_4 rfl ?_
    refine Go.callVi 76 [vI (nI 2)] [] dX9_room_5 lkX9_74 (Or.inl ⟨_, _, _, rfl, rfl, rfl⟩) rfl (Nat.le_of_ble_eq_true rfl) rfl (Nat.le_of_ble_eq_true rfl) (m_counts hs hT.2.1 hT.1 (nI 2)) ?_
    refine Go.topE (y := nI l) (by rw [hl]; rfl) ?_
    refine Go.istore_n (ls' := [some (vR 76), some (vI (nI c)), some (vI (nI 10)), some (vI (nI l)), none]) dX9_room_8 (by decide) rfl ?_
    refine Go.at 9 rfl ?_
    refine Go.iload_n dX9_room_9 rfl ?_
    refine Go.if_lt_f (tgt := 49) dX9_room_10 (by decide) (nI_pos (by omega)) ?_
    refine Go.aload_n dX9_room_13 rfl ?_
    refine Go.getR dX9_room_14 flX9_49 rfl ?_
    refine Go.bipush (v := nI 116) dX9_room_17 rfl ?_
    refine Go.aload_n dX9_room_19 rfl ?_
    refine Go.at 20 rfl ?_
    refine Go.iload_n dX9_room_20 rfl ?_
    refine Go.callVi 76 [vI (nI c)] [vI (nI 116), vR 90] dX9_room_21 lkX9_78 (Or.inl ⟨_, _, _, rfl, rfl, rfl⟩) rfl (Nat.le_of_ble_eq_true rfl) rfl (Nat.le_of_ble_eq_true rfl) (m_top hs c hc) ?_
    refine Go.iastore 116 dX9_room_24 rfl (by omega) rfl ?_
    refine Go.aload_n dX9_room_25 rfl ?_
    refine Go.getR dX9_room_26 flX9_49 rfl ?_
    refine Go.bipush (v := nI 104) dX9_room_29 rfl ?_
    refine Go.at 31 rfl ?_
    refine Go.aload_n dX9_room_31 rfl ?_
    refine Go.iload_n dX9_room_32 rfl ?_
    refine Go.iconst (v := nI 1) dX9_room_33 rfl ?_
    refine Go.callVi 76 [vI (nI c), vI (nI 1)] [vI (nI 104), vR 90] dX9_room_34 lkX9_70 (Or.inl ⟨_, _, _, rfl, rfl, rfl⟩) rfl (Nat.le_of_ble_eq_true rfl) rfl (Nat.le_of_ble_eq_true rfl) (m_of ((ms_ne _ _ _ (by decide)).trans hs) c 1 hc (by decide)) ?_
    refine Go.iastore 104 dX9_room_37 rfl (by omega) rfl ?_
    refine Go.aload_n dX9_room_38 rfl ?_
    refine Go.at 39 rfl ?_
    refine Go.iload_n dX9_room_39 rfl ?_
    refine Go.callVx 76 [vI (nI l)] [] dX9_room_40 lkX9_81 (Or.inl ⟨_, _, _, rfl, rfl, rfl⟩) rfl (Nat.le_of_ble_eq_true rfl) rfl (Nat.le_of_ble_eq_true rfl) (m_law (c := (nI 0)) ((ms_ne _ _ _ (by decide)).trans ((ms_ne _ _ _ (by decide)).trans hs)) hT hl (fun v hv => (by simp only [ms_self]; exact nm2 v hv))) (fun μ9 k9 => ?_)
    have hs9 : μ9 77 = s := (k9 77 (by decide)).trans ((ms_ne _ _ _ (by decide)).trans ((ms_ne _ _ _ (by decide)).trans hs))
    refine Go.bipush (v := nI 99) dX9_room_43 rfl ?_
    refine Go.callSi [vI (valT s l (envK (nI 2) (tpF s c) (s (11 + 4 * c + 1)) (nI 0))), vI (nI 99)] [] dX9_room_45 lkX9_84 rfl (Nat.le_of_ble_eq_true rfl) rfl (Nat.le_of_ble_eq_true rfl) (m_within (valT s l (envK (nI 2) (tpF s c) (s (11 + 4 * c + 1)) (nI 0))) (nI 99)) ?_
    refine Go.istore_n (ls' := [some (vR 76), some (vI (nI c)), some (vI (wiF (valT s l (envK (nI 2) (tpF s c) (s (11 + 4 * c + 1)) (nI 0))) (nI 99))), some (vI (nI l)), none]) dX9_room_48 (by decide) rfl ?_
    refine Go.iload_n dX9_room_49 rfl ?_
    refine Go.at 50 rfl ?_
    refine Go.aload_n dX9_room_50 rfl ?_
    refine Go.iload_n dX9_room_51 rfl ?_
    refine Go.iconst (v := nI 2) dX9_room_52 rfl ?_
    refine Go.callVi 76 [vI (nI c), vI (nI 2)] [vI (wiF (valT s l (envK (nI 2) (tpF s c) (s (11 + 4 * c + 1)) (nI 0))) (nI 99))] dX9_room_53 lkX9_70 (Or.inl ⟨_, _, _, rfl, rfl, rfl⟩) rfl (Nat.le_of_ble_eq_true rfl) rfl (Nat.le_of_ble_eq_true rfl) (m_of hs9 c 2 hc (by decide)) ?_
    refine Go.bipush (v := nI 10) dX9_room_56 rfl ?_
    refine Go.idiv dX9_room_58 (by decide) ?_
    refine Go.at 59 rfl ?_
    refine Go.isub dX9_room_59 ?_
    refine Go.bipush (v := nI 99) dX9_room_60 rfl ?_
    refine Go.callSi [vI ((wiF (valT s l (envK (nI 2) (tpF s c) (s (11 + 4 * c + 1)) (nI 0))) (nI 99)) - ((s (11 + 4 * c + 2)) / (nI 10))), vI (nI 99)] [] dX9_room_62 lkX9_84 rfl (Nat.le_of_ble_eq_true rfl) rfl (Nat.le_of_ble_eq_true rfl) (m_within ((wiF (valT s l (envK (nI 2) (tpF s c) (s (11 + 4 * c + 1)) (nI 0))) (nI 99)) - ((s (11 + 4 * c + 2)) / (nI 10))) (nI 99)) ?_
    refine Go.istore (ls' := [some (vR 76), some (vI (nI c)), some (vI (wiF (valT s l (envK (nI 2) (tpF s c) (s (11 + 4 * c + 1)) (nI 0))) (nI 99))), some (vI (nI l)), some (vI (wiF ((wiF (valT s l (envK (nI 2) (tpF s c) (s (11 + 4 * c + 1)) (nI 0))) (nI 99)) - ((s (11 + 4 * c + 2)) / (nI 10))) (nI 99)))]) dX9_room_65 (by decide) rfl ?_
    refine Go.aload_n dX9_room_67 rfl ?_
    refine Go.iload_n dX9_room_68 rfl ?_
    refine Go.at 69 rfl ?_
    refine Go.iconst (v := nI 0) dX9_room_69 rfl ?_
    refine Go.callVi 76 [vI (nI c), vI (nI 0)] [] dX9_room_70 lkX9_70 (Or.inl ⟨_, _, _, rfl, rfl, rfl⟩) rfl (Nat.le_of_ble_eq_true rfl) rfl (Nat.le_of_ble_eq_true rfl) (m_of0 hs9 c hc) ?_
    by_cases h73_1 : s (11 + 4 * c) = nI 1
    · refine Go.tsw (tgt := 108) (nI 1) h73_1 dX9_room_73 (by decide) (by decide) rfl (by decide) ?_
      refine Go.iload dX9_room_108 rfl ?_
      refine Go.ireturn .int dX9_room_110 rfl rfl ?_
      exact ⟨congrArg (fun z => some (vI z)) (by unfold roomF roomC; rw [hld]; (try simp only [(room_eq (k := 0) hr (hCo c hc)).1, (room_eq (k := 0) hr (hCo c hc)).2]); (repeat' split) <;> first | with_reducible rfl | contradiction | (exfalso; (try simp only [sI_lt, sI_le, sI_eq, nT, Int32.toInt_zero, tI_n1, tI_NONE] at *); omega)), ((Fr.wide (Fr.ms (Fr.ms (Fr.rf _ _) _ _ (by decide)) _ _ (by decide)) (by decide : ∀ o, o ∈ [90] → o ∈ [90, 91])).trans (k9.wide (by decide)))⟩
    by_cases h73_2 : s (11 + 4 * c) = nI 2
    · refine Go.tsw (tgt := 116) (nI 2) h73_2 dX9_room_73 (by decide) (by decide) rfl (by decide) ?_
      refine Go.iload_n dX9_room_116 rfl ?_
      refine Go.iconst (v := nI 4) dX9_room_117 rfl ?_
      refine Go.isub dX9_room_118 ?_
      refine Go.bipush (v := nI 99) dX9_room_119 rfl ?_
      refine Go.callSi [vI ((wiF (valT s l (envK (nI 2) (tpF s c) (s (11 + 4 * c + 1)) (nI 0))) (nI 99)) - (nI 4)), vI (nI 99)] [] dX9_room_121 lkX9_84 rfl (Nat.le_of_ble_eq_true rfl) rfl (Nat.le_of_ble_eq_true rfl) (m_within ((wiF (valT s l (envK (nI 2) (tpF s c) (s (11 + 4 * c + 1)) (nI 0))) (nI 99)) - (nI 4)) (nI 99)) ?_
      refine Go.ireturn .int dX9_room_124 rfl rfl ?_
      exact ⟨congrArg (fun z => some (vI z)) (by unfold roomF roomC; rw [hld]; (try simp only [(room_eq (k := 0) hr (hCo c hc)).1, (room_eq (k := 0) hr (hCo c hc)).2]); (repeat' split) <;> first | with_reducible rfl | contradiction | (exfalso; (try simp only [sI_lt, sI_le, sI_eq, nT, Int32.toInt_zero, tI_n1, tI_NONE] at *); omega)), ((Fr.wide (Fr.ms (Fr.ms (Fr.rf _ _) _ _ (by decide)) _ _ (by decide)) (by decide : ∀ o, o ∈ [90] → o ∈ [90, 91])).trans (k9.wide (by decide)))⟩
    by_cases h73_3 : s (11 + 4 * c) = nI 3
    · refine Go.tsw (tgt := 111) (nI 3) h73_3 dX9_room_73 (by decide) (by decide) rfl (by decide) ?_
      refine Go.iload dX9_room_111 rfl ?_
      refine Go.iconst (v := nI 2) dX9_room_113 rfl ?_
      refine Go.idiv dX9_room_114 (by decide) ?_
      refine Go.ireturn .int dX9_room_115 rfl rfl ?_
      exact ⟨congrArg (fun z => some (vI z)) (by unfold roomF roomC; rw [hld]; (try simp only [(room_eq (k := 0) hr (hCo c hc)).1, (room_eq (k := 0) hr (hCo c hc)).2]); (repeat' split) <;> first | with_reducible rfl | contradiction | (exfalso; (try simp only [sI_lt, sI_le, sI_eq, nT, Int32.toInt_zero, tI_n1, tI_NONE] at *); omega)), ((Fr.wide (Fr.ms (Fr.ms (Fr.rf _ _) _ _ (by decide)) _ _ (by decide)) (by decide : ∀ o, o ∈ [90] → o ∈ [90, 91])).trans (k9.wide (by decide)))⟩
    by_cases h73_4 : s (11 + 4 * c) = nI 4
    · refine Go.tsw (tgt := 116) (nI 4) h73_4 dX9_room_73 (by decide) (by decide) rfl (by decide) ?_
      refine Go.iload_n dX9_room_116 rfl ?_
      refine Go.iconst (v := nI 4) dX9_room_117 rfl ?_
      refine Go.isub dX9_room_118 ?_
      refine Go.bipush (v := nI 99) dX9_room_119 rfl ?_
      refine Go.callSi [vI ((wiF (valT s l (envK (nI 2) (tpF s c) (s (11 + 4 * c + 1)) (nI 0))) (nI 99)) - (nI 4)), vI (nI 99)] [] dX9_room_121 lkX9_84 rfl (Nat.le_of_ble_eq_true rfl) rfl (Nat.le_of_ble_eq_true rfl) (m_within ((wiF (valT s l (envK (nI 2) (tpF s c) (s (11 + 4 * c + 1)) (nI 0))) (nI 99)) - (nI 4)) (nI 99)) ?_
      refine Go.ireturn .int dX9_room_124 rfl rfl ?_
      exact ⟨congrArg (fun z => some (vI z)) (by unfold roomF roomC; rw [hld]; (try simp only [(room_eq (k := 0) hr (hCo c hc)).1, (room_eq (k := 0) hr (hCo c hc)).2]); (repeat' split) <;> first | with_reducible rfl | contradiction | (exfalso; (try simp only [sI_lt, sI_le, sI_eq, nT, Int32.toInt_zero, tI_n1, tI_NONE] at *); omega)), ((Fr.wide (Fr.ms (Fr.ms (Fr.rf _ _) _ _ (by decide)) _ _ (by decide)) (by decide : ∀ o, o ∈ [90] → o ∈ [90, 91])).trans (k9.wide (by decide)))⟩
    by_cases h73_5 : s (11 + 4 * c) = nI 5
    · refine Go.tsw (tgt := 125) (nI 5) h73_5 dX9_room_73 (by decide) (by decide) rfl (by decide) ?_
      refine Go.iconst (v := nI 1) dX9_room_125 rfl ?_
      refine Go.ireturn .int dX9_room_126 rfl rfl ?_
      exact ⟨congrArg (fun z => some (vI z)) (by unfold roomF roomC; rw [hld]; (try simp only [(room_eq (k := 0) hr (hCo c hc)).1, (room_eq (k := 0) hr (hCo c hc)).2]); (repeat' split) <;> first | with_reducible rfl | contradiction | (exfalso; (try simp only [sI_lt, sI_le, sI_eq, nT, Int32.toInt_zero, tI_n1, tI_NONE] at *); omega)), ((Fr.wide (Fr.ms (Fr.ms (Fr.rf _ _) _ _ (by decide)) _ _ (by decide)) (by decide : ∀ o, o ∈ [90] → o ∈ [90, 91])).trans (k9.wide (by decide)))⟩
    refine Go.tswD (tgt := 127) dX9_room_73 (by have a0 := lv_neT h73_1 (a := 1) rfl; have a1 := lv_neT h73_2 (a := 2) rfl; have a2 := lv_neT h73_3 (a := 3) rfl; have a3 := lv_neT h73_4 (a := 4) rfl; have a4 := lv_neT h73_5 (a := 5) rfl; omega) (by decide) ?_
    refine Go.iload_n dX9_room_127 rfl ?_
    refine Go.ireturn .int dX9_room_128 rfl rfl ?_
    exact ⟨congrArg (fun z => some (vI z)) (by unfold roomF roomC; rw [hld]; (try simp only [(room_eq (k := 0) hr (hCo c hc)).1, (room_eq (k := 0) hr (hCo c hc)).2]); (repeat' split) <;> first | with_reducible rfl | contradiction | (exfalso; (try simp only [sI_lt, sI_le, sI_eq, nT, Int32.toInt_zero, tI_n1, tI_NONE] at *); omega)), ((Fr.wide (Fr.ms (Fr.ms (Fr.rf _ _) _ _ (by decide)) _ _ (by decide)) (by decide : ∀ o, o ∈ [90] → o ∈ [90, 91])).trans (k9.wide (by decide)))⟩
theorem m_dry_lp {V : VV} {d : Nat} {μ : Memo} {s : Nat → Int32} (hs : μ 77 = s) (l : Int32) {μ0 : Memo} (hf : Fr [90, 91] μ0 μ) (t : Int32) :
    ∀ (j c : Nat), c + j = 30 → Go V (d + 2) mX9_dry 11 [some (vR 76), some (vI t), some (vI l), some (vI (drL s l c)), some (vI (nI c))] [] μ (fun r' μ'' => r' = some (vI (drL s l 30)) ∧ Fr [90, 91] μ0 μ'')
  | 0, c, h => by
    obtain rfl : c = 30 := by omega
    refine Go.iload dX9_dry_11 rfl ?_
    refine Go.bipush (v := nI 30) dX9_dry_13 rfl ?_
    refine Go.icmp_ge_t (tgt := 45) dX9_dry_15 (by decide) (by decide) ?_
    refine Go.iload_n dX9_dry_45 rfl ?_
    refine Go.ireturn .int dX9_dry_46 rfl rfl ?_
    exact ⟨rfl, hf⟩
  | j + 1, c, h => by
    have hc : c < 30 := by omega
    refine Go.iload dX9_dry_11 rfl ?_
    refine Go.bipush (v := nI 30) dX9_dry_13 rfl ?_
    refine Go.icmp_ge_f (tgt := 45) dX9_dry_15 (by decide) (nI_ge hc (by decide)) ?_
    refine Go.iload_n dX9_dry_18 rfl ?_
    refine Go.aload_n dX9_dry_19 rfl ?_
    refine Go.iload dX9_dry_20 rfl ?_
    refine Go.at 22 rfl ?_
    refine Go.callVi 76 [vI (nI c)] [vI (drL s l c)] dX9_dry_22 lkX9_78 (Or.inl ⟨_, _, _, rfl, rfl, rfl⟩) rfl (Nat.le_of_ble_eq_true rfl) rfl (Nat.le_of_ble_eq_true rfl) (m_top hs c (by omega)) ?_
    refine Go.iload_n dX9_dry_25 rfl ?_
    refine Go.icmp_le (tgt := 36) dX9_dry_26 (by decide) (fun h26 => ?_) (fun h26 => ?_)
    · -- 26 taken
      refine Go.iconst (v := nI 0) dX9_dry_36 rfl ?_
      refine Go.ior dX9_dry_37 ?_
      refine Go.istore_n (ls' := [some (vR 76), some (vI t), some (vI l), some (vI ((drL s l c) ||| (nI 0))), some (vI (nI c))]) dX9_dry_38 (by decide) rfl ?_
      refine Go.iinc (v := nI (c + 1)) (ls' := [some (vR 76), some (vI t), some (vI l), some (vI ((drL s l c) ||| (nI 0))), some (vI (nI (c + 1)))]) dX9_dry_39 rfl (nI_add _ _) (by decide) rfl ?_
      refine Go.goto (tgt := 11) dX9_dry_42 (by decide) ?_
      rw [show (drL s l c) ||| (nI 0) = drL s l (c + 1) from (by rw [drL]; simp only [sI_lt, sI_le] at *; first | (rw [if_pos (by omega)]) | (rw [if_neg (by omega)]; exact or0 _))]
      exact m_dry_lp hs l hf t j (c + 1) (by omega)
    · -- 26 not
      refine Go.iconst (v := nI 1) dX9_dry_29 rfl ?_
      refine Go.iload dX9_dry_30 rfl ?_
      refine Go.ishl dX9_dry_32 ?_
      refine Go.goto (tgt := 37) dX9_dry_33 (by decide) ?_
      refine Go.ior dX9_dry_37 ?_
      refine Go.istore_n (ls' := [some (vR 76), some (vI t), some (vI l), some (vI ((drL s l c) ||| ((nI 1) <<< ((nI c) &&& 31)))), some (vI (nI c))]) dX9_dry_38 (by decide) rfl ?_
      refine Go.at 39 rfl ?_
      refine Go.iinc (v := nI (c + 1)) (ls' := [some (vR 76), some (vI t), some (vI l), some (vI ((drL s l c) ||| ((nI 1) <<< ((nI c) &&& 31)))), some (vI (nI (c + 1)))]) dX9_dry_39 rfl (nI_add _ _) (by decide) rfl ?_
      refine Go.goto (tgt := 11) dX9_dry_42 (by decide) ?_
      rw [show (drL s l c) ||| ((nI 1) <<< ((nI c) &&& 31)) = drL s l (c + 1) from (by rw [drL]; simp only [sI_lt, sI_le] at *; first | (rw [if_pos (by omega)]) | (rw [if_neg (by omega)]; exact or0 _))]
      exact m_dry_lp hs l hf t j (c + 1) (by omega)
theorem m_dry {V : VV} {d : Nat} {μ : Memo} {s : Nat → Int32} (hs : μ 77 = s) (hT : TxtsOK s) (t : Int32) : RetI V (d + 3) mX9_dry [vR 76, vI t] μ (dryF s t) (Fr [90, 91] μ) := by
  show Go V (d + 3) mX9_dry 0 [some (vR 76), some (vI t), none, none, none] [] μ _
  refine Go.aload_n dX9_dry_0 rfl ?_
  refine Go.iload_n dX9_dry_1 rfl ?_
  refine Go.callVx 76 [vI t] [] dX9_dry_2 lkX9_87 (Or.inl ⟨_, _, _, rfl, rfl, rfl⟩) rfl (Nat.le_of_ble_eq_true rfl) rfl (Nat.le_of_ble_eq_true rfl) (m_level hs hT t) (fun μ1 k1 => ?_)
  have hs1 : μ1 77 = s := (k1 77 (by decide)).trans hs
  refine Go.istore_n (ls' := [some (vR 76), some (vI t), some (vI (levelF s t)), none, none]) dX9_dry_5 (by decide) rfl ?_
  refine Go.iconst (v := nI 0) dX9_dry_6 rfl ?_
  refine Go.istore_n (ls' := [some (vR 76), some (vI t), some (vI (levelF s t)), some (vI (nI 0)), none]) dX9_dry_7 (by decide) rfl ?_
  refine Go.at 8 rfl ?_
  refine Go.iconst (v := nI 0) dX9_dry_8 rfl ?_
  refine Go.istore (ls' := [some (vR 76), some (vI t), some (vI (levelF s t)), some (vI (nI 0)), some (vI (nI 0))]) dX9_dry_9 (by decide) rfl ?_
  exact m_dry_lp hs1 _ k1 t 30 0 (by omega)
def onesF (x : Int32) : Nat → Int32
  | 0 => nI 0
  | k + 1 => onesF x k + ((x >>> (nI k &&& 31)) &&& nI 1)
theorem m_ones_lp {V : VV} {d : Nat} {μ : Memo} (x : Int32) :
    ∀ (j k : Nat), k + j = 30 → Go V d mX9_ones 4 [some (vI x), some (vI (onesF x k)), some (vI (nI k))] [] μ (fun r' μ'' => r' = some (vI (onesF x 30)) ∧ μ'' = μ)
  | 0, k, h => by
    obtain rfl : k = 30 := by omega
    refine Go.iload_n dX9_ones_4 rfl ?_
    refine Go.bipush (v := nI 30) dX9_ones_5 rfl ?_
    refine Go.icmp_ge_t (tgt := 24) dX9_ones_7 (by decide) (by decide) ?_
    refine Go.iload_n dX9_ones_24 rfl ?_
    refine Go.ireturn .int dX9_ones_25 rfl rfl ?_
    exact ⟨rfl, rfl⟩
  | j + 1, k, h => by
    have hc : k < 30 := by omega
    refine Go.iload_n dX9_ones_4 rfl ?_
    refine Go.bipush (v := nI 30) dX9_ones_5 rfl ?_
    refine Go.icmp_ge_f (tgt := 24) dX9_ones_7 (by decide) (nI_ge hc (by decide)) ?_
    refine Go.iload_n dX9_ones_10 rfl ?_
    refine Go.iload_n dX9_ones_11 rfl ?_
    refine Go.iload_n dX9_ones_12 rfl ?_
    refine Go.at 13 rfl ?_
    refine Go.ishr dX9_ones_13 ?_
    refine Go.iconst (v := nI 1) dX9_ones_14 rfl ?_
    refine Go.iand dX9_ones_15 ?_
    refine Go.iadd dX9_ones_16 ?_
    refine Go.istore_n (ls' := [some (vI x), some (vI ((onesF x k) + ((x >>> ((nI k) &&& 31)) &&& (nI 1)))), some (vI (nI k))]) dX9_ones_17 (by decide) rfl ?_
    refine Go.iinc (v := nI (k + 1)) (ls' := [some (vI x), some (vI ((onesF x k) + ((x >>> ((nI k) &&& 31)) &&& (nI 1)))), some (vI (nI (k + 1)))]) dX9_ones_18 rfl (nI_add _ _) (by decide) rfl ?_
    refine Go.at 21 rfl ?_
    refine Go.goto (tgt := 4) dX9_ones_21 (by decide) ?_
    exact m_ones_lp x j (k + 1) (by omega)
theorem m_ones {V : VV} {d : Nat} {μ : Memo} (x : Int32) : Ret V (d) mX9_ones [vI x] μ (some (vI (onesF x 30))) μ := by
  show Go V (d) mX9_ones 0 [some (vI x), none, none] [] μ _
  refine Go.iconst (v := nI 0) dX9_ones_0 rfl ?_
  refine Go.istore_n (ls' := [some (vI x), some (vI (nI 0)), none]) dX9_ones_1 (by decide) rfl ?_
  refine Go.iconst (v := nI 0) dX9_ones_2 rfl ?_
  refine Go.istore_n (ls' := [some (vI x), some (vI (nI 0)), some (vI (nI 0))]) dX9_ones_3 (by decide) rfl ?_
  exact m_ones_lp x 30 0 (by omega)
/-! ===== the component's islands: 7 now, 15 image, 23 trial ===== -/
def isB (B : Nat) : Prop := B = 7 ∨ B = 15 ∨ B = 23
theorem fBr {B : Nat} (h : isB B) (k : Nat) (hk : k < 7) : fld B k = some (0, some (B + (k + 1))) := by
  rcases h with rfl | rfl | rfl <;> revert k <;> decide
theorem fBi {B : Nat} (h : isB B) (k : Nat) (hk : 7 ≤ k) (hk2 : k < 12) : fld B k = some (0, none) := by
  have : k = 7 ∨ k = 8 ∨ k = 9 ∨ k = 10 ∨ k = 11 := by omega
  rcases h with rfl | rfl | rfl <;> rcases this with rfl | rfl | rfl | rfl | rfl <;> rfl
theorem fB12 {B : Nat} (h : isB B) : fld B 12 = some (0, some 1) := by rcases h with rfl | rfl | rfl <;> rfl
theorem rcB {B : Nat} (h : isB B) : rcvOK B RX1 := by rcases h with rfl | rfl | rfl <;> exact Or.inl ⟨_, _, _, rfl, rfl, rfl⟩
theorem alB1 {B : Nat} (h : isB B) : alen (B + 1) = some 30 := by rcases h with rfl | rfl | rfl <;> rfl
theorem alB2 {B : Nat} (h : isB B) : alen (B + 2) = some 30 := by rcases h with rfl | rfl | rfl <;> rfl
theorem alB3 {B : Nat} (h : isB B) : alen (B + 3) = some 30 := by rcases h with rfl | rfl | rfl <;> rfl
theorem alB4 {B : Nat} (h : isB B) : alen (B + 4) = some 30 := by rcases h with rfl | rfl | rfl <;> rfl
theorem alB5 {B : Nat} (h : isB B) : alen (B + 5) = some 6 := by rcases h with rfl | rfl | rfl <;> rfl
theorem alB6 {B : Nat} (h : isB B) : alen (B + 6) = some 8 := by rcases h with rfl | rfl | rfl <;> rfl
theorem alB7 {B : Nat} (h : isB B) : alen (B + 7) = some 8 := by rcases h with rfl | rfl | rfl <;> rfl
def Isl (B : Nat) (μ : Memo) (s : Nat → Int32) : Prop :=
  (∀ c, c < 30 → μ (B + 1) c = s (11 + 4 * c) ∧ μ (B + 2) c = s (11 + 4 * c + 1) ∧ μ (B + 3) c = s (11 + 4 * c + 2) ∧ μ (B + 4) c = oN (s (11 + 4 * c + 3))) ∧
  (∀ k, k < 6 → μ (B + 5) k = s (5 + k)) ∧
  (∀ h, h < nH s → μ (B + 6) h = s (131 + 2 * h) ∧ μ (B + 7) h = oN (s (131 + 2 * h + 1))) ∧
  μ B 7 = s 0 ∧ μ B 8 = s 2 ∧ μ B 9 = s 3 ∧ μ B 10 = s 4 ∧ μ B 11 = s 1
def Txr (μ : Memo) (s : Nat → Int32) : Prop := ∀ t, t < nX s → μ 2 t = s (147 + 200 * t) ∧ μ 3 t = s (147 + 200 * t + 1) ∧ μ 4 t = s (147 + 200 * t + 2) ∧ ∀ k, k < nSt s t → μ (39 + t) k = encR (s (147 + 200 * t)) (tW s t k) (tV s t k)
theorem Isl.same {B : Nat} {μ μ' : Memo} {s : Nat → Int32} (h : Isl B μ s) (e : ∀ i, i ≤ 7 → μ' (B + i) = μ (B + i)) : Isl B μ' s := by
  obtain ⟨h1, h2, h3, h4⟩ := h
  have e0 : μ' B = μ B := e 0 (by decide)
  refine ⟨fun c hc => ?_, fun k hk => ?_, fun q hq => ?_, ?_⟩
  · rw [e 1 (by decide), e 2 (by decide), e 3 (by decide), e 4 (by decide)]; exact h1 c hc
  · rw [e 5 (by decide)]; exact h2 k hk
  · rw [e 6 (by decide), e 7 (by decide)]; exact h3 q hq
  · rw [e0]; exact h4
theorem Isl.fr {B : Nat} {μ μ' : Memo} {s : Nat → Int32} (h : Isl B μ s) (hB : isB B) (k : Fr [1, 6] μ μ') : Isl B μ' s := by
  refine h.same (fun i hi => k _ ?_)
  simp only [List.mem_cons, List.not_mem_nil, or_false]
  rcases hB with rfl | rfl | rfl <;> omega
theorem Txr.same {μ μ' : Memo} {s : Nat → Int32} (h : Txr μ s) (e2 : μ' 2 = μ 2) (e3 : μ' 3 = μ 3) (e4 : μ' 4 = μ 4) (e : ∀ t, t < nX s → μ' (39 + t) = μ (39 + t)) : Txr μ' s := by
  intro t ht
  rw [e2, e3, e4, e t ht]
  exact h t ht
theorem Txr.fr {μ μ' : Memo} {s : Nat → Int32} (h : Txr μ s) (h14 : nX s ≤ 14) (k : Fr [1, 6] μ μ') : Txr μ' s := by
  refine h.same (k 2 (by decide)) (k 3 (by decide)) (k 4 (by decide)) (fun t ht => k _ ?_)
  simp only [List.mem_cons, List.not_mem_nil, or_false]
  omega
theorem oN_nI {n : Nat} (h : n < 2 ^ 31) : oN (oI (some n)) = nI n := by
  show (if nI n < 0 then _ else nI n) = nI n
  exact if_neg (nI_pos h)
theorem nI_NONE {n : Nat} (h : n < 1000) : ¬ nI n = (-1000000005) := by
  rw [sI_eq, nT, tI_NONE]; omega
theorem c_law {V : VV} {d : Nat} {μ : Memo} {s : Nat → Int32} (hX : Txr μ s) (hT : TxtsOK s) {key a b c : Int32} {l : Nat} (hl : lawN s key (nX s) = some l) :
    RetI V (d + 1) mX3_workOut [vR 1, vI (nI l), vI a, vI b, vI c] μ (valT s l (envK key a b c)) (Fr [1, 6] μ) := by
  obtain ⟨h1, h2⟩ := lawN_lt hl
  have hok := hT.2.2 l h1
  obtain ⟨x1, x2, x3, x4⟩ := hX l h1
  have h := c_workOut (V := V) (d := d) (Nat.lt_of_lt_of_le h1 hT.1) (x3.trans hok.2.1) hok.1 hok.2.2.2.1 hok.2.2.2.2 x4 a b c
  rw [h2] at h
  exact h.eq (val_any hok (fun v hv => rfl) _)

theorem c_top {V : VV} {d : Nat} {μ : Memo} {s : Nat → Int32} {B : Nat} (hB : isB B) (hI : Isl B μ s) (c : Nat) (hc : c < 30) : Ret V (d + 1) mX1_topOf [vR B, vI (nI c)] μ (some (vI (tpF s c))) μ := by
  show Go V (d + 1) mX1_topOf 0 [some (vR B), some (vI (nI c))] [] μ _
  refine Go.aload_n dX1_topOf_0 rfl ?_
  refine Go.getR dX1_topOf_1 flX1_9 (fBr hB 0 (by decide)) ?_
  refine Go.iload_n dX1_topOf_4 rfl ?_
  refine Go.iaload c dX1_topOf_5 (alB1 hB) (by omega) rfl ?_
  refine Go.topE (s (11 + 4 * c)) ((hI.1 c hc).1) ?_
  refine Go.aload_n dX1_topOf_6 rfl ?_
  refine Go.getR dX1_topOf_7 flX1_15 (fBr hB 1 (by decide)) ?_
  refine Go.at 10 rfl ?_
  refine Go.iload_n dX1_topOf_10 rfl ?_
  refine Go.iaload c dX1_topOf_11 (alB2 hB) (by omega) rfl ?_
  refine Go.topE (s (11 + 4 * c + 1)) ((hI.1 c hc).2.1) ?_
  refine Go.aload_n dX1_topOf_12 rfl ?_
  refine Go.getR dX1_topOf_13 flX1_24 (fBr hB 4 (by decide)) ?_
  refine Go.iconst (v := nI 5) dX1_topOf_16 rfl ?_
  refine Go.iaload 5 dX1_topOf_17 (alB5 hB) (by omega) rfl ?_
  refine Go.topE (s 10) (hI.2.1 5 (by decide)) ?_
  refine Go.at 18 rfl ?_
  refine Go.callSi [vI (s (11 + 4 * c)), vI (s (11 + 4 * c + 1)), vI (s 10)] [] dX1_topOf_18 lkX1_71 rfl (Nat.le_of_ble_eq_true rfl) rfl (Nat.le_of_ble_eq_true rfl) (c_topOf (s (11 + 4 * c)) (s (11 + 4 * c + 1)) (s 10)) ?_
  refine Go.ireturn .int dX1_topOf_21 rfl rfl ?_
  exact ⟨rfl, rfl⟩
theorem c_plain {V : VV} {d : Nat} {μ : Memo} {s : Nat → Int32} {B : Nat} (hB : isB B) (hI : Isl B μ s) (T : Int32) : Ret V (d) mX1_plainLevelAt [vR B, vI T] μ (some (vI (plainF s T))) μ := by
  show Go V (d) mX1_plainLevelAt 0 [some (vR B), some (vI T), none, none, none, none] [] μ _
  refine Go.iload_n dX1_plainLevelAt_0 rfl ?_
  refine Go.bipush (v := nI 12) dX1_plainLevelAt_1 rfl ?_
  refine Go.iremE dX1_plainLevelAt_3 (by decide) ?_
  refine Go.istore_n (ls' := [some (vR B), some (vI T), some (vI (irm T (nI 12))), none, none, none]) dX1_plainLevelAt_4 (by decide) rfl ?_
  refine Go.iload_n dX1_plainLevelAt_5 rfl ?_
  refine Go.bipush (v := nI 6) dX1_plainLevelAt_6 rfl ?_
  refine Go.at 8 rfl ?_
  refine Go.icmp_le (tgt := 18) dX1_plainLevelAt_8 (by decide) (fun h8 => ?_) (fun h8 => ?_)
  · -- 8 taken
    refine Go.iload_n dX1_plainLevelAt_18 rfl ?_
    refine Go.istore_n (ls' := [some (vR B), some (vI T), some (vI (irm T (nI 12))), some (vI (irm T (nI 12))), none, none]) dX1_plainLevelAt_19 (by decide) rfl ?_
    refine Go.aload_n dX1_plainLevelAt_20 rfl ?_
    refine Go.getR dX1_plainLevelAt_21 flX1_24 (fBr hB 4 (by decide)) ?_
    refine Go.iconst (v := nI 0) dX1_plainLevelAt_24 rfl ?_
    refine Go.iaload 0 dX1_plainLevelAt_25 (alB5 hB) (by omega) rfl ?_
    refine Go.topE (s 5) (hI.2.1 0 (by decide)) ?_
    refine Go.at 26 rfl ?_
    refine Go.bipush (v := nI 6) dX1_plainLevelAt_26 rfl ?_
    refine Go.iload_n dX1_plainLevelAt_28 rfl ?_
    refine Go.isub dX1_plainLevelAt_29 ?_
    refine Go.imul dX1_plainLevelAt_30 ?_
    refine Go.aload_n dX1_plainLevelAt_31 rfl ?_
    refine Go.getR dX1_plainLevelAt_32 flX1_24 (fBr hB 4 (by decide)) ?_
    refine Go.at 35 rfl ?_
    refine Go.iconst (v := nI 1) dX1_plainLevelAt_35 rfl ?_
    refine Go.iaload 1 dX1_plainLevelAt_36 (alB5 hB) (by omega) rfl ?_
    refine Go.topE (s 6) (hI.2.1 1 (by decide)) ?_
    refine Go.iload_n dX1_plainLevelAt_37 rfl ?_
    refine Go.imul dX1_plainLevelAt_38 ?_
    refine Go.iadd dX1_plainLevelAt_39 ?_
    refine Go.bipush (v := nI 6) dX1_plainLevelAt_40 rfl ?_
    refine Go.at 42 rfl ?_
    refine Go.idiv dX1_plainLevelAt_42 (by decide) ?_
    refine Go.istore (ls' := [some (vR B), some (vI T), some (vI (irm T (nI 12))), some (vI (irm T (nI 12))), some (vI ((((s 5) * ((nI 6) - (irm T (nI 12)))) + ((s 6) * (irm T (nI 12)))) / (nI 6))), none]) dX1_plainLevelAt_43 (by decide) rfl ?_
    refine Go.iload_n dX1_plainLevelAt_45 rfl ?_
    refine Go.bipush (v := nI 24) dX1_plainLevelAt_46 rfl ?_
    refine Go.idiv dX1_plainLevelAt_48 (by decide) ?_
    refine Go.bipush (v := nI 15) dX1_plainLevelAt_49 rfl ?_
    refine Go.at 51 rfl ?_
    refine Go.iremE dX1_plainLevelAt_51 (by decide) ?_
    refine Go.if_ne (tgt := 64) dX1_plainLevelAt_52 (by decide) (fun h52 => ?_) (fun h52 => ?_)
    · -- 52 taken
      refine Go.iconst (v := nI 0) dX1_plainLevelAt_64 rfl ?_
      refine Go.istore (ls' := [some (vR B), some (vI T), some (vI (irm T (nI 12))), some (vI (irm T (nI 12))), some (vI ((((s 5) * ((nI 6) - (irm T (nI 12)))) + ((s 6) * (irm T (nI 12)))) / (nI 6))), some (vI (nI 0))]) dX1_plainLevelAt_65 (by decide) rfl ?_
      refine Go.iload dX1_plainLevelAt_67 rfl ?_
      refine Go.iload dX1_plainLevelAt_69 rfl ?_
      refine Go.iadd dX1_plainLevelAt_71 ?_
      refine Go.aload_n dX1_plainLevelAt_72 rfl ?_
      refine Go.at 73 rfl ?_
      refine Go.getR dX1_plainLevelAt_73 flX1_24 (fBr hB 4 (by decide)) ?_
      refine Go.iconst (v := nI 3) dX1_plainLevelAt_76 rfl ?_
      refine Go.iaload 3 dX1_plainLevelAt_77 (alB5 hB) (by omega) rfl ?_
      refine Go.topE (s 8) (hI.2.1 3 (by decide)) ?_
      refine Go.iadd dX1_plainLevelAt_78 ?_
      refine Go.ireturn .int dX1_plainLevelAt_79 rfl rfl ?_
      exact ⟨by refine congrArg (fun z => some (vI z)) ?_; unfold plainF; simp only [h8, h52, if_true, if_false], rfl⟩
    · -- 52 not
      refine Go.aload_n dX1_plainLevelAt_55 rfl ?_
      refine Go.getR dX1_plainLevelAt_56 flX1_24 (fBr hB 4 (by decide)) ?_
      refine Go.iconst (v := nI 2) dX1_plainLevelAt_59 rfl ?_
      refine Go.iaload 2 dX1_plainLevelAt_60 (alB5 hB) (by omega) rfl ?_
      refine Go.topE (s 7) (hI.2.1 2 (by decide)) ?_
      refine Go.goto (tgt := 65) dX1_plainLevelAt_61 (by decide) ?_
      refine Go.istore (ls' := [some (vR B), some (vI T), some (vI (irm T (nI 12))), some (vI (irm T (nI 12))), some (vI ((((s 5) * ((nI 6) - (irm T (nI 12)))) + ((s 6) * (irm T (nI 12)))) / (nI 6))), some (vI (s 7))]) dX1_plainLevelAt_65 (by decide) rfl ?_
      refine Go.at 67 rfl ?_
      refine Go.iload dX1_plainLevelAt_67 rfl ?_
      refine Go.iload dX1_plainLevelAt_69 rfl ?_
      refine Go.iadd dX1_plainLevelAt_71 ?_
      refine Go.aload_n dX1_plainLevelAt_72 rfl ?_
      refine Go.getR dX1_plainLevelAt_73 flX1_24 (fBr hB 4 (by decide)) ?_
      refine Go.iconst (v := nI 3) dX1_plainLevelAt_76 rfl ?_
      refine Go.at 77 rfl ?_
      refine Go.iaload 3 dX1_plainLevelAt_77 (alB5 hB) (by omega) rfl ?_
      refine Go.topE (s 8) (hI.2.1 3 (by decide)) ?_
      refine Go.iadd dX1_plainLevelAt_78 ?_
      refine Go.ireturn .int dX1_plainLevelAt_79 rfl rfl ?_
      exact ⟨by refine congrArg (fun z => some (vI z)) ?_; unfold plainF; simp only [h8, h52, if_true, if_false], rfl⟩
  · -- 8 not
    refine Go.bipush (v := nI 12) dX1_plainLevelAt_11 rfl ?_
    refine Go.iload_n dX1_plainLevelAt_13 rfl ?_
    refine Go.isub dX1_plainLevelAt_14 ?_
    refine Go.goto (tgt := 19) dX1_plainLevelAt_15 (by decide) ?_
    refine Go.istore_n (ls' := [some (vR B), some (vI T), some (vI (irm T (nI 12))), some (vI ((nI 12) - (irm T (nI 12)))), none, none]) dX1_plainLevelAt_19 (by decide) rfl ?_
    refine Go.aload_n dX1_plainLevelAt_20 rfl ?_
    refine Go.at 21 rfl ?_
    refine Go.getR dX1_plainLevelAt_21 flX1_24 (fBr hB 4 (by decide)) ?_
    refine Go.iconst (v := nI 0) dX1_plainLevelAt_24 rfl ?_
    refine Go.iaload 0 dX1_plainLevelAt_25 (alB5 hB) (by omega) rfl ?_
    refine Go.topE (s 5) (hI.2.1 0 (by decide)) ?_
    refine Go.bipush (v := nI 6) dX1_plainLevelAt_26 rfl ?_
    refine Go.iload_n dX1_plainLevelAt_28 rfl ?_
    refine Go.isub dX1_plainLevelAt_29 ?_
    refine Go.at 30 rfl ?_
    refine Go.imul dX1_plainLevelAt_30 ?_
    refine Go.aload_n dX1_plainLevelAt_31 rfl ?_
    refine Go.getR dX1_plainLevelAt_32 flX1_24 (fBr hB 4 (by decide)) ?_
    refine Go.iconst (v := nI 1) dX1_plainLevelAt_35 rfl ?_
    refine Go.iaload 1 dX1_plainLevelAt_36 (alB5 hB) (by omega) rfl ?_
    refine Go.topE (s 6) (hI.2.1 1 (by decide)) ?_
    refine Go.iload_n dX1_plainLevelAt_37 rfl ?_
    refine Go.at 38 rfl ?_
    refine Go.imul dX1_plainLevelAt_38 ?_
    refine Go.iadd dX1_plainLevelAt_39 ?_
    refine Go.bipush (v := nI 6) dX1_plainLevelAt_40 rfl ?_
    refine Go.idiv dX1_plainLevelAt_42 (by decide) ?_
    refine Go.istore (ls' := [some (vR B), some (vI T), some (vI (irm T (nI 12))), some (vI ((nI 12) - (irm T (nI 12)))), some (vI ((((s 5) * ((nI 6) - ((nI 12) - (irm T (nI 12))))) + ((s 6) * ((nI 12) - (irm T (nI 12))))) / (nI 6))), none]) dX1_plainLevelAt_43 (by decide) rfl ?_
    refine Go.iload_n dX1_plainLevelAt_45 rfl ?_
    refine Go.at 46 rfl ?_
    refine Go.bipush (v := nI 24) dX1_plainLevelAt_46 rfl ?_
    refine Go.idiv dX1_plainLevelAt_48 (by decide) ?_
    refine Go.bipush (v := nI 15) dX1_plainLevelAt_49 rfl ?_
    refine Go.iremE dX1_plainLevelAt_51 (by decide) ?_
    refine Go.if_ne (tgt := 64) dX1_plainLevelAt_52 (by decide) (fun h52 => ?_) (fun h52 => ?_)
    · -- 52 taken
      refine Go.iconst (v := nI 0) dX1_plainLevelAt_64 rfl ?_
      refine Go.istore (ls' := [some (vR B), some (vI T), some (vI (irm T (nI 12))), some (vI ((nI 12) - (irm T (nI 12)))), some (vI ((((s 5) * ((nI 6) - ((nI 12) - (irm T (nI 12))))) + ((s 6) * ((nI 12) - (irm T (nI 12))))) / (nI 6))), some (vI (nI 0))]) dX1_plainLevelAt_65 (by decide) rfl ?_
      refine Go.iload dX1_plainLevelAt_67 rfl ?_
      refine Go.iload dX1_plainLevelAt_69 rfl ?_
      refine Go.iadd dX1_plainLevelAt_71 ?_
      refine Go.aload_n dX1_plainLevelAt_72 rfl ?_
      refine Go.at 73 rfl ?_
      refine Go.getR dX1_plainLevelAt_73 flX1_24 (fBr hB 4 (by decide)) ?_
      refine Go.iconst (v := nI 3) dX1_plainLevelAt_76 rfl ?_
      refine Go.iaload 3 dX1_plainLevelAt_77 (alB5 hB) (by omega) rfl ?_
      refine Go.topE (s 8) (hI.2.1 3 (by decide)) ?_
      refine Go.iadd dX1_plainLevelAt_78 ?_
      refine Go.ireturn .int dX1_plainLevelAt_79 rfl rfl ?_
      exact ⟨by refine congrArg (fun z => some (vI z)) ?_; unfold plainF; simp only [h8, h52, if_true, if_false], rfl⟩
    · -- 52 not
      refine Go.aload_n dX1_plainLevelAt_55 rfl ?_
      refine Go.getR dX1_plainLevelAt_56 flX1_24 (fBr hB 4 (by decide)) ?_
      refine Go.iconst (v := nI 2) dX1_plainLevelAt_59 rfl ?_
      refine Go.iaload 2 dX1_plainLevelAt_60 (alB5 hB) (by omega) rfl ?_
      refine Go.topE (s 7) (hI.2.1 2 (by decide)) ?_
      refine Go.goto (tgt := 65) dX1_plainLevelAt_61 (by decide) ?_
      refine Go.istore (ls' := [some (vR B), some (vI T), some (vI (irm T (nI 12))), some (vI ((nI 12) - (irm T (nI 12)))), some (vI ((((s 5) * ((nI 6) - ((nI 12) - (irm T (nI 12))))) + ((s 6) * ((nI 12) - (irm T (nI 12))))) / (nI 6))), some (vI (s 7))]) dX1_plainLevelAt_65 (by decide) rfl ?_
      refine Go.at 67 rfl ?_
      refine Go.iload dX1_plainLevelAt_67 rfl ?_
      refine Go.iload dX1_plainLevelAt_69 rfl ?_
      refine Go.iadd dX1_plainLevelAt_71 ?_
      refine Go.aload_n dX1_plainLevelAt_72 rfl ?_
      refine Go.getR dX1_plainLevelAt_73 flX1_24 (fBr hB 4 (by decide)) ?_
      refine Go.iconst (v := nI 3) dX1_plainLevelAt_76 rfl ?_
      refine Go.at 77 rfl ?_
      refine Go.iaload 3 dX1_plainLevelAt_77 (alB5 hB) (by omega) rfl ?_
      refine Go.topE (s 8) (hI.2.1 3 (by decide)) ?_
      refine Go.iadd dX1_plainLevelAt_78 ?_
      refine Go.ireturn .int dX1_plainLevelAt_79 rfl rfl ?_
      exact ⟨by refine congrArg (fun z => some (vI z)) ?_; unfold plainF; simp only [h8, h52, if_true, if_false], rfl⟩
theorem c_level {V : VV} {d : Nat} {μ : Memo} {s : Nat → Int32} {B : Nat} (hB : isB B) (hI : Isl B μ s) (hX : Txr μ s) (hT : TxtsOK s) (t : Int32) : RetI V (d + 2) mX1_levelAt [vR B, vI t] μ (levelF s t) (Fr [1, 6] μ) := by
  show Go V (d + 2) mX1_levelAt 0 [some (vR B), some (vI t), none, none] [] μ _
  cases hl : lawN s (nI 0) (nX s) with
  | none =>
    refine Go.aload_n dX1_levelAt_0 rfl ?_
    refine Go.getI dX1_levelAt_1 flX1_57 (fBi hB 8 (by decide) (by decide)) ?_
    refine Go.topE (s 2) hI.2.2.2.2.1 ?_
    refine Go.iload_n dX1_levelAt_4 rfl ?_
    refine Go.iadd dX1_levelAt_5 ?_
    refine Go.istore_n (ls' := [some (vR B), some (vI t), some (vI ((s 2) + t)), none]) dX1_levelAt_6 (by decide) rfl ?_
    refine Go.aload_n dX1_levelAt_7 rfl ?_
    refine Go.at 8 rfl ?_
    refine Go.getR dX1_levelAt_8 flX1_37 (fB12 hB) ?_
    refine Go.iconst (v := nI 0) dX1_levelAt_11 rfl ?_
    refine Go.aload_n dX1_levelAt_12 rfl ?_
    refine Go.getI dX1_levelAt_13 flX1_63 (fBi hB 11 (by decide) (by decide)) ?_
    refine Go.topE (y := nI (nX s)) (hI.2.2.2.2.2.2.2.trans hT.2.1) ?_
    refine Go.callVi 1 [vI (nI 0), vI (nI (nX s))] [] dX1_levelAt_16 lkX1_77 (Or.inl ⟨_, _, _, rfl, rfl, rfl⟩) rfl (Nat.le_of_ble_eq_true rfl) rfl (Nat.le_of_ble_eq_true rfl) (c_lastOf (nI 0) (nX s) hT.1 (fun t ht => (hX t ht).1)) ?_
    refine Go.topE (y := (-1000000005)) (by rw [hl]; rfl) ?_
    refine Go.istore_n (ls' := [some (vR B), some (vI t), some (vI ((s 2) + t)), some (vI (-1000000005))]) dX1_levelAt_19 (by decide) rfl ?_
    refine Go.at 20 rfl ?_
    refine Go.iload_n dX1_levelAt_20 rfl ?_
    refine Go.ldc dX1_levelAt_21 cnX1_41 ?_
    refine Go.icmp_ne_f (tgt := 32) dX1_levelAt_23 (by decide) (by decide) ?_
    refine Go.aload_n dX1_levelAt_26 rfl ?_
    refine Go.iload_n dX1_levelAt_27 rfl ?_
    refine Go.callVi B [vI ((s 2) + t)] [] dX1_levelAt_28 lkX1_96 (rcB hB) rfl (Nat.le_of_ble_eq_true rfl) rfl (Nat.le_of_ble_eq_true rfl) (c_plain hB hI ((s 2) + t)) ?_
    refine Go.at 31 rfl ?_
    refine Go.ireturn .int dX1_levelAt_31 rfl rfl ?_
    exact ⟨by unfold levelF; rw [hl], Fr.rf _ _⟩
  | some l =>
    have hl14 : l < 14 := Nat.lt_of_lt_of_le (lawN_lt hl).1 hT.1
    refine Go.aload_n dX1_levelAt_0 rfl ?_
    refine Go.getI dX1_levelAt_1 flX1_57 (fBi hB 8 (by decide) (by decide)) ?_
    refine Go.topE (s 2) hI.2.2.2.2.1 ?_
    refine Go.iload_n dX1_levelAt_4 rfl ?_
    refine Go.iadd dX1_levelAt_5 ?_
    refine Go.istore_n (ls' := [some (vR B), some (vI t), some (vI ((s 2) + t)), none]) dX1_levelAt_6 (by decide) rfl ?_
    refine Go.aload_n dX1_levelAt_7 rfl ?_
    refine Go.at 8 rfl ?_
    refine Go.getR dX1_levelAt_8 flX1_37 (fB12 hB) ?_
    refine Go.iconst (v := nI 0) dX1_levelAt_11 rfl ?_
    refine Go.aload_n dX1_levelAt_12 rfl ?_
    refine Go.getI dX1_levelAt_13 flX1_63 (fBi hB 11 (by decide) (by decide)) ?_
    refine Go.topE (y := nI (nX s)) (hI.2.2.2.2.2.2.2.trans hT.2.1) ?_
    refine Go.callVi 1 [vI (nI 0), vI (nI (nX s))] [] dX1_levelAt_16 lkX1_77 (Or.inl ⟨_, _, _, rfl, rfl, rfl⟩) rfl (Nat.le_of_ble_eq_true rfl) rfl (Nat.le_of_ble_eq_true rfl) (c_lastOf (nI 0) (nX s) hT.1 (fun t ht => (hX t ht).1)) ?_
    refine Go.topE (y := nI l) (by rw [hl]; exact oN_nI (by omega)) ?_
    refine Go.istore_n (ls' := [some (vR B), some (vI t), some (vI ((s 2) + t)), some (vI (nI l))]) dX1_levelAt_19 (by decide) rfl ?_
    refine Go.at 20 rfl ?_
    refine Go.iload_n dX1_levelAt_20 rfl ?_
    refine Go.ldc dX1_levelAt_21 cnX1_41 ?_
    refine Go.icmp_ne_t (tgt := 32) dX1_levelAt_23 (by decide) (nI_NONE (by omega)) ?_
    refine Go.aload_n dX1_levelAt_32 rfl ?_
    refine Go.getR dX1_levelAt_33 flX1_37 (fB12 hB) ?_
    refine Go.iload_n dX1_levelAt_36 rfl ?_
    refine Go.at 37 rfl ?_
    refine Go.iload_n dX1_levelAt_37 rfl ?_
    refine Go.bipush (v := nI 24) dX1_levelAt_38 rfl ?_
    refine Go.iremE dX1_levelAt_40 (by decide) ?_
    refine Go.iload_n dX1_levelAt_41 rfl ?_
    refine Go.bipush (v := nI 24) dX1_levelAt_42 rfl ?_
    refine Go.idiv dX1_levelAt_44 (by decide) ?_
    refine Go.at 45 rfl ?_
    refine Go.aload_n dX1_levelAt_45 rfl ?_
    refine Go.getR dX1_levelAt_46 flX1_24 (fBr hB 4 (by decide)) ?_
    refine Go.iconst (v := nI 3) dX1_levelAt_49 rfl ?_
    refine Go.iaload 3 dX1_levelAt_50 (alB5 hB) (by omega) rfl ?_
    refine Go.topE (s 8) (hI.2.1 3 (by decide)) ?_
    refine Go.callVx 1 [vI (nI l), vI (irm ((s 2) + t) (nI 24)), vI (((s 2) + t) / (nI 24)), vI (s 8)] [] dX1_levelAt_51 lkX1_86 (Or.inl ⟨_, _, _, rfl, rfl, rfl⟩) rfl (Nat.le_of_ble_eq_true rfl) rfl (Nat.le_of_ble_eq_true rfl) (c_law (c := (s 8)) hX hT hl) (fun μ9 k9 => ?_)
    have hI9 : Isl B μ9 s := hI.fr hB k9
    refine Go.iconst (v := nI 0) dX1_levelAt_54 rfl ?_
    refine Go.at 55 rfl ?_
    refine Go.bipush (v := nI 40) dX1_levelAt_55 rfl ?_
    refine Go.callNi [vI (valT s l (envK (nI 0) (irm (s 2 + t) (nI 24)) ((s 2 + t) / nI 24) (s 8))), vI (nI 0), vI (nI 40)] [] dX1_levelAt_57 rfl rfl lkHold rfl (Nat.le_of_ble_eq_true rfl) rfl (Nat.le_of_ble_eq_true rfl) ((c_hold (valT s l (envK (nI 0) (irm (s 2 + t) (nI 24)) ((s 2 + t) / nI 24) (s 8))) (nI 0) (nI 40)).eq (hold_eq _ _ (by decide))) ?_
    refine Go.ireturn .int dX1_levelAt_60 rfl rfl ?_
    exact ⟨by unfold levelF; rw [hl], k9⟩
theorem c_grow {V : VV} {d : Nat} {μ : Memo} {s : Nat → Int32} {B : Nat} (hB : isB B) (hI : Isl B μ s) (hX : Txr μ s) (hT : TxtsOK s) (c : Nat) (hc : c < 30) : RetI V (d + 2) mX1_growthOf [vR B, vI (nI c)] μ (growF s c) (Fr [1, 6] μ) := by
  show Go V (d + 2) mX1_growthOf 0 [some (vR B), some (vI (nI c)), none] [] μ _
  cases hl : lawN s (nI 1) (nX s) with
  | none =>
    refine Go.aload_n dX1_growthOf_0 rfl ?_
    refine Go.getR dX1_growthOf_1 flX1_37 (fB12 hB) ?_
    refine Go.iconst (v := nI 1) dX1_growthOf_4 rfl ?_
    refine Go.aload_n dX1_growthOf_5 rfl ?_
    refine Go.getI dX1_growthOf_6 flX1_63 (fBi hB 11 (by decide) (by decide)) ?_
    refine Go.topE (y := nI (nX s)) (hI.2.2.2.2.2.2.2.trans hT.2.1) ?_
    refine Go.callVi 1 [vI (nI 1), vI (nI (nX s))] [] dX1_growthOf_9 lkX1_77 (Or.inl ⟨_, _, _, rfl, rfl, rfl⟩) rfl (Nat.le_of_ble_eq_true rfl) rfl (Nat.le_of_ble_eq_true rfl) (c_lastOf (nI 1) (nX s) hT.1 (fun t ht => (hX t ht).1)) ?_
    refine Go.topE (y := (-1000000005)) (by rw [hl]; rfl) ?_
    refine Go.at 12 rfl ?_
    refine Go.istore_n (ls' := [some (vR B), some (vI (nI c)), some (vI (-1000000005))]) dX1_growthOf_12 (by decide) rfl ?_
    refine Go.iload_n dX1_growthOf_13 rfl ?_
    refine Go.ldc dX1_growthOf_14 cnX1_41 ?_
    refine Go.icmp_ne_f (tgt := 23) dX1_growthOf_16 (by decide) (by decide) ?_
    refine Go.iconst (v := nI 1) dX1_growthOf_19 rfl ?_
    refine Go.goto (tgt := 50) dX1_growthOf_20 (by decide) ?_
    refine Go.at 50 rfl ?_
    refine Go.ireturn .int dX1_growthOf_50 rfl rfl ?_
    exact ⟨by unfold growF; rw [hl], Fr.rf _ _⟩
  | some l =>
    have hl14 : l < 14 := Nat.lt_of_lt_of_le (lawN_lt hl).1 hT.1
    refine Go.aload_n dX1_growthOf_0 rfl ?_
    refine Go.getR dX1_growthOf_1 flX1_37 (fB12 hB) ?_
    refine Go.iconst (v := nI 1) dX1_growthOf_4 rfl ?_
    refine Go.aload_n dX1_growthOf_5 rfl ?_
    refine Go.getI dX1_growthOf_6 flX1_63 (fBi hB 11 (by decide) (by decide)) ?_
    refine Go.topE (y := nI (nX s)) (hI.2.2.2.2.2.2.2.trans hT.2.1) ?_
    refine Go.callVi 1 [vI (nI 1), vI (nI (nX s))] [] dX1_growthOf_9 lkX1_77 (Or.inl ⟨_, _, _, rfl, rfl, rfl⟩) rfl (Nat.le_of_ble_eq_true rfl) rfl (Nat.le_of_ble_eq_true rfl) (c_lastOf (nI 1) (nX s) hT.1 (fun t ht => (hX t ht).1)) ?_
    refine Go.topE (y := nI l) (by rw [hl]; exact oN_nI (by omega)) ?_
    refine Go.at 12 rfl ?_
    refine Go.istore_n (ls' := [some (vR B), some (vI (nI c)), some (vI (nI l))]) dX1_growthOf_12 (by decide) rfl ?_
    refine Go.iload_n dX1_growthOf_13 rfl ?_
    refine Go.ldc dX1_growthOf_14 cnX1_41 ?_
    refine Go.icmp_ne_t (tgt := 23) dX1_growthOf_16 (by decide) (nI_NONE (by omega)) ?_
    refine Go.aload_n dX1_growthOf_23 rfl ?_
    refine Go.getR dX1_growthOf_24 flX1_37 (fB12 hB) ?_
    refine Go.at 27 rfl ?_
    refine Go.iload_n dX1_growthOf_27 rfl ?_
    refine Go.aload_n dX1_growthOf_28 rfl ?_
    refine Go.getR dX1_growthOf_29 flX1_18 (fBr hB 2 (by decide)) ?_
    refine Go.iload_n dX1_growthOf_32 rfl ?_
    refine Go.iaload c dX1_growthOf_33 (alB3 hB) (by omega) rfl ?_
    refine Go.topE (s (11 + 4 * c + 2)) ((hI.1 c hc).2.2.1) ?_
    refine Go.aload_n dX1_growthOf_34 rfl ?_
    refine Go.at 35 rfl ?_
    refine Go.getR dX1_growthOf_35 flX1_15 (fBr hB 1 (by decide)) ?_
    refine Go.iload_n dX1_growthOf_38 rfl ?_
    refine Go.iaload c dX1_growthOf_39 (alB2 hB) (by omega) rfl ?_
    refine Go.topE (s (11 + 4 * c + 1)) ((hI.1 c hc).2.1) ?_
    refine Go.iconst (v := nI 0) dX1_growthOf_40 rfl ?_
    refine Go.callVx 1 [vI (nI l), vI (s (11 + 4 * c + 2)), vI (s (11 + 4 * c + 1)), vI (nI 0)] [] dX1_growthOf_41 lkX1_86 (Or.inl ⟨_, _, _, rfl, rfl, rfl⟩) rfl (Nat.le_of_ble_eq_true rfl) rfl (Nat.le_of_ble_eq_true rfl) (c_law (c := (nI 0)) hX hT hl) (fun μ9 k9 => ?_)
    have hI9 : Isl B μ9 s := hI.fr hB k9
    refine Go.iconst (v := nI 0) dX1_growthOf_44 rfl ?_
    refine Go.at 45 rfl ?_
    refine Go.bipush (v := nI 9) dX1_growthOf_45 rfl ?_
    refine Go.callNi [vI (valT s l (envK (nI 1) (s (11 + 4 * c + 2)) (s (11 + 4 * c + 1)) (nI 0))), vI (nI 0), vI (nI 9)] [] dX1_growthOf_47 rfl rfl lkHold rfl (Nat.le_of_ble_eq_true rfl) rfl (Nat.le_of_ble_eq_true rfl) ((c_hold (valT s l (envK (nI 1) (s (11 + 4 * c + 2)) (s (11 + 4 * c + 1)) (nI 0))) (nI 0) (nI 9)).eq (hold_eq _ _ (by decide))) ?_
    refine Go.ireturn .int dX1_growthOf_50 rfl rfl ?_
    exact ⟨by unfold growF; rw [hl], k9⟩
theorem c_room {V : VV} {d : Nat} {μ : Memo} {s : Nat → Int32} {B : Nat} (hB : isB B) (hI : Isl B μ s) (hX : Txr μ s) (hT : TxtsOK s) (c : Nat) (hc : c < 30) : RetI V (d + 2) mX1_roomOf [vR B, vI (nI c)] μ (roomF s c) (Fr [1, 6] μ) := by
  show Go V (d + 2) mX1_roomOf 0 [some (vR B), some (vI (nI c)), none, none] [] μ _
  cases hl : lawN s (nI 2) (nX s) with
  | none =>
    refine Go.aload_n dX1_roomOf_0 rfl ?_
    refine Go.getR dX1_roomOf_1 flX1_37 (fB12 hB) ?_
    refine Go.iconst (v := nI 2) dX1_roomOf_4 rfl ?_
    refine Go.aload_n dX1_roomOf_5 rfl ?_
    refine Go.getI dX1_roomOf_6 flX1_63 (fBi hB 11 (by decide) (by decide)) ?_
    refine Go.topE (y := nI (nX s)) (hI.2.2.2.2.2.2.2.trans hT.2.1) ?_
    refine Go.callVi 1 [vI (nI 2), vI (nI (nX s))] [] dX1_roomOf_9 lkX1_77 (Or.inl ⟨_, _, _, rfl, rfl, rfl⟩) rfl (Nat.le_of_ble_eq_true rfl) rfl (Nat.le_of_ble_eq_true rfl) (c_lastOf (nI 2) (nX s) hT.1 (fun t ht => (hX t ht).1)) ?_
    refine Go.topE (y := (-1000000005)) (by rw [hl]; rfl) ?_
    refine Go.at 12 rfl ?_
    refine Go.istore_n (ls' := [some (vR B), some (vI (nI c)), some (vI (-1000000005)), none]) dX1_roomOf_12 (by decide) rfl ?_
    refine Go.iload_n dX1_roomOf_13 rfl ?_
    refine Go.ldc dX1_roomOf_14 cnX1_41 ?_
    refine Go.icmp_ne_f (tgt := 24) dX1_roomOf_16 (by decide) (by decide) ?_
    refine Go.bipush (v := nI 10) dX1_roomOf_19 rfl ?_
    refine Go.goto (tgt := 50) dX1_roomOf_21 (by decide) ?_
    refine Go.at 50 rfl ?_
    refine Go.istore_n (ls' := [some (vR B), some (vI (nI c)), some (vI (-1000000005)), some (vI (nI 10))]) dX1_roomOf_50 (by decide) rfl ?_
    refine Go.aload_n dX1_roomOf_51 rfl ?_
    refine Go.getR dX1_roomOf_52 flX1_9 (fBr hB 0 (by decide)) ?_
    refine Go.iload_n dX1_roomOf_55 rfl ?_
    refine Go.iaload c dX1_roomOf_56 (alB1 hB) (by omega) rfl ?_
    refine Go.topE (s (11 + 4 * c)) ((hI.1 c hc).1) ?_
    refine Go.iload_n dX1_roomOf_57 rfl ?_
    refine Go.at 58 rfl ?_
    refine Go.aload_n dX1_roomOf_58 rfl ?_
    refine Go.getR dX1_roomOf_59 flX1_18 (fBr hB 2 (by decide)) ?_
    refine Go.iload_n dX1_roomOf_62 rfl ?_
    refine Go.iaload c dX1_roomOf_63 (alB3 hB) (by omega) rfl ?_
    refine Go.topE (s (11 + 4 * c + 2)) ((hI.1 c hc).2.2.1) ?_
    refine Go.callSi [vI (s (11 + 4 * c)), vI (nI 10), vI (s (11 + 4 * c + 2))] [] dX1_roomOf_64 lkX1_93 rfl (Nat.le_of_ble_eq_true rfl) rfl (Nat.le_of_ble_eq_true rfl) (c_roomOf (s (11 + 4 * c)) (nI 10) (s (11 + 4 * c + 2))) ?_
    refine Go.ireturn .int dX1_roomOf_67 rfl rfl ?_
    exact ⟨by unfold roomF landF; rw [hl], Fr.rf _ _⟩
  | some l =>
    have hl14 : l < 14 := Nat.lt_of_lt_of_le (lawN_lt hl).1 hT.1
    refine Go.aload_n dX1_roomOf_0 rfl ?_
    refine Go.getR dX1_roomOf_1 flX1_37 (fB12 hB) ?_
    refine Go.iconst (v := nI 2) dX1_roomOf_4 rfl ?_
    refine Go.aload_n dX1_roomOf_5 rfl ?_
    refine Go.getI dX1_roomOf_6 flX1_63 (fBi hB 11 (by decide) (by decide)) ?_
    refine Go.topE (y := nI (nX s)) (hI.2.2.2.2.2.2.2.trans hT.2.1) ?_
    refine Go.callVi 1 [vI (nI 2), vI (nI (nX s))] [] dX1_roomOf_9 lkX1_77 (Or.inl ⟨_, _, _, rfl, rfl, rfl⟩) rfl (Nat.le_of_ble_eq_true rfl) rfl (Nat.le_of_ble_eq_true rfl) (c_lastOf (nI 2) (nX s) hT.1 (fun t ht => (hX t ht).1)) ?_
    refine Go.topE (y := nI l) (by rw [hl]; exact oN_nI (by omega)) ?_
    refine Go.at 12 rfl ?_
    refine Go.istore_n (ls' := [some (vR B), some (vI (nI c)), some (vI (nI l)), none]) dX1_roomOf_12 (by decide) rfl ?_
    refine Go.iload_n dX1_roomOf_13 rfl ?_
    refine Go.ldc dX1_roomOf_14 cnX1_41 ?_
    refine Go.icmp_ne_t (tgt := 24) dX1_roomOf_16 (by decide) (nI_NONE (by omega)) ?_
    refine Go.aload_n dX1_roomOf_24 rfl ?_
    refine Go.getR dX1_roomOf_25 flX1_37 (fB12 hB) ?_
    refine Go.at 28 rfl ?_
    refine Go.iload_n dX1_roomOf_28 rfl ?_
    refine Go.aload_n dX1_roomOf_29 rfl ?_
    refine Go.iload_n dX1_roomOf_30 rfl ?_
    refine Go.callVi B [vI (nI c)] [vI (nI l), vR 1] dX1_roomOf_31 lkX1_83 (rcB hB) rfl (Nat.le_of_ble_eq_true rfl) rfl (Nat.le_of_ble_eq_true rfl) (c_top hB hI c hc) ?_
    refine Go.aload_n dX1_roomOf_34 rfl ?_
    refine Go.getR dX1_roomOf_35 flX1_15 (fBr hB 1 (by decide)) ?_
    refine Go.at 38 rfl ?_
    refine Go.iload_n dX1_roomOf_38 rfl ?_
    refine Go.iaload c dX1_roomOf_39 (alB2 hB) (by omega) rfl ?_
    refine Go.topE (s (11 + 4 * c + 1)) ((hI.1 c hc).2.1) ?_
    refine Go.iconst (v := nI 0) dX1_roomOf_40 rfl ?_
    refine Go.callVx 1 [vI (nI l), vI (tpF s c), vI (s (11 + 4 * c + 1)), vI (nI 0)] [] dX1_roomOf_41 lkX1_86 (Or.inl ⟨_, _, _, rfl, rfl, rfl⟩) rfl (Nat.le_of_ble_eq_true rfl) rfl (Nat.le_of_ble_eq_true rfl) (c_law (c := (nI 0)) hX hT hl) (fun μ9 k9 => ?_)
    have hI9 : Isl B μ9 s := hI.fr hB k9
    refine Go.iconst (v := nI 0) dX1_roomOf_44 rfl ?_
    refine Go.bipush (v := nI 99) dX1_roomOf_45 rfl ?_
    refine Go.at 47 rfl ?_
    refine Go.callNi [vI (valT s l (envK (nI 2) (tpF s c) (s (11 + 4 * c + 1)) (nI 0))), vI (nI 0), vI (nI 99)] [] dX1_roomOf_47 rfl rfl lkHold rfl (Nat.le_of_ble_eq_true rfl) rfl (Nat.le_of_ble_eq_true rfl) ((c_hold (valT s l (envK (nI 2) (tpF s c) (s (11 + 4 * c + 1)) (nI 0))) (nI 0) (nI 99)).eq (hold_eq _ _ (by decide))) ?_
    refine Go.istore_n (ls' := [some (vR B), some (vI (nI c)), some (vI (nI l)), some (vI (wiF (valT s l (envK (nI 2) (tpF s c) (s (11 + 4 * c + 1)) (nI 0))) (nI 99)))]) dX1_roomOf_50 (by decide) rfl ?_
    refine Go.aload_n dX1_roomOf_51 rfl ?_
    refine Go.getR dX1_roomOf_52 flX1_9 (fBr hB 0 (by decide)) ?_
    refine Go.iload_n dX1_roomOf_55 rfl ?_
    refine Go.iaload c dX1_roomOf_56 (alB1 hB) (by omega) rfl ?_
    refine Go.topE (s (11 + 4 * c)) ((hI9.1 c hc).1) ?_
    refine Go.at 57 rfl ?_
    refine Go.iload_n dX1_roomOf_57 rfl ?_
    refine Go.aload_n dX1_roomOf_58 rfl ?_
    refine Go.getR dX1_roomOf_59 flX1_18 (fBr hB 2 (by decide)) ?_
    refine Go.iload_n dX1_roomOf_62 rfl ?_
    refine Go.iaload c dX1_roomOf_63 (alB3 hB) (by omega) rfl ?_
    refine Go.topE (s (11 + 4 * c + 2)) ((hI9.1 c hc).2.2.1) ?_
    refine Go.callSi [vI (s (11 + 4 * c)), vI (wiF (valT s l (envK (nI 2) (tpF s c) (s (11 + 4 * c + 1)) (nI 0))) (nI 99)), vI (s (11 + 4 * c + 2))] [] dX1_roomOf_64 lkX1_93 rfl (Nat.le_of_ble_eq_true rfl) rfl (Nat.le_of_ble_eq_true rfl) (c_roomOf (s (11 + 4 * c)) (wiF (valT s l (envK (nI 2) (tpF s c) (s (11 + 4 * c + 1)) (nI 0))) (nI 99)) (s (11 + 4 * c + 2))) ?_
    refine Go.at 67 rfl ?_
    refine Go.ireturn .int dX1_roomOf_67 rfl rfl ?_
    exact ⟨by unfold roomF landF; rw [hl], k9⟩
theorem c_dry_lp {V : VV} {d : Nat} {μ : Memo} {s : Nat → Int32} {B : Nat} (hB : isB B) (hI : Isl B μ s) (l : Int32) {μ0 : Memo} (hf : Fr [1, 6] μ0 μ) (t : Int32) :
    ∀ (j c : Nat), c + j = 30 → Go V (d + 2) mX1_dryCells 11 [some (vR B), some (vI t), some (vI l), some (vI (drL s l c)), some (vI (nI c))] [] μ (fun r' μ'' => r' = some (vI (drL s l 30)) ∧ Fr [1, 6] μ0 μ'')
  | 0, c, h => by
    obtain rfl : c = 30 := by omega
    refine Go.iload dX1_dryCells_11 rfl ?_
    refine Go.bipush (v := nI 30) dX1_dryCells_13 rfl ?_
    refine Go.icmp_ge_t (tgt := 41) dX1_dryCells_15 (by decide) (by decide) ?_
    refine Go.iload_n dX1_dryCells_41 rfl ?_
    refine Go.ireturn .int dX1_dryCells_42 rfl rfl ?_
    exact ⟨rfl, hf⟩
  | j + 1, c, h => by
    have hc : c < 30 := by omega
    refine Go.iload dX1_dryCells_11 rfl ?_
    refine Go.bipush (v := nI 30) dX1_dryCells_13 rfl ?_
    refine Go.icmp_ge_f (tgt := 41) dX1_dryCells_15 (by decide) (nI_ge hc (by decide)) ?_
    refine Go.aload_n dX1_dryCells_18 rfl ?_
    refine Go.iload dX1_dryCells_19 rfl ?_
    refine Go.callVi B [vI (nI c)] [] dX1_dryCells_21 lkX1_83 (rcB hB) rfl (Nat.le_of_ble_eq_true rfl) rfl (Nat.le_of_ble_eq_true rfl) (c_top hB hI c hc) ?_
    refine Go.at 24 rfl ?_
    refine Go.iload_n dX1_dryCells_24 rfl ?_
    refine Go.icmp_le (tgt := 35) dX1_dryCells_25 (by decide) (fun h25 => ?_) (fun h25 => ?_)
    · -- 25 taken
      refine Go.iinc (v := nI (c + 1)) (ls' := [some (vR B), some (vI t), some (vI l), some (vI (drL s l c)), some (vI (nI (c + 1)))]) dX1_dryCells_35 rfl (nI_add _ _) (by decide) rfl ?_
      refine Go.goto (tgt := 11) dX1_dryCells_38 (by decide) ?_
      rw [show drL s l c = drL s l (c + 1) from (by rw [drL]; simp only [sI_lt, sI_le] at *; first | (rw [if_pos (by omega)]) | (rw [if_neg (by omega)]))]
      exact c_dry_lp hB hI l hf t j (c + 1) (by omega)
    · -- 25 not
      refine Go.iload_n dX1_dryCells_28 rfl ?_
      refine Go.iconst (v := nI 1) dX1_dryCells_29 rfl ?_
      refine Go.iload dX1_dryCells_30 rfl ?_
      refine Go.ishl dX1_dryCells_32 ?_
      refine Go.ior dX1_dryCells_33 ?_
      refine Go.istore_n (ls' := [some (vR B), some (vI t), some (vI l), some (vI ((drL s l c) ||| ((nI 1) <<< ((nI c) &&& 31)))), some (vI (nI c))]) dX1_dryCells_34 (by decide) rfl ?_
      refine Go.at 35 rfl ?_
      refine Go.iinc (v := nI (c + 1)) (ls' := [some (vR B), some (vI t), some (vI l), some (vI ((drL s l c) ||| ((nI 1) <<< ((nI c) &&& 31)))), some (vI (nI (c + 1)))]) dX1_dryCells_35 rfl (nI_add _ _) (by decide) rfl ?_
      refine Go.goto (tgt := 11) dX1_dryCells_38 (by decide) ?_
      rw [show (drL s l c) ||| ((nI 1) <<< ((nI c) &&& 31)) = drL s l (c + 1) from (by rw [drL]; simp only [sI_lt, sI_le] at *; first | (rw [if_pos (by omega)]) | (rw [if_neg (by omega)]))]
      exact c_dry_lp hB hI l hf t j (c + 1) (by omega)
theorem c_dry {V : VV} {d : Nat} {μ : Memo} {s : Nat → Int32} {B : Nat} (hB : isB B) (hI : Isl B μ s) (hX : Txr μ s) (hT : TxtsOK s) (t : Int32) : RetI V (d + 3) mX1_dryCells [vR B, vI t] μ (dryF s t) (Fr [1, 6] μ) := by
  show Go V (d + 3) mX1_dryCells 0 [some (vR B), some (vI t), none, none, none] [] μ _
  refine Go.aload_n dX1_dryCells_0 rfl ?_
  refine Go.iload_n dX1_dryCells_1 rfl ?_
  refine Go.callVx B [vI t] [] dX1_dryCells_2 lkX1_99 (rcB hB) rfl (Nat.le_of_ble_eq_true rfl) rfl (Nat.le_of_ble_eq_true rfl) (c_level hB hI hX hT t) (fun μ1 k1 => ?_)
  have hI1 : Isl B μ1 s := hI.fr hB k1
  have hX1 : Txr μ1 s := hX.fr hT.1 k1
  refine Go.istore_n (ls' := [some (vR B), some (vI t), some (vI (levelF s t)), none, none]) dX1_dryCells_5 (by decide) rfl ?_
  refine Go.iconst (v := nI 0) dX1_dryCells_6 rfl ?_
  refine Go.istore_n (ls' := [some (vR B), some (vI t), some (vI (levelF s t)), some (vI (nI 0)), none]) dX1_dryCells_7 (by decide) rfl ?_
  refine Go.at 8 rfl ?_
  refine Go.iconst (v := nI 0) dX1_dryCells_8 rfl ?_
  refine Go.istore (ls' := [some (vR B), some (vI t), some (vI (levelF s t)), some (vI (nI 0)), some (vI (nI 0))]) dX1_dryCells_9 (by decide) rfl ?_
  exact c_dry_lp hB hI1 _ k1 t 30 0 (by omega)
theorem c_size {V : VV} {d : Nat} {μ : Memo} {s : Nat → Int32} {B : Nat} (hB : isB B) (hI : Isl B μ s) (hX : Txr μ s) (hT : TxtsOK s) (t : Int32) : RetI V (d + 4) mX1_sizeAt [vR B, vI t] μ (bitC (dryF s t)) (Fr [1, 6] μ) := by
  show Go V (d + 4) mX1_sizeAt 0 [some (vR B), some (vI t)] [] μ _
  refine Go.aload_n dX1_sizeAt_0 rfl ?_
  refine Go.iload_n dX1_sizeAt_1 rfl ?_
  refine Go.callVx B [vI t] [] dX1_sizeAt_2 lkX1_102 (rcB hB) rfl (Nat.le_of_ble_eq_true rfl) rfl (Nat.le_of_ble_eq_true rfl) (c_dry hB hI hX hT t) (fun μ1 k1 => ?_)
  have hI1 : Isl B μ1 s := hI.fr hB k1
  have hX1 : Txr μ1 s := hX.fr hT.1 k1
  refine Go.callSi [vI (dryF s t)] [] dX1_sizeAt_5 lkX1_105 rfl (Nat.le_of_ble_eq_true rfl) rfl (Nat.le_of_ble_eq_true rfl) (c_bitCount (dryF s t)) ?_
  refine Go.ireturn .int dX1_sizeAt_8 rfl rfl ?_
  exact ⟨rfl, k1⟩
