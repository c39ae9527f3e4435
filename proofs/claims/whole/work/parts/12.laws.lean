/-! ===== laws: which one counts, what one gives ===== -/
def lawN (s : Nat → Int32) (key : Int32) : Nat → Option Nat
  | 0 => none
  | n + 1 => if s (147 + 200 * n) = key then some n else lawN s key n
def oI (o : Option Nat) : Int32 := match o with
  | none => (-1)
  | some t => nI t
theorem lawN_lt {s : Nat → Int32} {key : Int32} : ∀ {n t : Nat}, lawN s key n = some t → t < n ∧ s (147 + 200 * t) = key
  | 0, t, h => by cases h
  | n + 1, t, h => by
    unfold lawN at h
    split at h
    · cases h; exact ⟨by omega, by assumption⟩
    · have := lawN_lt h; exact ⟨by omega, this.2⟩
/-- the steps of text t -/
def tW (s : Nat → Int32) (t k : Nat) : Int32 := s (147 + 200 * t + 4 + 2 * k)
def tV (s : Nat → Int32) (t k : Nat) : Int32 := s (147 + 200 * t + 4 + 2 * k + 1)
def stR (env : Int32 → Int32) (w v : Int32) (q : Nat × (Nat → Int32)) : Nat × (Nat → Int32) :=
  if w = nI 2 then (if v = nI 33 then (q.1, upd q.2 (q.1 - 1) (if q.2 (q.1 - 1) = 0 then nI 1 else nI 0)) else (q.1 - 1, upd q.2 (q.1 - 2) (joinM v (q.2 (q.1 - 2)) (q.2 (q.1 - 1)))))
  else (q.1 + 1, upd q.2 q.1 (if w = 0 then v else env v))
def rnR (env : Int32 → Int32) (W Vv : Nat → Int32) (f0 : Nat → Int32) : Nat → Nat × (Nat → Int32)
  | 0 => (0, f0)
  | k + 1 => stR env (W k) (Vv k) (rnR env W Vv f0 k)
def dpR (W Vv : Nat → Int32) : Nat → Nat
  | 0 => 0
  | k + 1 => if W k = nI 2 then (if Vv k = nI 33 then dpR W Vv k else dpR W Vv k - 1) else dpR W Vv k + 1
theorem rnR_dp (env : Int32 → Int32) (W Vv f0 : Nat → Int32) : ∀ k, (rnR env W Vv f0 k).1 = dpR W Vv k
  | 0 => rfl
  | k + 1 => by
    have ih := rnR_dp env W Vv f0 k
    show (stR env (W k) (Vv k) (rnR env W Vv f0 k)).1 = _
    unfold stR dpR
    split
    · split
      · exact ih
      · show (rnR env W Vv f0 k).1 - 1 = _; rw [ih]
    · show (rnR env W Vv f0 k).1 + 1 = _; rw [ih]
theorem dpR_le (W Vv : Nat → Int32) : ∀ k, dpR W Vv k ≤ k
  | 0 => Nat.le_refl 0
  | k + 1 => by
    have ih := dpR_le W Vv k
    unfold dpR
    split
    · split <;> omega
    · omega
/-- a step of a text that is in order, with so many on the pile: a number, a name of the key, a sign -/
abbrev stepOK (key w v : Int32) (dp : Nat) : Prop :=
  (w = nI 0 ∧ 0 ≤ v) ∨ (w = nI 1 ∧ nameP key v) ∨ (w = nI 2 ∧ v = nI 33 ∧ 1 ≤ dp) ∨ (w = nI 2 ∧ signP v ∧ 2 ≤ dp)
def envK (key a b c v : Int32) : Int32 := if key = nI 0 then (if v = nI 104 then a else if v = nI 100 then b else c) else if key = nI 1 then (if v = nI 99 then a else b) else (if v = nI 116 then a else b)
theorem name_idx {key v : Int32} (h : nameP key v) : v = nI v.toNatClampNeg ∧ v.toNatClampNeg < 128 := by
  have : v = nI 104 ∨ v = nI 100 ∨ v = nI 115 ∨ v = nI 99 ∨ v = nI 116 := by
    unfold nameP at h
    split at h
    · rcases h with h | h | h <;> simp [h]
    · split at h
      · rcases h with h | h <;> simp [h]
      · rcases h with h | h <;> simp [h]
  rcases this with rfl | rfl | rfl | rfl | rfl <;> exact ⟨rfl, by decide⟩
theorem sign_no33 {v : Int32} (h : signP v) : ¬ v = nI 33 := by
  rcases h with rfl | rfl | rfl | rfl | rfl | rfl | rfl | rfl | rfl <;> decide
theorem dec_nI {n : Nat} (h : 1 ≤ n) : nI n + Int32.ofInt (-1) = nI (n - 1) := by
  obtain ⟨k, rfl⟩ : ∃ k, n = k + 1 := ⟨n - 1, by omega⟩
  exact pk_m1 k
theorem dec_any (x : Int32) : x + Int32.ofInt (-1) = x - nI 1 := by
  rw [Int32.sub_eq_add_neg]
  rfl

theorem m_textAt {V : VV} {d : Nat} {μ : Memo} (t : Nat) : Ret V (d) mX9_textAt [vR 76, vI (nI t)] μ (some (vI (nI (147 + (200 * t))))) μ := by
  show Go V (d) mX9_textAt 0 [some (vR 76), some (vI (nI t))] [] μ _
  refine Go.sipush (v := nI 147) dX9_textAt_0 rfl ?_
  refine Go.sipush (v := nI 200) dX9_textAt_3 rfl ?_
  refine Go.iload_n dX9_textAt_6 rfl ?_
  refine Go.imulN dX9_textAt_7 ?_
  refine Go.iaddN dX9_textAt_8 ?_
  refine Go.ireturn .int dX9_textAt_9 rfl rfl ?_
  exact ⟨rfl, rfl⟩
theorem m_of {V : VV} {d : Nat} {μ : Memo} {s : Nat → Int32} (hs : μ 77 = s) (c w : Nat) (hc : c < 30) (hw : w < 4) : Ret V (d) mX9_of [vR 76, vI (nI c), vI (nI w)] μ (some (vI (s (11 + 4 * c + w)))) μ := by
  show Go V (d) mX9_of 0 [some (vR 76), some (vI (nI c)), some (vI (nI w))] [] μ _
  refine Go.aload_n dX9_of_0 rfl ?_
  refine Go.getR dX9_of_1 flX9_7 rfl ?_
  refine Go.bipush (v := nI 11) dX9_of_4 rfl ?_
  refine Go.iconst (v := nI 4) dX9_of_6 rfl ?_
  refine Go.iload_n dX9_of_7 rfl ?_
  refine Go.imulN dX9_of_8 ?_
  refine Go.at 9 rfl ?_
  refine Go.iaddN dX9_of_9 ?_
  refine Go.iload_n dX9_of_10 rfl ?_
  refine Go.iaddN dX9_of_11 ?_
  refine Go.iaload ((11 + (4 * c)) + w) dX9_of_12 rfl (by omega) rfl ?_
  refine Go.topE (s ((11 + (4 * c)) + w)) (congrFun hs _) ?_
  refine Go.ireturn .int dX9_of_13 rfl rfl ?_
  exact ⟨rfl, rfl⟩
theorem m_counts_lp {V : VV} {d : Nat} {μ : Memo} {s : Nat → Int32} (hs : μ 77 = s) {n : Nat} (hn : s 1 = nI n) (hn14 : n ≤ 14) (key : Int32) :
    ∀ (j i : Nat), i + j = n → Go V (d + 1) mX9_counts 4 [some (vR 76), some (vI key), some (vI (oI (lawN s key i))), some (vI (nI i))] [] μ (fun r' μ'' => r' = some (vI (oI (lawN s key n))) ∧ μ'' = μ)
  | 0, i, h => by
    obtain rfl : i = n := by omega
    refine Go.iload_n dX9_counts_4 rfl ?_
    refine Go.aload_n dX9_counts_5 rfl ?_
    refine Go.getR dX9_counts_6 flX9_7 rfl ?_
    refine Go.iconst (v := nI 1) dX9_counts_9 rfl ?_
    
    refine Go.iaload 1 dX9_counts_10 rfl (by omega) rfl ?_
    refine Go.topE (y := nI i) ((congrFun hs _).trans hn) ?_
    refine Go.icmp_ge_t (tgt := 40) dX9_counts_11 (by decide) (nI_le (by omega) (by omega)) ?_
    refine Go.at 40 rfl ?_
    refine Go.iload_n dX9_counts_40 rfl ?_
    refine Go.ireturn .int dX9_counts_41 rfl rfl ?_
    exact ⟨rfl, rfl⟩
  | j + 1, i, h => by
    have hi : i < n := by omega
    refine Go.iload_n dX9_counts_4 rfl ?_
    refine Go.aload_n dX9_counts_5 rfl ?_
    refine Go.getR dX9_counts_6 flX9_7 rfl ?_
    refine Go.iconst (v := nI 1) dX9_counts_9 rfl ?_
    refine Go.iaload 1 dX9_counts_10 rfl (by omega) rfl ?_
    refine Go.topE (y := nI n) ((congrFun hs _).trans hn) ?_
    refine Go.icmp_ge_f (tgt := 40) dX9_counts_11 (by decide) (nI_ge hi (by omega)) ?_
    refine Go.at 14 rfl ?_
    refine Go.aload_n dX9_counts_14 rfl ?_
    refine Go.getR dX9_counts_15 flX9_7 rfl ?_
    refine Go.aload_n dX9_counts_18 rfl ?_
    refine Go.iload_n dX9_counts_19 rfl ?_
    refine Go.callVi 76 [vI (nI i)] [vR 77] dX9_counts_20 lkX9_267 (Or.inl ⟨_, _, _, rfl, rfl, rfl⟩) rfl (Nat.le_of_ble_eq_true rfl) rfl (Nat.le_of_ble_eq_true rfl) (m_textAt i) ?_
    refine Go.iaload (147 + (200 * i)) dX9_counts_23 rfl (by omega) rfl ?_
    refine Go.topE (y := s (147 + 200 * i)) (congrFun hs _) ?_
    refine Go.at 24 rfl ?_
    refine Go.iload_n dX9_counts_24 rfl ?_
    refine Go.icmp_ne (tgt := 32) dX9_counts_25 (by decide) (fun h25 => ?_) (fun h25 => ?_)
    · -- 25 taken
      refine Go.iload_n dX9_counts_32 rfl ?_
      refine Go.istore_n (ls' := [some (vR 76), some (vI key), some (vI (oI (lawN s key i))), some (vI (nI i))]) dX9_counts_33 (by decide) rfl ?_
      refine Go.iinc (v := nI (i + 1)) (ls' := [some (vR 76), some (vI key), some (vI (oI (lawN s key i))), some (vI (nI (i + 1)))]) dX9_counts_34 rfl (nI_add _ _) (by decide) rfl ?_
      refine Go.goto (tgt := 4) dX9_counts_37 (by decide) ?_
      refine Go.mask [true, true, true, true] rfl ?_
      rw [show oI (lawN s key i) = oI (lawN s key (i + 1)) from (by simp [lawN, h25, oI])]
      exact m_counts_lp hs hn hn14 key j (i + 1) (by omega)
    · -- 25 not
      refine Go.iload_n dX9_counts_28 rfl ?_
      refine Go.goto (tgt := 33) dX9_counts_29 (by decide) ?_
      refine Go.istore_n (ls' := [some (vR 76), some (vI key), some (vI (nI i)), some (vI (nI i))]) dX9_counts_33 (by decide) rfl ?_
      refine Go.iinc (v := nI (i + 1)) (ls' := [some (vR 76), some (vI key), some (vI (nI i)), some (vI (nI (i + 1)))]) dX9_counts_34 rfl (nI_add _ _) (by decide) rfl ?_
      refine Go.goto (tgt := 4) dX9_counts_37 (by decide) ?_
      refine Go.mask [true, true, true, true] rfl ?_
      rw [show nI i = oI (lawN s key (i + 1)) from (by simp [lawN, h25, oI])]
      exact m_counts_lp hs hn hn14 key j (i + 1) (by omega)
theorem m_counts {V : VV} {d : Nat} {μ : Memo} {s : Nat → Int32} (hs : μ 77 = s) {n : Nat} (hn : s 1 = nI n) (hn14 : n ≤ 14) (key : Int32) : Ret V (d + 1) mX9_counts [vR 76, vI key] μ (some (vI (oI (lawN s key n)))) μ := by
  show Go V (d + 1) mX9_counts 0 [some (vR 76), some (vI key), none, none] [] μ _
  refine Go.iconst (v := (-1)) dX9_counts_0 rfl ?_
  refine Go.istore_n (ls' := [some (vR 76), some (vI key), some (vI (-1)), none]) dX9_counts_1 (by decide) rfl ?_
  refine Go.iconst (v := nI 0) dX9_counts_2 rfl ?_
  refine Go.istore_n (ls' := [some (vR 76), some (vI key), some (vI (-1)), some (vI (nI 0))]) dX9_counts_3 (by decide) rfl ?_
  exact m_counts_lp hs hn hn14 key n 0 (by omega)
theorem m_worked_lp {V : VV} {d : Nat} {μ0 : Memo} {s : Nat → Int32} (hs : μ0 77 = s) {t n : Nat} (ht : t < 14) (hn : s (147 + 200 * t + 2) = nI n) (hn96 : n ≤ 96) {key : Int32} (hok : ∀ k, k < n → stepOK key (tW s t k) (tV s t k) (dpR (tW s t) (tV s t) k)) (hdn : dpR (tW s t) (tV s t) n = 1) (f0 : Nat → Int32) :
    ∀ (j k : Nat) (N : Nat) (f : Nat → Int32) (μ : Memo), k + j = n → rnR (fun v => μ0 90 v.toNatClampNeg) (tW s t) (tV s t) f0 k = (N, f) → Fr [91] μ0 μ → μ 91 = f →
      Go V (d + 1) mX9_worked 4 [some (vR 76), some (vI (nI t)), some (vI (nI N)), some (vI (nI k)), none, none] [] μ (fun r' μ'' => r' = some (vI ((rnR (fun v => μ0 90 v.toNatClampNeg) (tW s t) (tV s t) f0 n).2 0)) ∧ Fr [91] μ0 μ'')
  | 0, k, N, f, μ, h, hr, hfr, hf => by
    obtain rfl : k = n := by omega
    have hs1 : μ 77 = s := (hfr 77 (by decide)).trans hs
    refine Go.iload_n dX9_worked_4 rfl ?_
    refine Go.aload_n dX9_worked_5 rfl ?_
    refine Go.getR dX9_worked_6 flX9_7 rfl ?_
    refine Go.aload_n dX9_worked_9 rfl ?_
    refine Go.iload_n dX9_worked_10 rfl ?_
    refine Go.callVi 76 [vI (nI t)] [vR 77, vI (nI k)] dX9_worked_11 lkX9_267 (Or.inl ⟨_, _, _, rfl, rfl, rfl⟩) rfl (Nat.le_of_ble_eq_true rfl) rfl (Nat.le_of_ble_eq_true rfl) (m_textAt t) ?_
    refine Go.at 14 rfl ?_
    refine Go.iconst (v := nI 2) dX9_worked_14 rfl ?_
    refine Go.iaddN dX9_worked_15 ?_
    refine Go.iaload ((147 + (200 * t)) + 2) dX9_worked_16 rfl (by omega) rfl ?_
    refine Go.topE (y := nI k) ((congrFun hs1 _).trans hn) ?_
    refine Go.icmp_ge_t (tgt := 163) dX9_worked_17 (by decide) (nI_le (by omega) (by omega)) ?_
    refine Go.aload_n dX9_worked_163 rfl ?_
    refine Go.getR dX9_worked_164 flX9_52 rfl ?_
    refine Go.at 167 rfl ?_
    refine Go.iconst (v := nI 0) dX9_worked_167 rfl ?_
    refine Go.iaload 0 dX9_worked_168 rfl (by omega) rfl ?_
    refine Go.ireturn .int dX9_worked_169 rfl rfl ?_
    exact ⟨by rw [hr]; exact congrArg (fun z => some (vI z)) (congrFun hf 0), hfr⟩
  | j + 1, k, N, f, μ, h, hr, hfr, hf => by
    have hk : k < n := by omega
    have hs1 : μ 77 = s := (hfr 77 (by decide)).trans hs
    have h90 : μ 90 = μ0 90 := hfr 90 (by decide)
    have hN : N = dpR (tW s t) (tV s t) k := by rw [← rnR_dp (fun v => μ0 90 v.toNatClampNeg) (tW s t) (tV s t) f0 k, hr]
    have hNk : N ≤ k := by rw [hN]; exact dpR_le _ _ k
    have hst : rnR (fun v => μ0 90 v.toNatClampNeg) (tW s t) (tV s t) f0 (k + 1) = stR (fun v => μ0 90 v.toNatClampNeg) (tW s t k) (tV s t k) (N, f) := by rw [← hr]; rfl
    rcases hok k hk with ⟨hw, hv⟩ | ⟨hw, hnm⟩ | ⟨hw, hv, hdp⟩ | ⟨hw, hsg, hdp⟩
    · -- a number
      refine Go.iload_n dX9_worked_4 rfl ?_
      refine Go.aload_n dX9_worked_5 rfl ?_
      refine Go.getR dX9_worked_6 flX9_7 rfl ?_
      refine Go.aload_n dX9_worked_9 rfl ?_
      refine Go.iload_n dX9_worked_10 rfl ?_
      refine Go.callVi 76 [vI (nI t)] [vR 77, vI (nI k)] dX9_worked_11 lkX9_267 (Or.inl ⟨_, _, _, rfl, rfl, rfl⟩) rfl (Nat.le_of_ble_eq_true rfl) rfl (Nat.le_of_ble_eq_true rfl) (m_textAt t) ?_
      refine Go.at 14 rfl ?_
      refine Go.iconst (v := nI 2) dX9_worked_14 rfl ?_
      refine Go.iaddN dX9_worked_15 ?_
      refine Go.iaload ((147 + (200 * t)) + 2) dX9_worked_16 rfl (by omega) rfl ?_
      refine Go.topE (y := nI n) ((congrFun hs1 _).trans hn) ?_
      refine Go.icmp_ge_f (tgt := 163) dX9_worked_17 (by decide) (nI_ge hk (by omega)) ?_
      refine Go.aload_n dX9_worked_20 rfl ?_
      refine Go.getR dX9_worked_21 flX9_7 rfl ?_
      refine Go.at 24 rfl ?_
      refine Go.aload_n dX9_worked_24 rfl ?_
      refine Go.iload_n dX9_worked_25 rfl ?_
      refine Go.callVi 76 [vI (nI t)] [vR 77] dX9_worked_26 lkX9_267 (Or.inl ⟨_, _, _, rfl, rfl, rfl⟩) rfl (Nat.le_of_ble_eq_true rfl) rfl (Nat.le_of_ble_eq_true rfl) (m_textAt t) ?_
      refine Go.iconst (v := nI 4) dX9_worked_29 rfl ?_
      refine Go.iaddN dX9_worked_30 ?_
      refine Go.iconst (v := nI 2) dX9_worked_31 rfl ?_
      refine Go.at 32 rfl ?_
      refine Go.iload_n dX9_worked_32 rfl ?_
      refine Go.imulN dX9_worked_33 ?_
      refine Go.iaddN dX9_worked_34 ?_
      refine Go.iaload (((147 + (200 * t)) + 4) + (2 * k)) dX9_worked_35 rfl (by omega) rfl ?_
      refine Go.topE (y := tW s t k) (congrFun hs1 _) ?_
      refine Go.istore (ls' := [some (vR 76), some (vI (nI t)), some (vI (nI N)), some (vI (nI k)), some (vI (tW s t k)), none]) dX9_worked_36 (by decide) rfl ?_
      refine Go.aload_n dX9_worked_38 rfl ?_
      refine Go.at 39 rfl ?_
      refine Go.getR dX9_worked_39 flX9_7 rfl ?_
      refine Go.aload_n dX9_worked_42 rfl ?_
      refine Go.iload_n dX9_worked_43 rfl ?_
      refine Go.callVi 76 [vI (nI t)] [vR 77] dX9_worked_44 lkX9_267 (Or.inl ⟨_, _, _, rfl, rfl, rfl⟩) rfl (Nat.le_of_ble_eq_true rfl) rfl (Nat.le_of_ble_eq_true rfl) (m_textAt t) ?_
      refine Go.iconst (v := nI 4) dX9_worked_47 rfl ?_
      refine Go.iaddN dX9_worked_48 ?_
      refine Go.at 49 rfl ?_
      refine Go.iconst (v := nI 2) dX9_worked_49 rfl ?_
      refine Go.iload_n dX9_worked_50 rfl ?_
      refine Go.imulN dX9_worked_51 ?_
      refine Go.iaddN dX9_worked_52 ?_
      refine Go.iconst (v := nI 1) dX9_worked_53 rfl ?_
      refine Go.iaddN dX9_worked_54 ?_
      refine Go.at 55 rfl ?_
      refine Go.iaload ((((147 + (200 * t)) + 4) + (2 * k)) + 1) dX9_worked_55 rfl (by omega) rfl ?_
      refine Go.topE (y := tV s t k) (congrFun hs1 _) ?_
      refine Go.istore (ls' := [some (vR 76), some (vI (nI t)), some (vI (nI N)), some (vI (nI k)), some (vI (tW s t k)), some (vI (tV s t k))]) dX9_worked_56 (by decide) rfl ?_
      refine Go.iload dX9_worked_58 rfl ?_
      refine Go.iconst (v := nI 2) dX9_worked_60 rfl ?_
      refine Go.icmp_eq_f (tgt := 93) dX9_worked_61 (by decide) (by rw [hw]; decide) ?_
      refine Go.aload_n dX9_worked_64 rfl ?_
      refine Go.at 65 rfl ?_
      refine Go.getR dX9_worked_65 flX9_52 rfl ?_
      refine Go.iload_n dX9_worked_68 rfl ?_
      refine Go.iload dX9_worked_69 rfl ?_
      refine Go.if_ne_f (tgt := 79) dX9_worked_71 (by decide) hw ?_
      refine Go.iload dX9_worked_74 rfl ?_
      refine Go.goto (tgt := 86) dX9_worked_76 (by decide) ?_
      refine Go.at 86 rfl ?_
      refine Go.iastore N dX9_worked_86 rfl (by omega) rfl ?_
      refine Go.iinc (v := nI (N + 1)) (ls' := [some (vR 76), some (vI (nI t)), some (vI (nI (N + 1))), some (vI (nI k)), some (vI (tW s t k)), some (vI (tV s t k))]) dX9_worked_87 rfl (nI_add _ _) (by decide) rfl ?_
      refine Go.goto (tgt := 157) dX9_worked_90 (by decide) ?_
      refine Go.iinc (v := nI (k + 1)) (ls' := [some (vR 76), some (vI (nI t)), some (vI (nI (N + 1))), some (vI (nI (k + 1))), some (vI (tW s t k)), some (vI (tV s t k))]) dX9_worked_157 rfl (nI_add _ _) (by decide) rfl ?_
      refine Go.goto (tgt := 4) dX9_worked_160 (by decide) ?_
      refine Go.mask [true, true, true, true, false, false] rfl ?_
      refine m_worked_lp hs ht hn hn96 hok hdn f0 j (k + 1) (N + 1) _ _ (by omega) (hst.trans ?_) (Fr.ms hfr _ _ (by decide)) ((ms_self _ _ _ _).trans (by rw [hf]))
      rw [stR, if_neg (by rw [hw]; decide), if_pos (show tW s t k = 0 from hw)]
    · -- a name
      obtain ⟨e1, e2⟩ := name_idx hnm
      refine Go.iload_n dX9_worked_4 rfl ?_
      refine Go.aload_n dX9_worked_5 rfl ?_
      refine Go.getR dX9_worked_6 flX9_7 rfl ?_
      refine Go.aload_n dX9_worked_9 rfl ?_
      refine Go.iload_n dX9_worked_10 rfl ?_
      refine Go.callVi 76 [vI (nI t)] [vR 77, vI (nI k)] dX9_worked_11 lkX9_267 (Or.inl ⟨_, _, _, rfl, rfl, rfl⟩) rfl (Nat.le_of_ble_eq_true rfl) rfl (Nat.le_of_ble_eq_true rfl) (m_textAt t) ?_
      refine Go.at 14 rfl ?_
      refine Go.iconst (v := nI 2) dX9_worked_14 rfl ?_
      refine Go.iaddN dX9_worked_15 ?_
      refine Go.iaload ((147 + (200 * t)) + 2) dX9_worked_16 rfl (by omega) rfl ?_
      refine Go.topE (y := nI n) ((congrFun hs1 _).trans hn) ?_
      refine Go.icmp_ge_f (tgt := 163) dX9_worked_17 (by decide) (nI_ge hk (by omega)) ?_
      refine Go.aload_n dX9_worked_20 rfl ?_
      refine Go.getR dX9_worked_21 flX9_7 rfl ?_
      refine Go.at 24 rfl ?_
      refine Go.aload_n dX9_worked_24 rfl ?_
      refine Go.iload_n dX9_worked_25 rfl ?_
      refine Go.callVi 76 [vI (nI t)] [vR 77] dX9_worked_26 lkX9_267 (Or.inl ⟨_, _, _, rfl, rfl, rfl⟩) rfl (Nat.le_of_ble_eq_true rfl) rfl (Nat.le_of_ble_eq_true rfl) (m_textAt t) ?_
      refine Go.iconst (v := nI 4) dX9_worked_29 rfl ?_
      refine Go.iaddN dX9_worked_30 ?_
      refine Go.iconst (v := nI 2) dX9_worked_31 rfl ?_
      refine Go.at 32 rfl ?_
      refine Go.iload_n dX9_worked_32 rfl ?_
      refine Go.imulN dX9_worked_33 ?_
      refine Go.iaddN dX9_worked_34 ?_
      refine Go.iaload (((147 + (200 * t)) + 4) + (2 * k)) dX9_worked_35 rfl (by omega) rfl ?_
      refine Go.topE (y := tW s t k) (congrFun hs1 _) ?_
      refine Go.istore (ls' := [some (vR 76), some (vI (nI t)), some (vI (nI N)), some (vI (nI k)), some (vI (tW s t k)), none]) dX9_worked_36 (by decide) rfl ?_
      refine Go.aload_n dX9_worked_38 rfl ?_
      refine Go.at 39 rfl ?_
      refine Go.getR dX9_worked_39 flX9_7 rfl ?_
      refine Go.aload_n dX9_worked_42 rfl ?_
      refine Go.iload_n dX9_worked_43 rfl ?_
      refine Go.callVi 76 [vI (nI t)] [vR 77] dX9_worked_44 lkX9_267 (Or.inl ⟨_, _, _, rfl, rfl, rfl⟩) rfl (Nat.le_of_ble_eq_true rfl) rfl (Nat.le_of_ble_eq_true rfl) (m_textAt t) ?_
      refine Go.iconst (v := nI 4) dX9_worked_47 rfl ?_
      refine Go.iaddN dX9_worked_48 ?_
      refine Go.at 49 rfl ?_
      refine Go.iconst (v := nI 2) dX9_worked_49 rfl ?_
      refine Go.iload_n dX9_worked_50 rfl ?_
      refine Go.imulN dX9_worked_51 ?_
      refine Go.iaddN dX9_worked_52 ?_
      refine Go.iconst (v := nI 1) dX9_worked_53 rfl ?_
      refine Go.iaddN dX9_worked_54 ?_
      refine Go.at 55 rfl ?_
      refine Go.iaload ((((147 + (200 * t)) + 4) + (2 * k)) + 1) dX9_worked_55 rfl (by omega) rfl ?_
      refine Go.topE (y := tV s t k) (congrFun hs1 _) ?_
      refine Go.istore (ls' := [some (vR 76), some (vI (nI t)), some (vI (nI N)), some (vI (nI k)), some (vI (tW s t k)), some (vI (tV s t k))]) dX9_worked_56 (by decide) rfl ?_
      refine Go.iload dX9_worked_58 rfl ?_
      refine Go.iconst (v := nI 2) dX9_worked_60 rfl ?_
      refine Go.icmp_eq_f (tgt := 93) dX9_worked_61 (by decide) (by rw [hw]; decide) ?_
      refine Go.aload_n dX9_worked_64 rfl ?_
      refine Go.at 65 rfl ?_
      refine Go.getR dX9_worked_65 flX9_52 rfl ?_
      refine Go.iload_n dX9_worked_68 rfl ?_
      refine Go.iload dX9_worked_69 rfl ?_
      refine Go.if_ne_t (tgt := 79) dX9_worked_71 (by decide) (by rw [hw]; decide) ?_
      refine Go.aload_n dX9_worked_79 rfl ?_
      refine Go.getR dX9_worked_80 flX9_49 rfl ?_
      refine Go.at 83 rfl ?_
      refine Go.iload dX9_worked_83 rfl ?_
      refine Go.iaload ((tV s t k).toNatClampNeg) dX9_worked_85 rfl e2 e1 ?_
      refine Go.topE (y := μ0 90 (tV s t k).toNatClampNeg) (congrFun h90 _) ?_
      refine Go.iastore N dX9_worked_86 rfl (by omega) rfl ?_
      refine Go.iinc (v := nI (N + 1)) (ls' := [some (vR 76), some (vI (nI t)), some (vI (nI (N + 1))), some (vI (nI k)), some (vI (tW s t k)), some (vI (tV s t k))]) dX9_worked_87 rfl (nI_add _ _) (by decide) rfl ?_
      refine Go.goto (tgt := 157) dX9_worked_90 (by decide) ?_
      refine Go.iinc (v := nI (k + 1)) (ls' := [some (vR 76), some (vI (nI t)), some (vI (nI (N + 1))), some (vI (nI (k + 1))), some (vI (tW s t k)), some (vI (tV s t k))]) dX9_worked_157 rfl (nI_add _ _) (by decide) rfl ?_
      refine Go.at 160 rfl ?_
      refine Go.goto (tgt := 4) dX9_worked_160 (by decide) ?_
      refine Go.mask [true, true, true, true, false, false] rfl ?_
      refine m_worked_lp hs ht hn hn96 hok hdn f0 j (k + 1) (N + 1) _ _ (by omega) (hst.trans ?_) (Fr.ms hfr _ _ (by decide)) ((ms_self _ _ _ _).trans (by rw [hf]))
      rw [stR, if_neg (by rw [hw]; decide), if_neg (by rw [hw]; decide)]
    · -- not
      have hN1 : 1 ≤ N := by omega
      refine Go.iload_n dX9_worked_4 rfl ?_
      refine Go.aload_n dX9_worked_5 rfl ?_
      refine Go.getR dX9_worked_6 flX9_7 rfl ?_
      refine Go.aload_n dX9_worked_9 rfl ?_
      refine Go.iload_n dX9_worked_10 rfl ?_
      refine Go.callVi 76 [vI (nI t)] [vR 77, vI (nI k)] dX9_worked_11 lkX9_267 (Or.inl ⟨_, _, _, rfl, rfl, rfl⟩) rfl (Nat.le_of_ble_eq_true rfl) rfl (Nat.le_of_ble_eq_true rfl) (m_textAt t) ?_
      refine Go.at 14 rfl ?_
      refine Go.iconst (v := nI 2) dX9_worked_14 rfl ?_
      refine Go.iaddN dX9_worked_15 ?_
      refine Go.iaload ((147 + (200 * t)) + 2) dX9_worked_16 rfl (by omega) rfl ?_
      refine Go.topE (y := nI n) ((congrFun hs1 _).trans hn) ?_
      refine Go.icmp_ge_f (tgt := 163) dX9_worked_17 (by decide) (nI_ge hk (by omega)) ?_
      refine Go.aload_n dX9_worked_20 rfl ?_
      refine Go.getR dX9_worked_21 flX9_7 rfl ?_
      refine Go.at 24 rfl ?_
      refine Go.aload_n dX9_worked_24 rfl ?_
      refine Go.iload_n dX9_worked_25 rfl ?_
      refine Go.callVi 76 [vI (nI t)] [vR 77] dX9_worked_26 lkX9_267 (Or.inl ⟨_, _, _, rfl, rfl, rfl⟩) rfl (Nat.le_of_ble_eq_true rfl) rfl (Nat.le_of_ble_eq_true rfl) (m_textAt t) ?_
      refine Go.iconst (v := nI 4) dX9_worked_29 rfl ?_
      refine Go.iaddN dX9_worked_30 ?_
      refine Go.iconst (v := nI 2) dX9_worked_31 rfl ?_
      refine Go.at 32 rfl ?_
      refine Go.iload_n dX9_worked_32 rfl ?_
      refine Go.imulN dX9_worked_33 ?_
      refine Go.iaddN dX9_worked_34 ?_
      refine Go.iaload (((147 + (200 * t)) + 4) + (2 * k)) dX9_worked_35 rfl (by omega) rfl ?_
      refine Go.topE (y := tW s t k) (congrFun hs1 _) ?_
      refine Go.istore (ls' := [some (vR 76), some (vI (nI t)), some (vI (nI N)), some (vI (nI k)), some (vI (tW s t k)), none]) dX9_worked_36 (by decide) rfl ?_
      refine Go.aload_n dX9_worked_38 rfl ?_
      refine Go.at 39 rfl ?_
      refine Go.getR dX9_worked_39 flX9_7 rfl ?_
      refine Go.aload_n dX9_worked_42 rfl ?_
      refine Go.iload_n dX9_worked_43 rfl ?_
      refine Go.callVi 76 [vI (nI t)] [vR 77] dX9_worked_44 lkX9_267 (Or.inl ⟨_, _, _, rfl, rfl, rfl⟩) rfl (Nat.le_of_ble_eq_true rfl) rfl (Nat.le_of_ble_eq_true rfl) (m_textAt t) ?_
      refine Go.iconst (v := nI 4) dX9_worked_47 rfl ?_
      refine Go.iaddN dX9_worked_48 ?_
      refine Go.at 49 rfl ?_
      refine Go.iconst (v := nI 2) dX9_worked_49 rfl ?_
      refine Go.iload_n dX9_worked_50 rfl ?_
      refine Go.imulN dX9_worked_51 ?_
      refine Go.iaddN dX9_worked_52 ?_
      refine Go.iconst (v := nI 1) dX9_worked_53 rfl ?_
      refine Go.iaddN dX9_worked_54 ?_
      refine Go.at 55 rfl ?_
      refine Go.iaload ((((147 + (200 * t)) + 4) + (2 * k)) + 1) dX9_worked_55 rfl (by omega) rfl ?_
      refine Go.topE (y := tV s t k) (congrFun hs1 _) ?_
      refine Go.istore (ls' := [some (vR 76), some (vI (nI t)), some (vI (nI N)), some (vI (nI k)), some (vI (tW s t k)), some (vI (tV s t k))]) dX9_worked_56 (by decide) rfl ?_
      refine Go.iload dX9_worked_58 rfl ?_
      refine Go.iconst (v := nI 2) dX9_worked_60 rfl ?_
      refine Go.icmp_eq_t (tgt := 93) dX9_worked_61 (by decide) hw ?_
      refine Go.iload dX9_worked_93 rfl ?_
      refine Go.at 95 rfl ?_
      refine Go.bipush (v := nI 33) dX9_worked_95 rfl ?_
      refine Go.icmp_ne_f (tgt := 127) dX9_worked_97 (by decide) hv ?_
      refine Go.aload_n dX9_worked_100 rfl ?_
      refine Go.getR dX9_worked_101 flX9_52 rfl ?_
      refine Go.iload_n dX9_worked_104 rfl ?_
      refine Go.iconst (v := nI 1) dX9_worked_105 rfl ?_
      refine Go.at 106 rfl ?_
      refine Go.isubN dX9_worked_106 hN1 ?_
      refine Go.aload_n dX9_worked_107 rfl ?_
      refine Go.getR dX9_worked_108 flX9_52 rfl ?_
      refine Go.iload_n dX9_worked_111 rfl ?_
      refine Go.iconst (v := nI 1) dX9_worked_112 rfl ?_
      refine Go.isubN dX9_worked_113 hN1 ?_
      refine Go.at 114 rfl ?_
      refine Go.iaload (N - 1) dX9_worked_114 rfl (by omega) rfl ?_
      refine Go.topE (y := f (N - 1)) (congrFun hf _) ?_
      refine Go.if_ne (tgt := 122) dX9_worked_115 (by decide) (fun h115 => ?_) (fun h115 => ?_)
      · -- 115 taken
        refine Go.iconst (v := nI 0) dX9_worked_122 rfl ?_
        refine Go.iastore (N - 1) dX9_worked_123 rfl (by omega) rfl ?_
        refine Go.goto (tgt := 157) dX9_worked_124 (by decide) ?_
        refine Go.iinc (v := nI (k + 1)) (ls' := [some (vR 76), some (vI (nI t)), some (vI (nI N)), some (vI (nI (k + 1))), some (vI (tW s t k)), some (vI (tV s t k))]) dX9_worked_157 rfl (nI_add _ _) (by decide) rfl ?_
        refine Go.goto (tgt := 4) dX9_worked_160 (by decide) ?_
        refine Go.mask [true, true, true, true, false, false] rfl ?_
        refine m_worked_lp hs ht hn hn96 hok hdn f0 j (k + 1) (N) _ _ (by omega) (hst.trans ?_) (Fr.ms hfr _ _ (by decide)) ((ms_self _ _ _ _).trans (by rw [hf]))
        rw [stR, if_pos hw, if_pos hv]; simp only [h115, if_true, if_false]
      · -- 115 not
        refine Go.iconst (v := nI 1) dX9_worked_118 rfl ?_
        refine Go.goto (tgt := 123) dX9_worked_119 (by decide) ?_
        refine Go.iastore (N - 1) dX9_worked_123 rfl (by omega) rfl ?_
        refine Go.goto (tgt := 157) dX9_worked_124 (by decide) ?_
        refine Go.iinc (v := nI (k + 1)) (ls' := [some (vR 76), some (vI (nI t)), some (vI (nI N)), some (vI (nI (k + 1))), some (vI (tW s t k)), some (vI (tV s t k))]) dX9_worked_157 rfl (nI_add _ _) (by decide) rfl ?_
        refine Go.goto (tgt := 4) dX9_worked_160 (by decide) ?_
        refine Go.at 4 rfl ?_
        refine Go.mask [true, true, true, true, false, false] rfl ?_
        refine m_worked_lp hs ht hn hn96 hok hdn f0 j (k + 1) (N) _ _ (by omega) (hst.trans ?_) (Fr.ms hfr _ _ (by decide)) ((ms_self _ _ _ _).trans (by rw [hf]))
        rw [stR, if_pos hw, if_pos hv]; simp only [h115, if_true, if_false]
    · -- a sign of two sides
      have hN1 : 2 ≤ N := by omega
      refine Go.iload_n dX9_worked_4 rfl ?_
      refine Go.aload_n dX9_worked_5 rfl ?_
      refine Go.getR dX9_worked_6 flX9_7 rfl ?_
      refine Go.aload_n dX9_worked_9 rfl ?_
      refine Go.iload_n dX9_worked_10 rfl ?_
      refine Go.callVi 76 [vI (nI t)] [vR 77, vI (nI k)] dX9_worked_11 lkX9_267 (Or.inl ⟨_, _, _, rfl, rfl, rfl⟩) rfl (Nat.le_of_ble_eq_true rfl) rfl (Nat.le_of_ble_eq_true rfl) (m_textAt t) ?_
      refine Go.at 14 rfl ?_
      refine Go.iconst (v := nI 2) dX9_worked_14 rfl ?_
      refine Go.iaddN dX9_worked_15 ?_
      refine Go.iaload ((147 + (200 * t)) + 2) dX9_worked_16 rfl (by omega) rfl ?_
      refine Go.topE (y := nI n) ((congrFun hs1 _).trans hn) ?_
      refine Go.icmp_ge_f (tgt := 163) dX9_worked_17 (by decide) (nI_ge hk (by omega)) ?_
      refine Go.aload_n dX9_worked_20 rfl ?_
      refine Go.getR dX9_worked_21 flX9_7 rfl ?_
      refine Go.at 24 rfl ?_
      refine Go.aload_n dX9_worked_24 rfl ?_
      refine Go.iload_n dX9_worked_25 rfl ?_
      refine Go.callVi 76 [vI (nI t)] [vR 77] dX9_worked_26 lkX9_267 (Or.inl ⟨_, _, _, rfl, rfl, rfl⟩) rfl (Nat.le_of_ble_eq_true rfl) rfl (Nat.le_of_ble_eq_true rfl) (m_textAt t) ?_
      refine Go.iconst (v := nI 4) dX9_worked_29 rfl ?_
      refine Go.iaddN dX9_worked_30 ?_
      refine Go.iconst (v := nI 2) dX9_worked_31 rfl ?_
      refine Go.at 32 rfl ?_
      refine Go.iload_n dX9_worked_32 rfl ?_
      refine Go.imulN dX9_worked_33 ?_
      refine Go.iaddN dX9_worked_34 ?_
      refine Go.iaload (((147 + (200 * t)) + 4) + (2 * k)) dX9_worked_35 rfl (by omega) rfl ?_
      refine Go.topE (y := tW s t k) (congrFun hs1 _) ?_
      refine Go.istore (ls' := [some (vR 76), some (vI (nI t)), some (vI (nI N)), some (vI (nI k)), some (vI (tW s t k)), none]) dX9_worked_36 (by decide) rfl ?_
      refine Go.aload_n dX9_worked_38 rfl ?_
      refine Go.at 39 rfl ?_
      refine Go.getR dX9_worked_39 flX9_7 rfl ?_
      refine Go.aload_n dX9_worked_42 rfl ?_
      refine Go.iload_n dX9_worked_43 rfl ?_
      refine Go.callVi 76 [vI (nI t)] [vR 77] dX9_worked_44 lkX9_267 (Or.inl ⟨_, _, _, rfl, rfl, rfl⟩) rfl (Nat.le_of_ble_eq_true rfl) rfl (Nat.le_of_ble_eq_true rfl) (m_textAt t) ?_
      refine Go.iconst (v := nI 4) dX9_worked_47 rfl ?_
      refine Go.iaddN dX9_worked_48 ?_
      refine Go.at 49 rfl ?_
      refine Go.iconst (v := nI 2) dX9_worked_49 rfl ?_
      refine Go.iload_n dX9_worked_50 rfl ?_
      refine Go.imulN dX9_worked_51 ?_
      refine Go.iaddN dX9_worked_52 ?_
      refine Go.iconst (v := nI 1) dX9_worked_53 rfl ?_
      refine Go.iaddN dX9_worked_54 ?_
      refine Go.at 55 rfl ?_
      refine Go.iaload ((((147 + (200 * t)) + 4) + (2 * k)) + 1) dX9_worked_55 rfl (by omega) rfl ?_
      refine Go.topE (y := tV s t k) (congrFun hs1 _) ?_
      refine Go.istore (ls' := [some (vR 76), some (vI (nI t)), some (vI (nI N)), some (vI (nI k)), some (vI (tW s t k)), some (vI (tV s t k))]) dX9_worked_56 (by decide) rfl ?_
      refine Go.iload dX9_worked_58 rfl ?_
      refine Go.iconst (v := nI 2) dX9_worked_60 rfl ?_
      refine Go.icmp_eq_t (tgt := 93) dX9_worked_61 (by decide) hw ?_
      refine Go.iload dX9_worked_93 rfl ?_
      refine Go.at 95 rfl ?_
      refine Go.bipush (v := nI 33) dX9_worked_95 rfl ?_
      refine Go.icmp_ne_t (tgt := 127) dX9_worked_97 (by decide) (sign_no33 hsg) ?_
      refine Go.iinc (v := nI (N - 1)) (ls' := [some (vR 76), some (vI (nI t)), some (vI (nI (N - 1))), some (vI (nI k)), some (vI (tW s t k)), some (vI (tV s t k))]) dX9_worked_127 rfl (dec_nI (by omega)) (by decide) rfl ?_
      refine Go.aload_n dX9_worked_130 rfl ?_
      refine Go.getR dX9_worked_131 flX9_52 rfl ?_
      refine Go.iload_n dX9_worked_134 rfl ?_
      refine Go.at 135 rfl ?_
      refine Go.iconst (v := nI 1) dX9_worked_135 rfl ?_
      refine Go.isubN dX9_worked_136 (by omega) ?_
      refine Go.iload dX9_worked_137 rfl ?_
      refine Go.aload_n dX9_worked_139 rfl ?_
      refine Go.getR dX9_worked_140 flX9_52 rfl ?_
      refine Go.iload_n dX9_worked_143 rfl ?_
      refine Go.at 144 rfl ?_
      refine Go.iconst (v := nI 1) dX9_worked_144 rfl ?_
      refine Go.isubN dX9_worked_145 (by omega) ?_
      refine Go.iaload ((N - 1) - 1) dX9_worked_146 rfl (by omega) rfl ?_
      refine Go.topE (y := f (N - 1 - 1)) (congrFun hf _) ?_
      refine Go.aload_n dX9_worked_147 rfl ?_
      refine Go.getR dX9_worked_148 flX9_52 rfl ?_
      refine Go.iload_n dX9_worked_151 rfl ?_
      refine Go.at 152 rfl ?_
      refine Go.iaload (N - 1) dX9_worked_152 rfl (by omega) rfl ?_
      refine Go.topE (y := f (N - 1)) (congrFun hf _) ?_
      refine Go.callSi [vI (tV s t k), vI (f (N - 1 - 1)), vI (f (N - 1))] [vI (nI ((N - 1) - 1)), vR 91] dX9_worked_153 lkX9_279 rfl (Nat.le_of_ble_eq_true rfl) rfl (Nat.le_of_ble_eq_true rfl) (m_joined (tV s t k) (f (N - 1 - 1)) (f (N - 1)) hsg) ?_
      refine Go.iastore ((N - 1) - 1) dX9_worked_156 rfl (by omega) rfl ?_
      refine Go.iinc (v := nI (k + 1)) (ls' := [some (vR 76), some (vI (nI t)), some (vI (nI (N - 1))), some (vI (nI (k + 1))), some (vI (tW s t k)), some (vI (tV s t k))]) dX9_worked_157 rfl (nI_add _ _) (by decide) rfl ?_
      refine Go.goto (tgt := 4) dX9_worked_160 (by decide) ?_
      refine Go.mask [true, true, true, true, false, false] rfl ?_
      refine m_worked_lp hs ht hn hn96 hok hdn f0 j (k + 1) (N - 1) _ _ (by omega) (hst.trans ?_) (Fr.ms hfr _ _ (by decide)) ((ms_self _ _ _ _).trans (by rw [hf]))
      rw [stR, if_pos hw, if_neg (sign_no33 hsg)]; rfl
theorem m_worked {V : VV} {d : Nat} {μ0 : Memo} {s : Nat → Int32} (hs : μ0 77 = s) {t n : Nat} (ht : t < 14) (hn : s (147 + 200 * t + 2) = nI n) (hn96 : n ≤ 96) {key : Int32} (hok : ∀ k, k < n → stepOK key (tW s t k) (tV s t k) (dpR (tW s t) (tV s t) k)) (hdn : dpR (tW s t) (tV s t) n = 1) : RetI V (d + 1) mX9_worked [vR 76, vI (nI t)] μ0 ((rnR (fun v => μ0 90 v.toNatClampNeg) (tW s t) (tV s t) (μ0 91) n).2 0) (Fr [91] μ0) := by
  show Go V (d + 1) mX9_worked 0 [some (vR 76), some (vI (nI t)), none, none, none, none] [] μ0 _
  refine Go.iconst (v := nI 0) dX9_worked_0 rfl ?_
  refine Go.istore_n (ls' := [some (vR 76), some (vI (nI t)), some (vI (nI 0)), none, none, none]) dX9_worked_1 (by decide) rfl ?_
  refine Go.iconst (v := nI 0) dX9_worked_2 rfl ?_
  refine Go.istore_n (ls' := [some (vR 76), some (vI (nI t)), some (vI (nI 0)), some (vI (nI 0)), none, none]) dX9_worked_3 (by decide) rfl ?_
  exact m_worked_lp hs ht hn hn96 hok hdn (μ0 91) n 0 0 (μ0 91) μ0 (by omega) rfl (Fr.rf _ _) rfl
theorem c_push {V : VV} {d : Nat} {μ : Memo} {N : Nat} (hN : μ 1 5 = nI N) (hN96 : N < 96) (v : Int32) : Ret V (d) mX3_push [vR 1, vI v] μ none (ms (ms μ 6 N v) 1 5 (nI (N + 1))) := by
  show Go V (d) mX3_push 0 [some (vR 1), some (vI v)] [] μ _
  refine Go.aload_n dX3_push_0 rfl ?_
  refine Go.getI dX3_push_1 flX3_50 rfl ?_
  refine Go.topE (y := nI N) hN ?_
  refine Go.bipush (v := nI 96) dX3_push_4 rfl ?_
  refine Go.icmp_ge_f (tgt := 29) dX3_push_6 (by decide) (nI_ge hN96 (by omega)) ?_
  refine Go.aload_n dX3_push_9 rfl ?_
  refine Go.getR dX3_push_10 flX3_26 rfl ?_
  refine Go.at 13 rfl ?_
  refine Go.aload_n dX3_push_13 rfl ?_
  refine Go.getI dX3_push_14 flX3_50 rfl ?_
  refine Go.topE (y := nI N) hN ?_
  refine Go.iload_n dX3_push_17 rfl ?_
  refine Go.iastore N dX3_push_18 rfl (by omega) rfl ?_
  refine Go.aload_n dX3_push_19 rfl ?_
  refine Go.dupR dX3_push_20 ?_
  refine Go.at 21 rfl ?_
  refine Go.getI dX3_push_21 flX3_50 rfl ?_
  refine Go.topE (y := nI N) ((congrFun (ms_ne _ _ _ (by decide)) _).trans hN) ?_
  refine Go.iconst (v := nI 1) dX3_push_24 rfl ?_
  refine Go.iaddN dX3_push_25 ?_
  refine Go.put dX3_push_26 flX3_50 rfl rfl rfl rfl ?_
  refine Go.vreturn dX3_push_29 rfl ?_
  exact ⟨rfl, rfl⟩
theorem c_pop {V : VV} {d : Nat} {μ : Memo} {N : Nat} (hN : μ 1 5 = nI N) (h1 : 1 ≤ N) (h2 : N ≤ 96) : Ret V (d) mX3_pop [vR 1] μ (some (vI (μ 6 (N - 1)))) (ms μ 1 5 (nI (N - 1))) := by
  show Go V (d) mX3_pop 0 [some (vR 1)] [] μ _
  refine Go.aload_n dX3_pop_0 rfl ?_
  refine Go.getI dX3_pop_1 flX3_50 rfl ?_
  refine Go.topE (y := nI N) hN ?_
  refine Go.if_ne_t (tgt := 9) dX3_pop_4 (by decide) (nI_ne0 (by omega) (by omega)) ?_
  refine Go.aload_n dX3_pop_9 rfl ?_
  refine Go.dupR dX3_pop_10 ?_
  refine Go.getI dX3_pop_11 flX3_50 rfl ?_
  refine Go.topE (y := nI N) hN ?_
  refine Go.at 14 rfl ?_
  refine Go.iconst (v := nI 1) dX3_pop_14 rfl ?_
  refine Go.isubN dX3_pop_15 h1 ?_
  refine Go.put dX3_pop_16 flX3_50 rfl rfl rfl rfl ?_
  refine Go.aload_n dX3_pop_19 rfl ?_
  refine Go.getR dX3_pop_20 flX3_26 rfl ?_
  refine Go.aload_n dX3_pop_23 rfl ?_
  refine Go.at 24 rfl ?_
  refine Go.getI dX3_pop_24 flX3_50 rfl ?_
  refine Go.topE (y := nI (N - 1)) ((congrFun (ms_self _ _ _ _) _).trans (upd_self _ _ _)) ?_
  refine Go.iaload (N - 1) dX3_pop_27 rfl (by omega) rfl ?_
  refine Go.topE (y := μ 6 (N - 1)) (congrFun (ms_ne _ _ _ (by decide)) _) ?_
  refine Go.ireturn .int dX3_pop_28 rfl rfl ?_
  exact ⟨rfl, rfl⟩
theorem c_lastOf_lp {V : VV} {d : Nat} {μ : Memo} {s : Nat → Int32} (key : Int32) :
    ∀ (i : Nat), i ≤ 14 → (∀ t, t < i → μ 2 t = s (147 + 200 * t)) → ∀ many : Int32, Go V d mX3_lastOf 4 [some (vR 1), some (vI key), some (vI many), some (vI (nI i - nI 1))] [] μ (fun r' μ'' => r' = some (vI (oN (oI (lawN s key i)))) ∧ μ'' = μ)
  | 0, _, _, many => by
    refine Go.iload_n dX3_lastOf_4 rfl ?_
    refine Go.if_lt_t (tgt := 26) dX3_lastOf_5 (by decide) (by decide) ?_
    refine Go.ldc dX3_lastOf_26 cnX3_49 ?_
    refine Go.ireturn .int dX3_lastOf_28 rfl rfl ?_
    exact ⟨rfl, rfl⟩
  | i + 1, hi, hK, many => by
    have e1 : nI (i + 1) - nI 1 = nI i := pk_sub (by omega)
    rw [e1]
    refine Go.iload_n dX3_lastOf_4 rfl ?_
    refine Go.if_lt_f (tgt := 26) dX3_lastOf_5 (by decide) (nI_pos (by omega)) ?_
    refine Go.aload_n dX3_lastOf_8 rfl ?_
    refine Go.getR dX3_lastOf_9 flX3_9 rfl ?_
    refine Go.iload_n dX3_lastOf_12 rfl ?_
    refine Go.iaload i dX3_lastOf_13 rfl (by omega) rfl ?_
    refine Go.topE (y := s (147 + 200 * i)) (hK i (by omega)) ?_
    refine Go.at 14 rfl ?_
    refine Go.iload_n dX3_lastOf_14 rfl ?_
    refine Go.icmp_ne (tgt := 20) dX3_lastOf_15 (by decide) (fun h15 => ?_) (fun h15 => ?_)
    · -- 15 taken
      refine Go.iinc (v := nI i - nI 1) (ls' := [some (vR 1), some (vI key), some (vI many), some (vI (nI i - nI 1))]) dX3_lastOf_20 rfl (dec_any _) (by decide) rfl ?_
      refine Go.goto (tgt := 4) dX3_lastOf_23 (by decide) ?_
      rw [show lawN s key (i + 1) = lawN s key i from (by rw [lawN, if_neg h15])]
      exact c_lastOf_lp key i (by omega) (fun t ht => hK t (by omega)) many
    · -- 15 not
      refine Go.iload_n dX3_lastOf_18 rfl ?_
      refine Go.ireturn .int dX3_lastOf_19 rfl rfl ?_
      exact ⟨by rw [lawN, if_pos h15, oI, oN, if_neg (nI_pos (by omega))], rfl⟩
theorem c_lastOf {V : VV} {d : Nat} {μ : Memo} {s : Nat → Int32} (key : Int32) (n : Nat) (hn : n ≤ 14) (hK : ∀ t, t < n → μ 2 t = s (147 + 200 * t)) : Ret V (d) mX3_lastOf [vR 1, vI key, vI (nI n)] μ (some (vI (oN (oI (lawN s key n))))) μ := by
  show Go V (d) mX3_lastOf 0 [some (vR 1), some (vI key), some (vI (nI n)), none] [] μ _
  refine Go.iload_n dX3_lastOf_0 rfl ?_
  refine Go.iconst (v := nI 1) dX3_lastOf_1 rfl ?_
  refine Go.isub dX3_lastOf_2 ?_
  refine Go.istore_n (ls' := [some (vR 1), some (vI key), some (vI (nI n)), some (vI ((nI n) - (nI 1)))]) dX3_lastOf_3 (by decide) rfl ?_
  exact c_lastOf_lp key n hn hK _
theorem join_eq {c x y : Int32} (h : signP c) : joinC c x y = joinM c x y := by
  rcases h with rfl | rfl | rfl | rfl | rfl | rfl | rfl | rfl | rfl <;> try rfl
  show (if y = 0 then nI 0 else x / y) = (if y = 0 then nI 0 else if y = (-1) then -x else x / y)
  split
  · rfl
  · split
    · rename_i h1 h2
      rw [h2]
      exact Int32.toInt_inj.mp (by rw [Int32.toInt_div, tI_n1, Int32.toInt_neg, Int.tdiv_neg, Int.tdiv_one])
    · rfl
def encN (key v : Int32) : Int32 := if key = nI 0 then (if v = nI 104 then (-1) else if v = nI 100 then (-2) else (-3)) else if key = nI 1 then (if v = nI 99 then (-1) else (-2)) else (if v = nI 116 then (-1) else (-2))
def encR (key w v : Int32) : Int32 := if w = nI 0 then v else if w = nI 1 then encN key v else -v
theorem enc_name (key a b c v : Int32) : (encN key v = (-1) ∧ envK key a b c v = a) ∨ (encN key v = (-2) ∧ envK key a b c v = b) ∨ (encN key v = (-3) ∧ envK key a b c v = c) := by
  unfold encN envK
  split
  · split
    · exact Or.inl ⟨rfl, rfl⟩
    · split
      · exact Or.inr (Or.inl ⟨rfl, rfl⟩)
      · exact Or.inr (Or.inr ⟨rfl, rfl⟩)
  · split
    · split
      · exact Or.inl ⟨rfl, rfl⟩
      · exact Or.inr (Or.inl ⟨rfl, rfl⟩)
    · split
      · exact Or.inl ⟨rfl, rfl⟩
      · exact Or.inr (Or.inl ⟨rfl, rfl⟩)
theorem aref5 : ∀ t, t < 14 → aref 5 t = some (39 + t) := by decide
theorem alenR : ∀ t, t < 14 → alen (39 + t) = some 96 := by decide
theorem sign_neg {v : Int32} (h : signP v) : -v < 0 ∧ ¬ -v = (-1) ∧ ¬ -v = (-2) ∧ ¬ -v = (-3) ∧ ¬ -v = (-33) ∧ - -v = v := by
  rcases h with rfl | rfl | rfl | rfl | rfl | rfl | rfl | rfl | rfl <;> decide
theorem c_workOut_lp {V : VV} {d : Nat} {μ0 : Memo} {s : Nat → Int32} {t n : Nat} (ht : t < 14) (hn : μ0 4 t = nI n) (hn96 : n ≤ 96) {key : Int32} (hok : ∀ k, k < n → stepOK key (tW s t k) (tV s t k) (dpR (tW s t) (tV s t) k)) (hdn : dpR (tW s t) (tV s t) n = 1) (hrow : ∀ k, k < n → μ0 (39 + t) k = encR key (tW s t k) (tV s t k)) (a b c : Int32) (f0 : Nat → Int32) :
    ∀ (j k : Nat) (N : Nat) (f : Nat → Int32) (μ : Memo), k + j = n → rnR (envK key a b c) (tW s t) (tV s t) f0 k = (N, f) → Fr [1, 6] μ0 μ → μ 6 = f → μ 1 5 = nI N →
      Go V (d + 1) mX3_workOut 8 [some (vR 1), some (vI (nI t)), some (vI a), some (vI b), some (vI c), some (vI (nI k)), none, none, none] [] μ (fun r' μ'' => r' = some (vI ((rnR (envK key a b c) (tW s t) (tV s t) f0 n).2 0)) ∧ Fr [1, 6] μ0 μ'')
  | 0, k, N, f, μ, h, hr, hfr, hf, hN => by
    obtain rfl : k = n := by omega
    have hsz : μ 4 t = nI k := (congrFun (hfr 4 (by decide)) t).trans hn
    have hN1 : N = 1 := by rw [← hdn, ← rnR_dp (envK key a b c) (tW s t) (tV s t) f0 k, hr]
    refine Go.iload dX3_workOut_8 rfl ?_
    refine Go.aload_n dX3_workOut_10 rfl ?_
    refine Go.getR dX3_workOut_11 flX3_18 rfl ?_
    refine Go.iload_n dX3_workOut_14 rfl ?_
    refine Go.iaload t dX3_workOut_15 rfl (by omega) rfl ?_
    refine Go.topE (y := nI k) hsz ?_
    refine Go.icmp_ge_t (tgt := 147) dX3_workOut_16 (by decide) (nI_le (by omega) (by omega)) ?_
    refine Go.at 147 rfl ?_
    refine Go.aload_n dX3_workOut_147 rfl ?_
    refine Go.callVi 1 [] [] dX3_workOut_148 lkX3_57 (Or.inl ⟨_, _, _, rfl, rfl, rfl⟩) rfl (Nat.le_of_ble_eq_true rfl) rfl (Nat.le_of_ble_eq_true rfl) (c_pop hN (by omega) (by omega)) ?_
    refine Go.ireturn .int dX3_workOut_151 rfl rfl ?_
    exact ⟨by rw [hr, hN1, hf], Fr.ms hfr _ _ (by decide)⟩
  | j + 1, k, N, f, μ, h, hr, hfr, hf, hN => by
    have hk : k < n := by omega
    have hsz : μ 4 t = nI n := (congrFun (hfr 4 (by decide)) t).trans hn
    have hNd : N = dpR (tW s t) (tV s t) k := by rw [← rnR_dp (envK key a b c) (tW s t) (tV s t) f0 k, hr]
    have hNk : N ≤ k := by rw [hNd]; exact dpR_le _ _ k
    have hst : rnR (envK key a b c) (tW s t) (tV s t) f0 (k + 1) = stR (envK key a b c) (tW s t k) (tV s t k) (N, f) := by rw [← hr]; rfl
    have hro : μ (39 + t) k = encR key (tW s t k) (tV s t k) := (congrFun (hfr (39 + t) (by simp; omega)) k).trans (hrow k hk)
    rcases hok k hk with ⟨hw, hv⟩ | ⟨hw, hnm⟩ | ⟨hw, hv, hdp⟩ | ⟨hw, hsg, hdp⟩
    · -- a number
      refine Go.iload dX3_workOut_8 rfl ?_
      refine Go.aload_n dX3_workOut_10 rfl ?_
      refine Go.getR dX3_workOut_11 flX3_18 rfl ?_
      refine Go.iload_n dX3_workOut_14 rfl ?_
      refine Go.iaload t dX3_workOut_15 rfl (by omega) rfl ?_
      refine Go.topE (y := nI n) hsz ?_
      refine Go.icmp_ge_f (tgt := 147) dX3_workOut_16 (by decide) (nI_ge hk (by omega)) ?_
      refine Go.at 19 rfl ?_
      refine Go.aload_n dX3_workOut_19 rfl ?_
      refine Go.getR dX3_workOut_20 flX3_23 rfl ?_
      refine Go.iload_n dX3_workOut_23 rfl ?_
      refine Go.aaload (r := (39 + t)) t dX3_workOut_24 (aref5 t ht) rfl ?_
      refine Go.iload dX3_workOut_25 rfl ?_
      refine Go.iaload k dX3_workOut_27 (alenR t ht) (by omega) rfl ?_
      refine Go.topE (y := tV s t k) (hro.trans (by rw [encR, if_pos hw])) ?_
      refine Go.at 28 rfl ?_
      refine Go.istore (ls' := [some (vR 1), some (vI (nI t)), some (vI a), some (vI b), some (vI c), some (vI (nI k)), some (vI (tV s t k)), none, none]) dX3_workOut_28 (by decide) rfl ?_
      refine Go.iload dX3_workOut_30 rfl ?_
      refine Go.if_lt_f (tgt := 44) dX3_workOut_32 (by decide) (by rw [sI_lt]; rw [sI_le] at hv; omega) ?_
      refine Go.aload_n dX3_workOut_35 rfl ?_
      refine Go.iload dX3_workOut_36 rfl ?_
      refine Go.callVv 1 [vI (tV s t k)] [] dX3_workOut_38 lkX3_53 (Or.inl ⟨_, _, _, rfl, rfl, rfl⟩) rfl (Nat.le_of_ble_eq_true rfl) rfl (Nat.le_of_ble_eq_true rfl) (c_push hN (by omega) (tV s t k)) ?_
      refine Go.at 41 rfl ?_
      refine Go.goto (tgt := 141) dX3_workOut_41 (by decide) ?_
      refine Go.iinc (v := nI (k + 1)) (ls' := [some (vR 1), some (vI (nI t)), some (vI a), some (vI b), some (vI c), some (vI (nI (k + 1))), some (vI (tV s t k)), none, none]) dX3_workOut_141 rfl (nI_add _ _) (by decide) rfl ?_
      refine Go.goto (tgt := 8) dX3_workOut_144 (by decide) ?_
      refine Go.mask [true, true, true, true, true, true, false, false, false] rfl ?_
      refine c_workOut_lp ht hn hn96 hok hdn hrow a b c f0 j (k + 1) (N + 1) _ _ (by omega) (hst.trans ?_) (Fr.ms (Fr.ms hfr _ _ (by decide)) _ _ (by decide)) ((ms_ne _ _ _ (by decide)).trans ((ms_self _ _ _ _).trans (by rw [hf]))) ((congrFun (ms_self _ _ _ _) _).trans (upd_self _ _ _))
      rw [stR, if_neg (by rw [hw]; decide), if_pos (show tW s t k = 0 from hw)]
    · -- a name
      have hen : encR key (tW s t k) (tV s t k) = encN key (tV s t k) := by rw [encR, if_neg (by rw [hw]; decide), if_pos hw]
      rcases enc_name key a b c (tV s t k) with ⟨e1, e2⟩ | ⟨e1, e2⟩ | ⟨e1, e2⟩
      · -- (-1)
        refine Go.iload dX3_workOut_8 rfl ?_
        refine Go.aload_n dX3_workOut_10 rfl ?_
        refine Go.getR dX3_workOut_11 flX3_18 rfl ?_
        refine Go.iload_n dX3_workOut_14 rfl ?_
        refine Go.iaload t dX3_workOut_15 rfl (by omega) rfl ?_
        refine Go.topE (y := nI n) hsz ?_
        refine Go.icmp_ge_f (tgt := 147) dX3_workOut_16 (by decide) (nI_ge hk (by omega)) ?_
        refine Go.at 19 rfl ?_
        refine Go.aload_n dX3_workOut_19 rfl ?_
        refine Go.getR dX3_workOut_20 flX3_23 rfl ?_
        refine Go.iload_n dX3_workOut_23 rfl ?_
        refine Go.aaload (r := (39 + t)) t dX3_workOut_24 (aref5 t ht) rfl ?_
        refine Go.iload dX3_workOut_25 rfl ?_
        refine Go.iaload k dX3_workOut_27 (alenR t ht) (by omega) rfl ?_
        refine Go.topE (y := (-1)) (hro.trans (hen.trans e1)) ?_
        refine Go.at 28 rfl ?_
        refine Go.istore (ls' := [some (vR 1), some (vI (nI t)), some (vI a), some (vI b), some (vI c), some (vI (nI k)), some (vI (-1)), none, none]) dX3_workOut_28 (by decide) rfl ?_
        refine Go.iload dX3_workOut_30 rfl ?_
        refine Go.if_lt_t (tgt := 44) dX3_workOut_32 (by decide) (by decide) ?_
        refine Go.iload dX3_workOut_44 rfl ?_
        refine Go.iconst (v := (-1)) dX3_workOut_46 rfl ?_
        refine Go.icmp_ne_f (tgt := 58) dX3_workOut_47 (by decide) (by decide) ?_
        refine Go.at 50 rfl ?_
        refine Go.aload_n dX3_workOut_50 rfl ?_
        refine Go.iload_n dX3_workOut_51 rfl ?_
        refine Go.callVv 1 [vI a] [] dX3_workOut_52 lkX3_53 (Or.inl ⟨_, _, _, rfl, rfl, rfl⟩) rfl (Nat.le_of_ble_eq_true rfl) rfl (Nat.le_of_ble_eq_true rfl) (c_push hN (by omega) a) ?_
        refine Go.goto (tgt := 141) dX3_workOut_55 (by decide) ?_
        refine Go.iinc (v := nI (k + 1)) (ls' := [some (vR 1), some (vI (nI t)), some (vI a), some (vI b), some (vI c), some (vI (nI (k + 1))), some (vI (-1)), none, none]) dX3_workOut_141 rfl (nI_add _ _) (by decide) rfl ?_
        refine Go.goto (tgt := 8) dX3_workOut_144 (by decide) ?_
        refine Go.at 8 rfl ?_
        refine Go.mask [true, true, true, true, true, true, false, false, false] rfl ?_
        refine c_workOut_lp ht hn hn96 hok hdn hrow a b c f0 j (k + 1) (N + 1) _ _ (by omega) (hst.trans ?_) (Fr.ms (Fr.ms hfr _ _ (by decide)) _ _ (by decide)) ((ms_ne _ _ _ (by decide)).trans ((ms_self _ _ _ _).trans (by rw [hf]))) ((congrFun (ms_self _ _ _ _) _).trans (upd_self _ _ _))
        rw [stR, if_neg (by rw [hw]; decide), if_neg (by rw [hw]; decide), e2]
      · -- (-2)
        refine Go.iload dX3_workOut_8 rfl ?_
        refine Go.aload_n dX3_workOut_10 rfl ?_
        refine Go.getR dX3_workOut_11 flX3_18 rfl ?_
        refine Go.iload_n dX3_workOut_14 rfl ?_
        refine Go.iaload t dX3_workOut_15 rfl (by omega) rfl ?_
        refine Go.topE (y := nI n) hsz ?_
        refine Go.icmp_ge_f (tgt := 147) dX3_workOut_16 (by decide) (nI_ge hk (by omega)) ?_
        refine Go.at 19 rfl ?_
        refine Go.aload_n dX3_workOut_19 rfl ?_
        refine Go.getR dX3_workOut_20 flX3_23 rfl ?_
        refine Go.iload_n dX3_workOut_23 rfl ?_
        refine Go.aaload (r := (39 + t)) t dX3_workOut_24 (aref5 t ht) rfl ?_
        refine Go.iload dX3_workOut_25 rfl ?_
        refine Go.iaload k dX3_workOut_27 (alenR t ht) (by omega) rfl ?_
        refine Go.topE (y := (-2)) (hro.trans (hen.trans e1)) ?_
        refine Go.at 28 rfl ?_
        refine Go.istore (ls' := [some (vR 1), some (vI (nI t)), some (vI a), some (vI b), some (vI c), some (vI (nI k)), some (vI (-2)), none, none]) dX3_workOut_28 (by decide) rfl ?_
        refine Go.iload dX3_workOut_30 rfl ?_
        refine Go.if_lt_t (tgt := 44) dX3_workOut_32 (by decide) (by decide) ?_
        refine Go.iload dX3_workOut_44 rfl ?_
        refine Go.iconst (v := (-1)) dX3_workOut_46 rfl ?_
        refine Go.icmp_ne_t (tgt := 58) dX3_workOut_47 (by decide) (by decide) ?_
        refine Go.at 58 rfl ?_
        refine Go.iload dX3_workOut_58 rfl ?_
        refine Go.bipush (v := (-2)) dX3_workOut_60 rfl ?_
        refine Go.icmp_ne_f (tgt := 73) dX3_workOut_62 (by decide) (by decide) ?_
        refine Go.aload_n dX3_workOut_65 rfl ?_
        refine Go.iload_n dX3_workOut_66 rfl ?_
        refine Go.callVv 1 [vI b] [] dX3_workOut_67 lkX3_53 (Or.inl ⟨_, _, _, rfl, rfl, rfl⟩) rfl (Nat.le_of_ble_eq_true rfl) rfl (Nat.le_of_ble_eq_true rfl) (c_push hN (by omega) b) ?_
        refine Go.at 70 rfl ?_
        refine Go.goto (tgt := 141) dX3_workOut_70 (by decide) ?_
        refine Go.iinc (v := nI (k + 1)) (ls' := [some (vR 1), some (vI (nI t)), some (vI a), some (vI b), some (vI c), some (vI (nI (k + 1))), some (vI (-2)), none, none]) dX3_workOut_141 rfl (nI_add _ _) (by decide) rfl ?_
        refine Go.goto (tgt := 8) dX3_workOut_144 (by decide) ?_
        refine Go.mask [true, true, true, true, true, true, false, false, false] rfl ?_
        refine c_workOut_lp ht hn hn96 hok hdn hrow a b c f0 j (k + 1) (N + 1) _ _ (by omega) (hst.trans ?_) (Fr.ms (Fr.ms hfr _ _ (by decide)) _ _ (by decide)) ((ms_ne _ _ _ (by decide)).trans ((ms_self _ _ _ _).trans (by rw [hf]))) ((congrFun (ms_self _ _ _ _) _).trans (upd_self _ _ _))
        rw [stR, if_neg (by rw [hw]; decide), if_neg (by rw [hw]; decide), e2]
      · -- (-3)
        refine Go.iload dX3_workOut_8 rfl ?_
        refine Go.aload_n dX3_workOut_10 rfl ?_
        refine Go.getR dX3_workOut_11 flX3_18 rfl ?_
        refine Go.iload_n dX3_workOut_14 rfl ?_
        refine Go.iaload t dX3_workOut_15 rfl (by omega) rfl ?_
        refine Go.topE (y := nI n) hsz ?_
        refine Go.icmp_ge_f (tgt := 147) dX3_workOut_16 (by decide) (nI_ge hk (by omega)) ?_
        refine Go.at 19 rfl ?_
        refine Go.aload_n dX3_workOut_19 rfl ?_
        refine Go.getR dX3_workOut_20 flX3_23 rfl ?_
        refine Go.iload_n dX3_workOut_23 rfl ?_
        refine Go.aaload (r := (39 + t)) t dX3_workOut_24 (aref5 t ht) rfl ?_
        refine Go.iload dX3_workOut_25 rfl ?_
        refine Go.iaload k dX3_workOut_27 (alenR t ht) (by omega) rfl ?_
        refine Go.topE (y := (-3)) (hro.trans (hen.trans e1)) ?_
        refine Go.at 28 rfl ?_
        refine Go.istore (ls' := [some (vR 1), some (vI (nI t)), some (vI a), some (vI b), some (vI c), some (vI (nI k)), some (vI (-3)), none, none]) dX3_workOut_28 (by decide) rfl ?_
        refine Go.iload dX3_workOut_30 rfl ?_
        refine Go.if_lt_t (tgt := 44) dX3_workOut_32 (by decide) (by decide) ?_
        refine Go.iload dX3_workOut_44 rfl ?_
        refine Go.iconst (v := (-1)) dX3_workOut_46 rfl ?_
        refine Go.icmp_ne_t (tgt := 58) dX3_workOut_47 (by decide) (by decide) ?_
        refine Go.at 58 rfl ?_
        refine Go.iload dX3_workOut_58 rfl ?_
        refine Go.bipush (v := (-2)) dX3_workOut_60 rfl ?_
        refine Go.icmp_ne_t (tgt := 73) dX3_workOut_62 (by decide) (by decide) ?_
        refine Go.iload dX3_workOut_73 rfl ?_
        refine Go.bipush (v := (-3)) dX3_workOut_75 rfl ?_
        refine Go.icmp_ne_f (tgt := 89) dX3_workOut_77 (by decide) (by decide) ?_
        refine Go.at 80 rfl ?_
        refine Go.aload_n dX3_workOut_80 rfl ?_
        refine Go.iload dX3_workOut_81 rfl ?_
        refine Go.callVv 1 [vI c] [] dX3_workOut_83 lkX3_53 (Or.inl ⟨_, _, _, rfl, rfl, rfl⟩) rfl (Nat.le_of_ble_eq_true rfl) rfl (Nat.le_of_ble_eq_true rfl) (c_push hN (by omega) c) ?_
        refine Go.goto (tgt := 141) dX3_workOut_86 (by decide) ?_
        refine Go.iinc (v := nI (k + 1)) (ls' := [some (vR 1), some (vI (nI t)), some (vI a), some (vI b), some (vI c), some (vI (nI (k + 1))), some (vI (-3)), none, none]) dX3_workOut_141 rfl (nI_add _ _) (by decide) rfl ?_
        refine Go.goto (tgt := 8) dX3_workOut_144 (by decide) ?_
        refine Go.at 8 rfl ?_
        refine Go.mask [true, true, true, true, true, true, false, false, false] rfl ?_
        refine c_workOut_lp ht hn hn96 hok hdn hrow a b c f0 j (k + 1) (N + 1) _ _ (by omega) (hst.trans ?_) (Fr.ms (Fr.ms hfr _ _ (by decide)) _ _ (by decide)) ((ms_ne _ _ _ (by decide)).trans ((ms_self _ _ _ _).trans (by rw [hf]))) ((congrFun (ms_self _ _ _ _) _).trans (upd_self _ _ _))
        rw [stR, if_neg (by rw [hw]; decide), if_neg (by rw [hw]; decide), e2]
    · -- not
      have hN1 : 1 ≤ N := by omega
      refine Go.iload dX3_workOut_8 rfl ?_
      refine Go.aload_n dX3_workOut_10 rfl ?_
      refine Go.getR dX3_workOut_11 flX3_18 rfl ?_
      refine Go.iload_n dX3_workOut_14 rfl ?_
      refine Go.iaload t dX3_workOut_15 rfl (by omega) rfl ?_
      refine Go.topE (y := nI n) hsz ?_
      refine Go.icmp_ge_f (tgt := 147) dX3_workOut_16 (by decide) (nI_ge hk (by omega)) ?_
      refine Go.at 19 rfl ?_
      refine Go.aload_n dX3_workOut_19 rfl ?_
      refine Go.getR dX3_workOut_20 flX3_23 rfl ?_
      refine Go.iload_n dX3_workOut_23 rfl ?_
      refine Go.aaload (r := (39 + t)) t dX3_workOut_24 (aref5 t ht) rfl ?_
      refine Go.iload dX3_workOut_25 rfl ?_
      refine Go.iaload k dX3_workOut_27 (alenR t ht) (by omega) rfl ?_
      refine Go.topE (y := (-33)) (hro.trans (by rw [encR, if_neg (by rw [hw]; decide), if_neg (by rw [hw]; decide), hv]; decide)) ?_
      refine Go.at 28 rfl ?_
      refine Go.istore (ls' := [some (vR 1), some (vI (nI t)), some (vI a), some (vI b), some (vI c), some (vI (nI k)), some (vI (-33)), none, none]) dX3_workOut_28 (by decide) rfl ?_
      refine Go.iload dX3_workOut_30 rfl ?_
      refine Go.if_lt_t (tgt := 44) dX3_workOut_32 (by decide) (by decide) ?_
      refine Go.iload dX3_workOut_44 rfl ?_
      refine Go.iconst (v := (-1)) dX3_workOut_46 rfl ?_
      refine Go.icmp_ne_t (tgt := 58) dX3_workOut_47 (by decide) (by decide) ?_
      refine Go.at 58 rfl ?_
      refine Go.iload dX3_workOut_58 rfl ?_
      refine Go.bipush (v := (-2)) dX3_workOut_60 rfl ?_
      refine Go.icmp_ne_t (tgt := 73) dX3_workOut_62 (by decide) (by decide) ?_
      refine Go.iload dX3_workOut_73 rfl ?_
      refine Go.bipush (v := (-3)) dX3_workOut_75 rfl ?_
      refine Go.icmp_ne_t (tgt := 89) dX3_workOut_77 (by decide) (by decide) ?_
      refine Go.at 89 rfl ?_
      refine Go.iload dX3_workOut_89 rfl ?_
      refine Go.bipush (v := (-33)) dX3_workOut_91 rfl ?_
      refine Go.icmp_ne_f (tgt := 115) dX3_workOut_93 (by decide) (by decide) ?_
      refine Go.aload_n dX3_workOut_96 rfl ?_
      refine Go.aload_n dX3_workOut_97 rfl ?_
      
      refine Go.callVi 1 [] [vR 1] dX3_workOut_98 lkX3_57 (Or.inl ⟨_, _, _, rfl, rfl, rfl⟩) rfl (Nat.le_of_ble_eq_true rfl) rfl (Nat.le_of_ble_eq_true rfl) (c_pop hN (by omega) (by omega)) ?_
      refine Go.at 101 rfl ?_
      refine Go.if_ne (tgt := 108) dX3_workOut_101 (by decide) (fun h101 => ?_) (fun h101 => ?_)
      · -- 101 taken
        refine Go.iconst (v := nI 0) dX3_workOut_108 rfl ?_
        refine Go.callVv 1 [vI (nI 0)] [] dX3_workOut_109 lkX3_53 (Or.inl ⟨_, _, _, rfl, rfl, rfl⟩) rfl (Nat.le_of_ble_eq_true rfl) rfl (Nat.le_of_ble_eq_true rfl) (c_push ((congrFun (ms_self _ _ _ _) _).trans (upd_self _ _ _)) (by omega) (nI 0)) ?_
        refine Go.goto (tgt := 141) dX3_workOut_112 (by decide) ?_
        refine Go.iinc (v := nI (k + 1)) (ls' := [some (vR 1), some (vI (nI t)), some (vI a), some (vI b), some (vI c), some (vI (nI (k + 1))), some (vI (-33)), none, none]) dX3_workOut_141 rfl (nI_add _ _) (by decide) rfl ?_
        refine Go.goto (tgt := 8) dX3_workOut_144 (by decide) ?_
        refine Go.mask [true, true, true, true, true, true, false, false, false] rfl ?_
        refine c_workOut_lp ht hn hn96 hok hdn hrow a b c f0 j (k + 1) (N - 1 + 1) _ _ (by omega) (hst.trans ?_) (Fr.ms (Fr.ms (Fr.ms hfr _ _ (by decide)) _ _ (by decide)) _ _ (by decide)) ((ms_ne _ _ _ (by decide)).trans ((ms_self _ _ _ _).trans (by rw [ms_ne _ _ _ (by decide), hf]))) ((congrFun (ms_self _ _ _ _) _).trans (upd_self _ _ _))
        rw [stR, if_pos hw, if_pos hv]; simp only [show μ 6 (N - 1) = f (N - 1) from congrFun hf _] at h101; simp only [h101, if_true, if_false]; rw [Nat.sub_add_cancel hN1]
      · -- 101 not
        refine Go.iconst (v := nI 1) dX3_workOut_104 rfl ?_
        refine Go.goto (tgt := 109) dX3_workOut_105 (by decide) ?_
        refine Go.callVv 1 [vI (nI 1)] [] dX3_workOut_109 lkX3_53 (Or.inl ⟨_, _, _, rfl, rfl, rfl⟩) rfl (Nat.le_of_ble_eq_true rfl) rfl (Nat.le_of_ble_eq_true rfl) (c_push ((congrFun (ms_self _ _ _ _) _).trans (upd_self _ _ _)) (by omega) (nI 1)) ?_
        refine Go.goto (tgt := 141) dX3_workOut_112 (by decide) ?_
        refine Go.iinc (v := nI (k + 1)) (ls' := [some (vR 1), some (vI (nI t)), some (vI a), some (vI b), some (vI c), some (vI (nI (k + 1))), some (vI (-33)), none, none]) dX3_workOut_141 rfl (nI_add _ _) (by decide) rfl ?_
        refine Go.goto (tgt := 8) dX3_workOut_144 (by decide) ?_
        refine Go.at 8 rfl ?_
        refine Go.mask [true, true, true, true, true, true, false, false, false] rfl ?_
        refine c_workOut_lp ht hn hn96 hok hdn hrow a b c f0 j (k + 1) (N - 1 + 1) _ _ (by omega) (hst.trans ?_) (Fr.ms (Fr.ms (Fr.ms hfr _ _ (by decide)) _ _ (by decide)) _ _ (by decide)) ((ms_ne _ _ _ (by decide)).trans ((ms_self _ _ _ _).trans (by rw [ms_ne _ _ _ (by decide), hf]))) ((congrFun (ms_self _ _ _ _) _).trans (upd_self _ _ _))
        rw [stR, if_pos hw, if_pos hv]; simp only [show μ 6 (N - 1) = f (N - 1) from congrFun hf _] at h101; simp only [h101, if_true, if_false]; rw [Nat.sub_add_cancel hN1]
    · -- a sign of two sides
      have hN1 : 2 ≤ N := by omega
      obtain ⟨g1, g2, g3, g4, g5, g6⟩ := sign_neg hsg
      refine Go.iload dX3_workOut_8 rfl ?_
      refine Go.aload_n dX3_workOut_10 rfl ?_
      refine Go.getR dX3_workOut_11 flX3_18 rfl ?_
      refine Go.iload_n dX3_workOut_14 rfl ?_
      refine Go.iaload t dX3_workOut_15 rfl (by omega) rfl ?_
      refine Go.topE (y := nI n) hsz ?_
      refine Go.icmp_ge_f (tgt := 147) dX3_workOut_16 (by decide) (nI_ge hk (by omega)) ?_
      refine Go.at 19 rfl ?_
      refine Go.aload_n dX3_workOut_19 rfl ?_
      refine Go.getR dX3_workOut_20 flX3_23 rfl ?_
      refine Go.iload_n dX3_workOut_23 rfl ?_
      refine Go.aaload (r := (39 + t)) t dX3_workOut_24 (aref5 t ht) rfl ?_
      refine Go.iload dX3_workOut_25 rfl ?_
      refine Go.iaload k dX3_workOut_27 (alenR t ht) (by omega) rfl ?_
      refine Go.topE (y := -(tV s t k)) (hro.trans (by rw [encR, if_neg (by rw [hw]; decide), if_neg (by rw [hw]; decide)])) ?_
      refine Go.at 28 rfl ?_
      refine Go.istore (ls' := [some (vR 1), some (vI (nI t)), some (vI a), some (vI b), some (vI c), some (vI (nI k)), some (vI (-(tV s t k))), none, none]) dX3_workOut_28 (by decide) rfl ?_
      refine Go.iload dX3_workOut_30 rfl ?_
      refine Go.if_lt_t (tgt := 44) dX3_workOut_32 (by decide) g1 ?_
      refine Go.iload dX3_workOut_44 rfl ?_
      refine Go.iconst (v := (-1)) dX3_workOut_46 rfl ?_
      refine Go.icmp_ne_t (tgt := 58) dX3_workOut_47 (by decide) g2 ?_
      refine Go.at 58 rfl ?_
      refine Go.iload dX3_workOut_58 rfl ?_
      refine Go.bipush (v := (-2)) dX3_workOut_60 rfl ?_
      refine Go.icmp_ne_t (tgt := 73) dX3_workOut_62 (by decide) g3 ?_
      refine Go.iload dX3_workOut_73 rfl ?_
      refine Go.bipush (v := (-3)) dX3_workOut_75 rfl ?_
      refine Go.icmp_ne_t (tgt := 89) dX3_workOut_77 (by decide) g4 ?_
      refine Go.at 89 rfl ?_
      refine Go.iload dX3_workOut_89 rfl ?_
      refine Go.bipush (v := (-33)) dX3_workOut_91 rfl ?_
      refine Go.icmp_ne_t (tgt := 115) dX3_workOut_93 (by decide) g5 ?_
      refine Go.aload_n dX3_workOut_115 rfl ?_
      refine Go.callVi 1 [] [] dX3_workOut_116 lkX3_57 (Or.inl ⟨_, _, _, rfl, rfl, rfl⟩) rfl (Nat.le_of_ble_eq_true rfl) rfl (Nat.le_of_ble_eq_true rfl) (c_pop hN (by omega) (by omega)) ?_
      refine Go.istore (ls' := [some (vR 1), some (vI (nI t)), some (vI a), some (vI b), some (vI c), some (vI (nI k)), some (vI (-(tV s t k))), some (vI (μ 6 (N - 1))), none]) dX3_workOut_119 (by decide) rfl ?_
      refine Go.at 121 rfl ?_
      refine Go.aload_n dX3_workOut_121 rfl ?_
      refine Go.callVi 1 [] [] dX3_workOut_122 lkX3_57 (Or.inl ⟨_, _, _, rfl, rfl, rfl⟩) rfl (Nat.le_of_ble_eq_true rfl) rfl (Nat.le_of_ble_eq_true rfl) (c_pop ((congrFun (ms_self _ _ _ _) _).trans (upd_self _ _ _)) (by omega) (by omega)) ?_
      refine Go.istore (ls' := [some (vR 1), some (vI (nI t)), some (vI a), some (vI b), some (vI c), some (vI (nI k)), some (vI (-(tV s t k))), some (vI (μ 6 (N - 1))), some (vI ((ms μ 1 5 (nI (N - 1))) 6 ((N - 1) - 1)))]) dX3_workOut_125 (by decide) rfl ?_
      refine Go.aload_n dX3_workOut_127 rfl ?_
      refine Go.iload dX3_workOut_128 rfl ?_
      refine Go.ineg dX3_workOut_130 ?_
      refine Go.topE (y := tV s t k) g6 ?_
      refine Go.at 131 rfl ?_
      refine Go.iload dX3_workOut_131 rfl ?_
      refine Go.iload dX3_workOut_133 rfl ?_
      refine Go.callSi [vI (tV s t k), vI ((ms μ 1 5 (nI (N - 1))) 6 ((N - 1) - 1)), vI (μ 6 (N - 1))] [vR 1] dX3_workOut_135 lkX3_61 rfl (Nat.le_of_ble_eq_true rfl) rfl (Nat.le_of_ble_eq_true rfl) (c_join (tV s t k) ((ms μ 1 5 (nI (N - 1))) 6 ((N - 1) - 1)) (μ 6 (N - 1)) hsg) ?_
      refine Go.callVv 1 [vI (joinC (tV s t k) ((ms μ 1 5 (nI (N - 1))) 6 ((N - 1) - 1)) (μ 6 (N - 1)))] [] dX3_workOut_138 lkX3_53 (Or.inl ⟨_, _, _, rfl, rfl, rfl⟩) rfl (Nat.le_of_ble_eq_true rfl) rfl (Nat.le_of_ble_eq_true rfl) (c_push ((congrFun (ms_self _ _ _ _) _).trans (upd_self _ _ _)) (by omega) (joinC (tV s t k) ((ms μ 1 5 (nI (N - 1))) 6 ((N - 1) - 1)) (μ 6 (N - 1)))) ?_
      refine Go.iinc (v := nI (k + 1)) (ls' := [some (vR 1), some (vI (nI t)), some (vI a), some (vI b), some (vI c), some (vI (nI (k + 1))), some (vI (-(tV s t k))), some (vI (μ 6 (N - 1))), some (vI ((ms μ 1 5 (nI (N - 1))) 6 ((N - 1) - 1)))]) dX3_workOut_141 rfl (nI_add _ _) (by decide) rfl ?_
      refine Go.goto (tgt := 8) dX3_workOut_144 (by decide) ?_
      refine Go.at 8 rfl ?_
      refine Go.mask [true, true, true, true, true, true, false, false, false] rfl ?_
      refine c_workOut_lp ht hn hn96 hok hdn hrow a b c f0 j (k + 1) (N - 1 - 1 + 1) _ _ (by omega) (hst.trans ?_) (Fr.ms (Fr.ms (Fr.ms (Fr.ms hfr _ _ (by decide)) _ _ (by decide)) _ _ (by decide)) _ _ (by decide)) ((ms_ne _ _ _ (by decide)).trans ((ms_self _ _ _ _).trans (by rw [ms_ne _ _ _ (by decide), ms_ne _ _ _ (by decide), hf]))) ((congrFun (ms_self _ _ _ _) _).trans (upd_self _ _ _))
      rw [stR, if_pos hw, if_neg (sign_no33 hsg)]; rw [join_eq hsg, show N - 1 - 1 + 1 = N - 1 by omega]; rfl
theorem c_workOut {V : VV} {d : Nat} {μ0 : Memo} {s : Nat → Int32} {t n : Nat} (ht : t < 14) (hn : μ0 4 t = nI n) (hn96 : n ≤ 96) {key : Int32} (hok : ∀ k, k < n → stepOK key (tW s t k) (tV s t k) (dpR (tW s t) (tV s t) k)) (hdn : dpR (tW s t) (tV s t) n = 1) (hrow : ∀ k, k < n → μ0 (39 + t) k = encR key (tW s t k) (tV s t k)) (a b c : Int32) : RetI V (d + 1) mX3_workOut [vR 1, vI (nI t), vI a, vI b, vI c] μ0 ((rnR (envK key a b c) (tW s t) (tV s t) (μ0 6) n).2 0) (Fr [1, 6] μ0) := by
  show Go V (d + 1) mX3_workOut 0 [some (vR 1), some (vI (nI t)), some (vI a), some (vI b), some (vI c), none, none, none, none] [] μ0 _
  refine Go.aload_n dX3_workOut_0 rfl ?_
  refine Go.iconst (v := nI 0) dX3_workOut_1 rfl ?_
  refine Go.put dX3_workOut_2 flX3_50 rfl rfl rfl rfl ?_
  refine Go.iconst (v := nI 0) dX3_workOut_5 rfl ?_
  refine Go.istore (ls' := [some (vR 1), some (vI (nI t)), some (vI a), some (vI b), some (vI c), some (vI (nI 0)), none, none, none]) dX3_workOut_6 (by decide) rfl ?_
  exact c_workOut_lp ht (hn := (congrFun (ms_ne _ _ _ (by decide)) _).trans hn) hn96 hok hdn (fun k hk => (congrFun (ms_ne _ _ _ (by omega)) _).trans (hrow k hk)) a b c (μ0 6) n 0 0 (μ0 6) _ (by omega) rfl (Fr.rf _ _) (ms_ne _ _ _ (by decide)) ((congrFun (ms_self _ _ _ _) _).trans (upd_self _ _ _)) |>.mono (fun r m2 q => ⟨q.1, Fr.trans (Fr.ms (Fr.rf _ _) _ _ (by decide)) q.2⟩)
