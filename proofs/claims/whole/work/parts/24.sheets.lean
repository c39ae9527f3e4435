/-! ===== sheets and slots ===== -/
theorem acX3 : Cond.methodLink RX3 43 arraycopyName ∈ T0 := T0_at 776 (by decide +kernel) (by decide +kernel)
theorem acX8 : Cond.methodLink RX8 259 arraycopyName ∈ T0 := T0_at 838 (by decide +kernel) (by decide +kernel)
theorem acX5 : Cond.methodLink RX5 28 arraycopyName ∈ T0 := T0_at 850 (by decide +kernel) (by decide +kernel)
theorem acX1 : Cond.methodLink RX1 48 arraycopyName ∈ T0 := T0_at 882 (by decide +kernel) (by decide +kernel)
def isSh (o v : Nat) : Prop := fld o 0 = some (3, none) ∧ fld o 1 = some (3, none) ∧ fld o 2 = some (3, some v) ∧ alen v = some 24 ∧ rcvOK o RX5 ∧ o ≠ v
theorem shA {k : Nat} (h : k < 4) : isSh (53 + k) (57 + k) := by
  have : k = 0 ∨ k = 1 ∨ k = 2 ∨ k = 3 := by omega
  rcases this with rfl | rfl | rfl | rfl <;> exact ⟨rfl, rfl, rfl, rfl, Or.inl ⟨_, _, _, rfl, rfl, rfl⟩, by decide⟩
theorem shB {k : Nat} (h : k < 5) : isSh (66 + k) (71 + k) := by
  have : k = 0 ∨ k = 1 ∨ k = 2 ∨ k = 3 ∨ k = 4 := by omega
  rcases this with rfl | rfl | rfl | rfl | rfl <;> exact ⟨rfl, rfl, rfl, rfl, Or.inl ⟨_, _, _, rfl, rfl, rfl⟩, by decide⟩
def isSl (o s : Nat) : Prop := fld o 0 = some (4, none) ∧ fld o 1 = some (4, none) ∧ fld o 2 = some (4, none) ∧ fld o 3 = some (4, none) ∧ fld o 4 = some (4, some s) ∧ rcvOK o RX6
theorem slA {k : Nat} (h : k < 5) : isSl (61 + k) (66 + k) := by
  have : k = 0 ∨ k = 1 ∨ k = 2 ∨ k = 3 ∨ k = 4 := by omega
  rcases this with rfl | rfl | rfl | rfl | rfl <;> exact ⟨rfl, rfl, rfl, rfl, rfl, Or.inl ⟨_, _, _, rfl, rfl, rfl⟩⟩
theorem arSh {k : Nat} (h : k < 4) : aref 36 k = some (53 + k) := by
  have : k = 0 ∨ k = 1 ∨ k = 2 ∨ k = 3 := by omega
  rcases this with rfl | rfl | rfl | rfl <;> rfl
theorem arSl {k : Nat} (h : k < 5) : aref 37 k = some (61 + k) := by
  have : k = 0 ∨ k = 1 ∨ k = 2 ∨ k = 3 ∨ k = 4 := by omega
  rcases this with rfl | rfl | rfl | rfl | rfl <;> rfl
theorem Sim.part {μ μ' : Memo} (hS : Sim μ) (k : ∀ o, (2 ≤ o ∧ o ≤ 5) ∨ (7 ≤ o ∧ o ≤ 22) ∨ (39 ≤ o ∧ o ≤ 52) ∨ o = 77 ∨ o = 78 → μ' o = μ o) (e10 : μ' 0 10 = μ 0 10) (e3 : μ' 76 3 = μ 76 3) (h5 : SimSh μ') (h6 : SimSl μ') (h7 : SimTp μ') (h8 : SimWt μ') : Sim μ' := by
  obtain ⟨h1, h2, h3, h4, -, -, -, -⟩ := hS
  have e77 : μ' 77 = μ 77 := k 77 (by omega)
  unfold Sim
  rw [e77]
  exact ⟨h1, h2.same (fun i hi => k _ (by omega)), h3.same (k 2 (by omega)) (k 3 (by omega)) (k 4 (by omega)) (fun t ht => k _ (by have := h1.1.1; omega)), h4.same e10 e3 (k 78 (by omega)) e77 (fun i hi => k _ (by omega)), h5, h6, h7, h8⟩
/-- a sheet is other -/
theorem Sim.sheet {μ μ' : Memo} (hS : Sim μ) {k : Nat} (hk : k < 4) (kk : ∀ o, o ≠ 53 + k → o ≠ 57 + k → o ≠ 80 → o ≠ 81 → o ≠ 82 → o ≠ 92 → μ' o = μ o)
    (e80 : ∀ q, q < 4 → q ≠ k → μ' 80 q = μ 80 q) (e81 : ∀ q, q < 4 → q ≠ k → μ' 81 q = μ 81 q) (e82 : ∀ q j, q < 4 → q ≠ k → j < 24 → μ' 82 (24 * q + j) = μ 82 (24 * q + j))
    (hn : μ' (53 + k) 0 = μ' 80 k ∧ (μ' 80 k = (-1) ∨ μ' 80 k = nI 0 ∨ μ' 80 k = nI 1) ∧ μ' (53 + k) 1 = μ' 81 k ∧ (∃ n, n ≤ 24 ∧ μ' 81 k = nI n) ∧ ∀ j, j < 24 → μ' (57 + k) j = μ' 82 (24 * k + j)) : Sim μ' := by
  refine hS.part (fun o ho => kk o (by omega) (by omega) (by omega) (by omega) (by omega) (by omega)) (by rw [kk 0 (by omega) (by omega) (by omega) (by omega) (by omega) (by omega)]) (by rw [kk 76 (by omega) (by omega) (by omega) (by omega) (by omega) (by omega)]) ?_ (hS.2.2.2.2.2.1.same (fun o ho => kk o (by omega) (by omega) (by omega) (by omega) (by omega) (by omega))) (hS.2.2.2.2.2.2.1.same (kk 31 (by omega) (by omega) (by omega) (by omega) (by omega) (by omega)) (kk 32 (by omega) (by omega) (by omega) (by omega) (by omega) (by omega)) (kk 89 (by omega) (by omega) (by omega) (by omega) (by omega) (by omega)) (by rw [kk 76 (by omega) (by omega) (by omega) (by omega) (by omega) (by omega)])) (hS.2.2.2.2.2.2.2.same (by rw [kk 0 (by omega) (by omega) (by omega) (by omega) (by omega) (by omega)]) (kk 38 (by omega) (by omega) (by omega) (by omega) (by omega) (by omega)) (kk 93 (by omega) (by omega) (by omega) (by omega) (by omega) (by omega)) (by rw [kk 76 (by omega) (by omega) (by omega) (by omega) (by omega) (by omega)]))
  intro q hq
  by_cases z : q = k
  · subst z; exact hn
  · have := hS.2.2.2.2.1 q hq
    rw [e80 q hq z, e81 q hq z, kk (53 + q) (by omega) (by omega) (by omega) (by omega) (by omega) (by omega), kk (57 + q) (by omega) (by omega) (by omega) (by omega) (by omega) (by omega)]
    exact ⟨this.1, this.2.1, this.2.2.1, this.2.2.2.1, fun j hj => by rw [e82 q j hq z hj]; exact this.2.2.2.2 j hj⟩
theorem i2s_eq (v : Int32) : (v <<< (nI 16 &&& 31)) >>> (nI 16 &&& 31) = v.toInt16.toInt32 := by
  apply Int32.toBitVec_inj.mp
  apply BitVec.eq_of_getLsbD_eq
  intro i hi
  have e : ((v <<< (nI 16 &&& 31)) >>> (nI 16 &&& 31)).toBitVec = (v.toBitVec <<< 16).sshiftRight 16 := rfl
  rw [e]
  have e2 : v.toInt16.toInt32.toBitVec = (v.toBitVec.signExtend 16).signExtend 32 := rfl
  rw [e2, BitVec.getLsbD_sshiftRight, BitVec.getLsbD_signExtend]
  simp only [BitVec.getLsbD_signExtend, BitVec.getLsbD_shiftLeft, BitVec.msb_eq_getLsbD_last]
  by_cases h : i < 16
  · simp [hi, h, show 16 + i < 32 by omega, show ¬ 32 ≤ i by omega, show ¬ 16 + i < 16 by omega]
  · simp [hi, h, show ¬ 16 + i < 32 by omega]
theorem i64_add (a b : Int32) : (a.toInt64 + b.toInt64).toInt = a.toInt + b.toInt := by
  have ha := rngI a; have hb := rngI b
  rw [Int64.toInt_add, Int32.toInt_toInt64, Int32.toInt_toInt64, Int.bmod_eq_of_le (by omega) (by omega)]
theorem lgc_gt (x y : Int64) : (0 < lg_cmp x y) ↔ y.toInt < x.toInt := by
  unfold lg_cmp
  simp only [gt_iff_lt, sI_lt64]
  split
  · rename_i h1
    exact ⟨fun _ => h1, fun _ => by decide⟩
  · rename_i h1
    split
    · exact ⟨fun h => absurd h (by decide), fun h => absurd h h1⟩
    · exact ⟨fun h => absurd h (by decide), fun h => absurd h h1⟩
def pourV (v was : Int32) : Int32 := if v = (-1000000005) then was else wiF v (nI 99)
def pourL (vs : Nat → Int32) (row : Nat) (s : Nat → Int32) (acc k : Nat) : Nat → (Nat → Int32) × Nat
  | 0 => (s, acc)
  | j + 1 => pourL vs row (upd s (11 + 4 * (6 * row + k) + 2) (pourV (vs k) (s (11 + 4 * (6 * row + k) + 2)))) (if pourV (vs k) (s (11 + 4 * (6 * row + k) + 2)) = s (11 + 4 * (6 * row + k) + 2) then acc else acc + 1) (k + 1) j
theorem pourV_rng {v was : Int32} (h : 0 ≤ was.toInt ∧ was.toInt ≤ 99) : 0 ≤ (pourV v was).toInt ∧ (pourV v was).toInt ≤ 99 := by
  unfold pourV
  split
  · exact h
  · exact wi_rng v
def rdsL (vs : Nat → Int32) (s : Nat → Int32) (k : Nat) : Nat → Int32
  | 0 => (-1000000005)
  | j + 1 => if vs k = (-1000000005) then rdsL vs s (k + 1) j else if vs k = levelF s (nI k) then rdsL vs s (k + 1) j else nI k
def hasPls (a n z : Int32) : Prop := 0 ≤ a ∧ 0 ≤ n ∧ a ≤ z ∧ n ≤ z - a
/-- a slot is other -/
theorem Sim.slot {μ μ' : Memo} (hS : Sim μ) {k : Nat} (hk : k < 5) (kk : ∀ o, o ≠ 61 + k → o ≠ 66 + k → o ≠ 71 + k → o ≠ 83 → o ≠ 84 → o ≠ 85 → o ≠ 86 → o ≠ 87 → μ' o = μ o)
    (e83 : ∀ q, q < 5 → q ≠ k → μ' 83 q = μ 83 q) (e84 : ∀ q, q < 5 → q ≠ k → μ' 84 q = μ 84 q) (e85 : ∀ q, q < 5 → q ≠ k → μ' 85 q = μ 85 q) (e86 : ∀ q, q < 5 → q ≠ k → μ' 86 q = μ 86 q) (e87 : ∀ q j, q < 5 → q ≠ k → j < 24 → μ' 87 (24 * q + j) = μ 87 (24 * q + j))
    (hn : μ' (61 + k) 0 = μ' 83 k ∧ (μ' 83 k = nI 0 ∨ (μ' 83 k = nI 1 ∧ μ' (61 + k) 1 = μ' 84 k ∧ (∃ q, q < 6 ∧ μ' 84 k = nI q) ∧ μ' 85 k = worthF (μ' (61 + k) 1) (μ' (61 + k) 2)) ∨
      (μ' 83 k = nI 2 ∧ μ' (66 + k) 1 = μ' 86 k ∧ (∃ n, n ≤ 24 ∧ μ' 86 k = nI n) ∧ ∀ j, j < 24 → μ' (71 + k) j = μ' 87 (24 * k + j)) ∨ (μ' 83 k = nI 3 ∧ μ' (61 + k) 3 = μ' 84 k))) : Sim μ' := by
  have k2 : ∀ o, o < 61 ∨ (76 ≤ o ∧ o ≤ 82) ∨ 88 ≤ o → μ' o = μ o := fun o ho => kk o (by omega) (by omega) (by omega) (by omega) (by omega) (by omega) (by omega) (by omega)
  refine hS.part (fun o ho => k2 o (by omega)) (by rw [k2 0 (by omega)]) (by rw [k2 76 (by omega)]) (hS.2.2.2.2.1.same (fun o ho => k2 o (by omega))) ?_ (hS.2.2.2.2.2.2.1.same (k2 31 (by omega)) (k2 32 (by omega)) (k2 89 (by omega)) (by rw [k2 76 (by omega)])) (hS.2.2.2.2.2.2.2.same (by rw [k2 0 (by omega)]) (k2 38 (by omega)) (k2 93 (by omega)) (by rw [k2 76 (by omega)]))
  intro q hq
  by_cases z : q = k
  · subst z; exact hn
  · have := hS.2.2.2.2.2.1 q hq
    rw [e83 q hq z, e84 q hq z, e85 q hq z, e86 q hq z, kk (61 + q) (by omega) (by omega) (by omega) (by omega) (by omega) (by omega) (by omega) (by omega), kk (66 + q) (by omega) (by omega) (by omega) (by omega) (by omega) (by omega) (by omega) (by omega), kk (71 + q) (by omega) (by omega) (by omega) (by omega) (by omega) (by omega) (by omega) (by omega)]
    refine ⟨this.1, ?_⟩
    rcases this.2 with h | h | h | h
    · exact Or.inl h
    · exact Or.inr (Or.inl h)
    · exact Or.inr (Or.inr (Or.inl ⟨h.1, h.2.1, h.2.2.1, fun j hj => by rw [e87 q j hq z hj]; exact h.2.2.2 j hj⟩))
    · exact Or.inr (Or.inr (Or.inr h))
theorem Sim.waits {μ μ' : Memo} (hS : Sim μ) (kk : ∀ o, o ≠ 0 → o ≠ 38 → o ≠ 76 → o ≠ 93 → μ' o = μ o) (e10 : μ' 0 10 = μ 0 10) (e3 : μ' 76 3 = μ 76 3) (e14 : μ' 76 14 = μ 76 14) (h : SimWt μ') : Sim μ' :=
  hS.part (fun o ho => kk o (by omega) (by omega) (by omega) (by omega)) e10 e3 (hS.2.2.2.2.1.same (fun o ho => kk o (by omega) (by omega) (by omega) (by omega))) (hS.2.2.2.2.2.1.same (fun o ho => kk o (by omega) (by omega) (by omega) (by omega))) (hS.2.2.2.2.2.2.1.same (kk 31 (by omega) (by omega) (by omega) (by omega)) (kk 32 (by omega) (by omega) (by omega) (by omega)) (kk 89 (by omega) (by omega) (by omega) (by omega)) e14) h

theorem c_fill_lp {V : VV} {d : Nat} {μ0 : Memo} {v n : Nat} (hv : alen v = some n) (hn : n < 1000) (x : Int32) :
    ∀ (j k : Nat) (μ : Memo), k + j = n → (∀ i, i < k → μ v i = x) → Fr [v] μ0 μ → Go V d mJ7_fill_53178 5 [some (vR v), some (vI x), some (vI (nI k)), some (vI (nI n))] [] μ (fun r' μ'' => r' = none ∧ (∀ i, i < n → μ'' v i = x) ∧ Fr [v] μ0 μ'')
  | 0, k, μ, hkj, h1, h2 => by
    obtain rfl : k = n := by omega
    refine Go.iload_n dJ7_fill_53178_5 rfl ?_
    refine Go.iload_n dJ7_fill_53178_6 rfl ?_
    refine Go.icmp_ge_t (tgt := 20) dJ7_fill_53178_7 (by decide) (by rw [sI_le]; exact Int.le_refl _) ?_
    refine Go.vreturn dJ7_fill_53178_20 rfl ?_
    exact ⟨rfl, h1, h2⟩
  | j + 1, k, μ, hkj, h1, h2 => by
    have hk : k < n := by omega
    refine Go.iload_n dJ7_fill_53178_5 rfl ?_
    refine Go.iload_n dJ7_fill_53178_6 rfl ?_
    refine Go.icmp_ge_f (tgt := 20) dJ7_fill_53178_7 (by decide) (nI_ge hk (by omega)) ?_
    refine Go.aload_n dJ7_fill_53178_10 rfl ?_
    refine Go.iload_n dJ7_fill_53178_11 rfl ?_
    refine Go.iload_n dJ7_fill_53178_12 rfl ?_
    refine Go.at 13 rfl ?_
    refine Go.iastore k dJ7_fill_53178_13 hv (by omega) rfl ?_
    refine Go.iinc (v := nI (k + 1)) (ls' := [some (vR v), some (vI x), some (vI (nI (k + 1))), some (vI (nI n))]) dJ7_fill_53178_14 rfl (nI_add _ _) (by decide) rfl ?_
    refine Go.goto (tgt := 5) dJ7_fill_53178_17 (by decide) ?_
    exact c_fill_lp hv hn x j (k + 1) _ (by omega) (fun i hi => by
      rw [ms_self]
      by_cases z : i = k
      · subst z; exact upd_self _ _ _
      · rw [upd_ne _ _ z]; exact h1 i (by omega)) (h2.ms _ _ (by simp))
theorem c_fill {V : VV} {d : Nat} {μ : Memo} {v n : Nat} (hv : alen v = some n) (hn : n < 1000) (x : Int32) : RetU V (d) mJ7_fill_53178 [vR v, vI x] μ (fun μ1 => (∀ i, i < n → μ1 v i = x) ∧ Fr [v] μ μ1) := by
  show Go V (d) mJ7_fill_53178 0 [some (vR v), some (vI x), none, none] [] μ _
  refine Go.iconst (v := nI 0) dJ7_fill_53178_0 rfl ?_
  refine Go.istore_n (ls' := [some (vR v), some (vI x), some (vI (nI 0)), none]) dJ7_fill_53178_1 (by decide) rfl ?_
  refine Go.aload_n dJ7_fill_53178_2 rfl ?_
  refine Go.alength (n := n) dJ7_fill_53178_3 hv ?_
  refine Go.istore_n (ls' := [some (vR v), some (vI x), some (vI (nI 0)), some (vI (nI n))]) dJ7_fill_53178_4 (by decide) rfl ?_
  exact c_fill_lp hv hn x n 0 _ (by omega) (fun i hi => absurd hi (by omega)) (Fr.rf _ _)
theorem c_become {V : VV} {d : Nat} {μ : Memo} {o v : Nat} (hs : isSh o v) (a n : Int32) : RetU V (d + 1) mX5_become [vR o, vI a, vI n] μ (fun μ1 => μ1 o 0 = a ∧ μ1 o 1 = n ∧ (∀ i, i < 24 → μ1 v i = nI 0) ∧ Fr [o, v] μ μ1) := by
  show Go V (d + 1) mX5_become 0 [some (vR o), some (vI a), some (vI n)] [] μ _
  refine Go.aload_n dX5_become_0 rfl ?_
  refine Go.iload_n dX5_become_1 rfl ?_
  refine Go.put dX5_become_2 flX5_9 hs.1 rfl rfl rfl ?_
  refine Go.aload_n dX5_become_5 rfl ?_
  refine Go.iload_n dX5_become_6 rfl ?_
  refine Go.put dX5_become_7 flX5_19 hs.2.1 rfl rfl rfl ?_
  refine Go.at 10 rfl ?_
  refine Go.aload_n dX5_become_10 rfl ?_
  refine Go.getR dX5_become_11 flX5_15 hs.2.2.1 ?_
  refine Go.iconst (v := nI 0) dX5_become_14 rfl ?_
  refine Go.callSu [vR v, vI (nI 0)] [] dX5_become_15 lkX5_22 rfl (Nat.le_of_ble_eq_true rfl) rfl (Nat.le_of_ble_eq_true rfl) (c_fill hs.2.2.2.1 (by decide) (nI 0)) (fun μ1 k1 => ?_)
  refine Go.vreturn dX5_become_18 rfl ?_
  have e := k1.2 o (by simp only [List.mem_cons, List.not_mem_nil, or_false]; exact hs.2.2.2.2.2)
  exact ⟨rfl, by rw [e, ms_self, ms_self]; rw [upd_ne _ _ (by decide)]; exact upd_self _ _ _, by rw [e, ms_self]; exact upd_self _ _ _, k1.1, (((Fr.rf _ _).ms _ _ (by simp)).ms _ _ (by simp)).trans (k1.2.wide (by simp only [List.mem_cons, List.not_mem_nil, or_false]; omega))⟩
theorem c_becomeLike {V : VV} {d : Nat} {μ : Memo} {o v p w : Nat} (hs : isSh o v) (ht : isSh p w) (h1 : o ≠ p) (h2 : o ≠ w) (h3 : v ≠ p) (h4 : v ≠ w) : RetU V (d + 1) mX5_becomeLike [vR o, vR p] μ (fun μ1 => μ1 o 0 = μ p 0 ∧ μ1 o 1 = μ p 1 ∧ (∀ i, i < 24 → μ1 v i = μ w i) ∧ Fr [o, v] μ μ1) := by
  show Go V (d + 1) mX5_becomeLike 0 [some (vR o), some (vR p)] [] μ _
  refine Go.aload_n dX5_becomeLike_0 rfl ?_
  refine Go.aload_n dX5_becomeLike_1 rfl ?_
  refine Go.getI dX5_becomeLike_2 flX5_9 ht.1 ?_
  refine Go.put dX5_becomeLike_5 flX5_9 hs.1 rfl rfl rfl ?_
  refine Go.aload_n dX5_becomeLike_8 rfl ?_
  refine Go.aload_n dX5_becomeLike_9 rfl ?_
  refine Go.at 10 rfl ?_
  refine Go.getI dX5_becomeLike_10 flX5_19 ht.2.1 ?_
  refine Go.topE (y := μ p 1) (by rw [ms_ne _ _ _ (Ne.symm h1)]) ?_
  refine Go.put dX5_becomeLike_13 flX5_19 hs.2.1 rfl rfl rfl ?_
  refine Go.aload_n dX5_becomeLike_16 rfl ?_
  refine Go.getR dX5_becomeLike_17 flX5_15 ht.2.2.1 ?_
  refine Go.iconst (v := nI 0) dX5_becomeLike_20 rfl ?_
  refine Go.aload_n dX5_becomeLike_21 rfl ?_
  refine Go.at 22 rfl ?_
  refine Go.getR dX5_becomeLike_22 flX5_15 hs.2.2.1 ?_
  refine Go.iconst (v := nI 0) dX5_becomeLike_25 rfl ?_
  refine Go.bipush (v := nI 24) dX5_becomeLike_26 rfl ?_
  refine Go.copyi 0 0 24 dX5_becomeLike_28 acX5 ht.2.2.2.1 hs.2.2.2.1 rfl rfl rfl (by decide) (by decide) (by exact Nat.le_of_ble_eq_true rfl) ?_
  refine Go.vreturn dX5_becomeLike_31 rfl ?_
  have hov := hs.2.2.2.2.2
  exact ⟨rfl, by rw [mw_ne _ _ hov, ms_self, ms_self, upd_ne _ _ (by decide)]; exact upd_self _ _ _, by rw [mw_ne _ _ hov, ms_self]; exact upd_self _ _ _, fun i hi => by rw [mw_self, va_cpy, if_pos ⟨Nat.zero_le _, by omega⟩, ms_ne _ _ _ (Ne.symm h2), ms_ne _ _ _ (Ne.symm h2)]; congr 1; omega, (((Fr.rf _ _).ms _ _ (by simp)).ms _ _ (by simp)).mw _ (by simp)⟩
theorem c_hasPlace {V : VV} {d : Nat} {μ : Memo} {o v : Nat} (hs : isSh o v) (x : Int32) : Ret V (d) mX5_hasPlace [vR o, vI x] μ (some (vI (bI (0 ≤ x ∧ x < μ o 1)))) μ := by
  show Go V (d) mX5_hasPlace 0 [some (vR o), some (vI x)] [] μ _
  refine Go.iload_n dX5_hasPlace_0 rfl ?_
  refine Go.if_lt (tgt := 16) dX5_hasPlace_1 (by decide) (fun h1 => ?_) (fun h1 => ?_)
  · -- 1 taken
    refine Go.iconst (v := nI 0) dX5_hasPlace_16 rfl ?_
    refine Go.ireturn .boolean dX5_hasPlace_17 rfl rfl ?_
    exact ⟨congrArg (fun z => some (vI z)) (bI_f (by (try simp only [sI_lt, sI_le, sI_eq, Int32.toInt_zero] at *); omega)).symm, rfl⟩
  · -- 1 not
    refine Go.iload_n dX5_hasPlace_4 rfl ?_
    refine Go.aload_n dX5_hasPlace_5 rfl ?_
    refine Go.getI dX5_hasPlace_6 flX5_19 hs.2.1 ?_
    refine Go.icmp_ge (tgt := 16) dX5_hasPlace_9 (by decide) (fun h9 => ?_) (fun h9 => ?_)
    · -- 9 taken
      refine Go.iconst (v := nI 0) dX5_hasPlace_16 rfl ?_
      refine Go.ireturn .boolean dX5_hasPlace_17 rfl rfl ?_
      exact ⟨congrArg (fun z => some (vI z)) (bI_f (by (try simp only [sI_lt, sI_le, sI_eq, Int32.toInt_zero] at *); omega)).symm, rfl⟩
    · -- 9 not
      refine Go.iconst (v := nI 1) dX5_hasPlace_12 rfl ?_
      refine Go.goto (tgt := 17) dX5_hasPlace_13 (by decide) ?_
      refine Go.ireturn .boolean dX5_hasPlace_17 rfl rfl ?_
      exact ⟨congrArg (fun z => some (vI z)) (bI_t (by (try simp only [sI_lt, sI_le, sI_eq, Int32.toInt_zero] at *); omega)).symm, rfl⟩
theorem hasPls_iff (a n z : Int32) : hasPls a n z ↔ (0 ≤ a ∧ 0 ≤ n ∧ a ≤ z ∧ n ≤ z - a) := Iff.rfl
theorem c_hasPlaces {V : VV} {d : Nat} {μ : Memo} {o v : Nat} (hs : isSh o v) (a n : Int32) : Ret V (d) mX5_hasPlaces [vR o, vI a, vI n] μ (some (vI (bI (0 ≤ a ∧ 0 ≤ n ∧ a ≤ μ o 1 ∧ n ≤ μ o 1 - a)))) μ := by
  show Go V (d) mX5_hasPlaces 0 [some (vR o), some (vI a), some (vI n)] [] μ _
  refine Go.iload_n dX5_hasPlaces_0 rfl ?_
  refine Go.if_lt (tgt := 30) dX5_hasPlaces_1 (by decide) (fun h1 => ?_) (fun h1 => ?_)
  · -- 1 taken
    refine Go.iconst (v := nI 0) dX5_hasPlaces_30 rfl ?_
    refine Go.ireturn .boolean dX5_hasPlaces_31 rfl rfl ?_
    exact ⟨congrArg (fun z => some (vI z)) (bI_f (by (try simp only [sI_lt, sI_le, sI_eq, Int32.toInt_zero] at *); omega)).symm, rfl⟩
  · -- 1 not
    refine Go.iload_n dX5_hasPlaces_4 rfl ?_
    refine Go.if_lt (tgt := 30) dX5_hasPlaces_5 (by decide) (fun h5 => ?_) (fun h5 => ?_)
    · -- 5 taken
      refine Go.iconst (v := nI 0) dX5_hasPlaces_30 rfl ?_
      refine Go.ireturn .boolean dX5_hasPlaces_31 rfl rfl ?_
      exact ⟨congrArg (fun z => some (vI z)) (bI_f (by (try simp only [sI_lt, sI_le, sI_eq, Int32.toInt_zero] at *); omega)).symm, rfl⟩
    · -- 5 not
      refine Go.iload_n dX5_hasPlaces_8 rfl ?_
      refine Go.aload_n dX5_hasPlaces_9 rfl ?_
      refine Go.getI dX5_hasPlaces_10 flX5_19 hs.2.1 ?_
      refine Go.icmp_gt (tgt := 30) dX5_hasPlaces_13 (by decide) (fun h13 => ?_) (fun h13 => ?_)
      · -- 13 taken
        refine Go.iconst (v := nI 0) dX5_hasPlaces_30 rfl ?_
        refine Go.ireturn .boolean dX5_hasPlaces_31 rfl rfl ?_
        exact ⟨congrArg (fun z => some (vI z)) (bI_f (by (try simp only [sI_lt, sI_le, sI_eq, Int32.toInt_zero] at *); omega)).symm, rfl⟩
      · -- 13 not
        refine Go.iload_n dX5_hasPlaces_16 rfl ?_
        refine Go.aload_n dX5_hasPlaces_17 rfl ?_
        refine Go.getI dX5_hasPlaces_18 flX5_19 hs.2.1 ?_
        refine Go.iload_n dX5_hasPlaces_21 rfl ?_
        refine Go.isub dX5_hasPlaces_22 ?_
        refine Go.icmp_gt (tgt := 30) dX5_hasPlaces_23 (by decide) (fun h23 => ?_) (fun h23 => ?_)
        · -- 23 taken
          refine Go.iconst (v := nI 0) dX5_hasPlaces_30 rfl ?_
          refine Go.ireturn .boolean dX5_hasPlaces_31 rfl rfl ?_
          exact ⟨congrArg (fun z => some (vI z)) (bI_f (by (try simp only [sI_lt, sI_le, sI_eq, Int32.toInt_zero] at *); omega)).symm, rfl⟩
        · -- 23 not
          refine Go.iconst (v := nI 1) dX5_hasPlaces_26 rfl ?_
          refine Go.goto (tgt := 31) dX5_hasPlaces_27 (by decide) ?_
          refine Go.ireturn .boolean dX5_hasPlaces_31 rfl rfl ?_
          exact ⟨congrArg (fun z => some (vI z)) (bI_t (by (try simp only [sI_lt, sI_le, sI_eq, Int32.toInt_zero] at *); omega)).symm, rfl⟩
theorem c_finding1 {V : VV} {d : Nat} {μ : Memo} {o v : Nat} (hs : isSl o v) : Ret V (d) mX6_findingFor [vR o, vI (nI 1)] μ (some (vI (if μ o 0 = 0 then (-1000000011) else if μ o 0 = nI 1 then (-1000000005) else (-1000000012)))) μ := by
  show Go V (d) mX6_findingFor 0 [some (vR o), some (vI (nI 1))] [] μ _
  refine Go.aload_n dX6_findingFor_0 rfl ?_
  refine Go.getI dX6_findingFor_1 flX6_9 hs.1 ?_
  refine Go.if_ne (tgt := 10) dX6_findingFor_4 (by decide) (fun h4 => ?_) (fun h4 => ?_)
  · -- 4 taken
    refine Go.aload_n dX6_findingFor_10 rfl ?_
    refine Go.getI dX6_findingFor_11 flX6_9 hs.1 ?_
    refine Go.iload_n dX6_findingFor_14 rfl ?_
    refine Go.icmp_ne (tgt := 23) dX6_findingFor_15 (by decide) (fun h15 => ?_) (fun h15 => ?_)
    · -- 15 taken
      refine Go.ldc dX6_findingFor_23 cnX6_24 ?_
      refine Go.ireturn .int dX6_findingFor_25 rfl rfl ?_
      exact ⟨congrArg (fun z => some (vI z)) (by simp only [h4, if_true, if_false]; try simp only [h15, if_true, if_false]), rfl⟩
    · -- 15 not
      refine Go.ldc dX6_findingFor_18 cnX6_23 ?_
      refine Go.goto (tgt := 25) dX6_findingFor_20 (by decide) ?_
      refine Go.ireturn .int dX6_findingFor_25 rfl rfl ?_
      exact ⟨congrArg (fun z => some (vI z)) (by simp only [h4, if_true, if_false]; try simp only [h15, if_true, if_false]), rfl⟩
  · -- 4 not
    refine Go.ldc dX6_findingFor_7 cnX6_22 ?_
    refine Go.ireturn .int dX6_findingFor_9 rfl rfl ?_
    exact ⟨congrArg (fun z => some (vI z)) (by simp only [h4, if_true, if_false]; try simp only [h15, if_true, if_false]), rfl⟩
theorem c_finding2 {V : VV} {d : Nat} {μ : Memo} {o v : Nat} (hs : isSl o v) : Ret V (d) mX6_findingFor [vR o, vI (nI 2)] μ (some (vI (if μ o 0 = 0 then (-1000000011) else if μ o 0 = nI 2 then (-1000000005) else (-1000000012)))) μ := by
  show Go V (d) mX6_findingFor 0 [some (vR o), some (vI (nI 2))] [] μ _
  refine Go.aload_n dX6_findingFor_0 rfl ?_
  refine Go.getI dX6_findingFor_1 flX6_9 hs.1 ?_
  refine Go.if_ne (tgt := 10) dX6_findingFor_4 (by decide) (fun h4 => ?_) (fun h4 => ?_)
  · -- 4 taken
    refine Go.aload_n dX6_findingFor_10 rfl ?_
    refine Go.getI dX6_findingFor_11 flX6_9 hs.1 ?_
    refine Go.iload_n dX6_findingFor_14 rfl ?_
    refine Go.icmp_ne (tgt := 23) dX6_findingFor_15 (by decide) (fun h15 => ?_) (fun h15 => ?_)
    · -- 15 taken
      refine Go.ldc dX6_findingFor_23 cnX6_24 ?_
      refine Go.ireturn .int dX6_findingFor_25 rfl rfl ?_
      exact ⟨congrArg (fun z => some (vI z)) (by simp only [h4, if_true, if_false]; try simp only [h15, if_true, if_false]), rfl⟩
    · -- 15 not
      refine Go.ldc dX6_findingFor_18 cnX6_23 ?_
      refine Go.goto (tgt := 25) dX6_findingFor_20 (by decide) ?_
      refine Go.ireturn .int dX6_findingFor_25 rfl rfl ?_
      exact ⟨congrArg (fun z => some (vI z)) (by simp only [h4, if_true, if_false]; try simp only [h15, if_true, if_false]), rfl⟩
  · -- 4 not
    refine Go.ldc dX6_findingFor_7 cnX6_22 ?_
    refine Go.ireturn .int dX6_findingFor_9 rfl rfl ?_
    exact ⟨congrArg (fun z => some (vI z)) (by simp only [h4, if_true, if_false]; try simp only [h15, if_true, if_false]), rfl⟩
theorem c_finding3 {V : VV} {d : Nat} {μ : Memo} {o v : Nat} (hs : isSl o v) : Ret V (d) mX6_findingFor [vR o, vI (nI 3)] μ (some (vI (if μ o 0 = 0 then (-1000000011) else if μ o 0 = nI 3 then (-1000000005) else (-1000000012)))) μ := by
  show Go V (d) mX6_findingFor 0 [some (vR o), some (vI (nI 3))] [] μ _
  refine Go.aload_n dX6_findingFor_0 rfl ?_
  refine Go.getI dX6_findingFor_1 flX6_9 hs.1 ?_
  refine Go.if_ne (tgt := 10) dX6_findingFor_4 (by decide) (fun h4 => ?_) (fun h4 => ?_)
  · -- 4 taken
    refine Go.aload_n dX6_findingFor_10 rfl ?_
    refine Go.getI dX6_findingFor_11 flX6_9 hs.1 ?_
    refine Go.iload_n dX6_findingFor_14 rfl ?_
    refine Go.icmp_ne (tgt := 23) dX6_findingFor_15 (by decide) (fun h15 => ?_) (fun h15 => ?_)
    · -- 15 taken
      refine Go.ldc dX6_findingFor_23 cnX6_24 ?_
      refine Go.ireturn .int dX6_findingFor_25 rfl rfl ?_
      exact ⟨congrArg (fun z => some (vI z)) (by simp only [h4, if_true, if_false]; try simp only [h15, if_true, if_false]), rfl⟩
    · -- 15 not
      refine Go.ldc dX6_findingFor_18 cnX6_23 ?_
      refine Go.goto (tgt := 25) dX6_findingFor_20 (by decide) ?_
      refine Go.ireturn .int dX6_findingFor_25 rfl rfl ?_
      exact ⟨congrArg (fun z => some (vI z)) (by simp only [h4, if_true, if_false]; try simp only [h15, if_true, if_false]), rfl⟩
  · -- 4 not
    refine Go.ldc dX6_findingFor_7 cnX6_22 ?_
    refine Go.ireturn .int dX6_findingFor_9 rfl rfl ?_
    exact ⟨congrArg (fun z => some (vI z)) (by simp only [h4, if_true, if_false]; try simp only [h15, if_true, if_false]), rfl⟩
theorem m_isSheet {V : VV} {d : Nat} {μ : Memo} (v : Int32) : Ret V (d + 1) mX9_isSheet [vI v] μ (some (vI (bI (nI 0 ≤ v ∧ v ≤ nI 3)))) μ := by
  show Go V (d + 1) mX9_isSheet 0 [some (vI v)] [] μ _
  refine Go.iload_n dX9_isSheet_0 rfl ?_
  refine Go.i2l dX9_isSheet_1 ?_
  refine Go.lconst (v := (nI 0).toInt64) dX9_isSheet_2 rfl ?_
  refine Go.ldc2 (v := (nI 3).toInt64) dX9_isSheet_3 clX9_283 ?_
  refine Go.callSi [vL v.toInt64, vL ((nI 0).toInt64), vL ((nI 3).toInt64)] [] dX9_isSheet_6 lkX9_65 rfl (Nat.le_of_ble_eq_true rfl) rfl (Nat.le_of_ble_eq_true rfl) (m_isIn v (nI 0) (nI 3)) ?_
  refine Go.ireturn .boolean dX9_isSheet_9 rfl (nar_b ()) ?_
  exact ⟨rfl, rfl⟩
theorem m_isSlot {V : VV} {d : Nat} {μ : Memo} (v : Int32) : Ret V (d + 1) mX9_isSlot [vI v] μ (some (vI (bI (nI 0 ≤ v ∧ v ≤ nI 4)))) μ := by
  show Go V (d + 1) mX9_isSlot 0 [some (vI v)] [] μ _
  refine Go.iload_n dX9_isSlot_0 rfl ?_
  refine Go.i2l dX9_isSlot_1 ?_
  refine Go.lconst (v := (nI 0).toInt64) dX9_isSlot_2 rfl ?_
  refine Go.ldc2 (v := (nI 4).toInt64) dX9_isSlot_3 clX9_297 ?_
  refine Go.callSi [vL v.toInt64, vL ((nI 0).toInt64), vL ((nI 4).toInt64)] [] dX9_isSlot_6 lkX9_65 rfl (Nat.le_of_ble_eq_true rfl) rfl (Nat.le_of_ble_eq_true rfl) (m_isIn v (nI 0) (nI 4)) ?_
  refine Go.ireturn .boolean dX9_isSlot_9 rfl (nar_b ()) ?_
  exact ⟨rfl, rfl⟩
theorem m_sheet_lp {V : VV} {d : Nat} {μ0 : Memo} {k : Nat} (hk : k < 4) (a n : Int32) {Q : Option AVal → Memo → Prop}
    (hQ : ∀ μ1, Fr [82] μ0 μ1 → (∀ i, i < 24 → μ1 82 (24 * k + i) = nI 0) → (∀ q j, q < 4 → q ≠ k → j < 24 → μ1 82 (24 * q + j) = μ0 82 (24 * q + j)) → Go V d mX9_sheet 95 [some (vR 76), some (vI (nI k)), some (vI a), some (vI n), some (vI (nI 24))] [] μ1 Q) :
    ∀ (j i : Nat) (μ : Memo), i + j = 24 → Fr [82] μ0 μ → (∀ t, t < i → μ 82 (24 * k + t) = nI 0) → (∀ q j, q < 4 → q ≠ k → j < 24 → μ 82 (24 * q + j) = μ0 82 (24 * q + j)) → Go V d mX9_sheet 69 [some (vR 76), some (vI (nI k)), some (vI a), some (vI n), some (vI (nI i))] [] μ Q
  | 0, i, μ, hij, h1, h2, h3 => by
    obtain rfl : i = 24 := by omega
    refine Go.iload dX9_sheet_69 rfl ?_
    refine Go.bipush (v := nI 24) dX9_sheet_71 rfl ?_
    refine Go.icmp_ge_t (tgt := 95) dX9_sheet_73 (by decide) (by decide) ?_
    exact hQ _ h1 h2 h3
  | j + 1, i, μ, hij, h1, h2, h3 => by
    have hi : i < 24 := by omega
    refine Go.iload dX9_sheet_69 rfl ?_
    refine Go.bipush (v := nI 24) dX9_sheet_71 rfl ?_
    refine Go.icmp_ge_f (tgt := 95) dX9_sheet_73 (by decide) (nI_ge hi (by decide)) ?_
    refine Go.aload_n dX9_sheet_76 rfl ?_
    refine Go.getR dX9_sheet_77 flX9_25 rfl ?_
    refine Go.bipush (v := nI 24) dX9_sheet_80 rfl ?_
    refine Go.at 82 rfl ?_
    refine Go.iload_n dX9_sheet_82 rfl ?_
    refine Go.imulN dX9_sheet_83 ?_
    refine Go.iload dX9_sheet_84 rfl ?_
    refine Go.iaddN dX9_sheet_86 ?_
    refine Go.iconst (v := nI 0) dX9_sheet_87 rfl ?_
    refine Go.iastore ((24 * k) + i) dX9_sheet_88 rfl (by omega) rfl ?_
    refine Go.at 89 rfl ?_
    refine Go.iinc (v := nI (i + 1)) (ls' := [some (vR 76), some (vI (nI k)), some (vI a), some (vI n), some (vI (nI (i + 1)))]) dX9_sheet_89 rfl (nI_add _ _) (by decide) rfl ?_
    refine Go.goto (tgt := 69) dX9_sheet_92 (by decide) ?_
    exact m_sheet_lp hk a n hQ j (i + 1) _ (by omega) (h1.ms _ _ (by decide)) (fun t ht => by
      rw [ms_self]
      by_cases z : t = i
      · subst z; exact upd_self _ _ _
      · rw [upd_ne _ _ (by omega)]; exact h2 t (by omega)) (fun q t hq hne ht => by rw [ms_self, upd_ne _ _ (by omega)]; exact h3 q t hq hne ht)
theorem op_sheet {V : VV} {d : Nat} {μ : Memo} (hS : Sim μ) (k0 : Int32) (sort : Int32) (n : Int32) : OpOK V (d + 3) mX8_sheet mX9_sheet [vI k0, vI sort, vI n] μ := by
  obtain ⟨⟨hT, hCo, hKd, hO, hH⟩, hI, hX, hIm, hSh, hSl, hTp, hWt⟩ := id hS
  by_cases h1 : nI 0 ≤ k0 ∧ k0 ≤ nI 3
  · skip
    obtain ⟨k, hk0, rfl⟩ := in_nI (by decide) h1
    have hk : k < 4 := by omega
    by_cases h2 : (-1) ≤ sort ∧ sort ≤ nI 1
    · skip
      rcases (show sort = (-1) ∨ sort = nI 0 ∨ sort = nI 1 by simp only [sI_le, sI_eq, tI_n1, nT] at *; omega) with rfl | rfl | rfl
      · skip
        refine OpOK.of (x := nI 0) (P := fun μ1 => μ1 (53 + k) 0 = (-1) ∧ μ1 (53 + k) 1 = nI 0 ∧ (∀ i, i < 24 → μ1 (57 + k) i = nI 0) ∧ Fr [53 + k, 57 + k] μ μ1) ?_ (fun μ5 k5 => ?_)
        · show Go V (d + 3) mX8_sheet 0 [some (vR 0), some (vI (nI k)), some (vI (-1)), some (vI n)] [] μ _
          refine Go.iload_n dX8_sheet_0 rfl ?_
          refine Go.callSi [vI (nI k)] [] dX8_sheet_1 lkX8_227 rfl (Nat.le_of_ble_eq_true rfl) rfl (Nat.le_of_ble_eq_true rfl) (c_isSheet (nI k)) ?_
          refine Go.if_eqb_f (tgt := 16) dX8_sheet_4 (by decide) h1 ?_
          refine Go.iload_n dX8_sheet_7 rfl ?_
          refine Go.iconst (v := (-1)) dX8_sheet_8 rfl ?_
          refine Go.iconst (v := nI 1) dX8_sheet_9 rfl ?_
          refine Go.at 10 rfl ?_
          refine Go.callSi [vI (-1), vI (-1), vI (nI 1)] [] dX8_sheet_10 lkX8_72 rfl (Nat.le_of_ble_eq_true rfl) rfl (Nat.le_of_ble_eq_true rfl) (c_within (-1) (-1) (nI 1)) ?_
          refine Go.if_neb_t (tgt := 19) dX8_sheet_13 (by decide) h2 ?_
          refine Go.iload_n dX8_sheet_19 rfl ?_
          refine Go.iconst (v := (-1)) dX8_sheet_20 rfl ?_
          refine Go.icmp_ne_f (tgt := 37) dX8_sheet_21 (by decide) (by decide) ?_
          refine Go.aload_n dX8_sheet_24 rfl ?_
          refine Go.at 25 rfl ?_
          refine Go.getR dX8_sheet_25 flX8_49 rfl ?_
          refine Go.iload_n dX8_sheet_28 rfl ?_
          refine Go.aaload (r := 53 + k) k dX8_sheet_29 (arSh hk) rfl ?_
          refine Go.iconst (v := (-1)) dX8_sheet_30 rfl ?_
          refine Go.iconst (v := nI 0) dX8_sheet_31 rfl ?_
          refine Go.callVu (53 + k) [vI (-1), vI (nI 0)] [] dX8_sheet_32 lkX8_230 (shA hk).2.2.2.2.1 rfl (Nat.le_of_ble_eq_true rfl) rfl (Nat.le_of_ble_eq_true rfl) (c_become (shA hk) (-1) (nI 0)) (fun μ1 k1 => ?_)
          refine Go.at 35 rfl ?_
          refine Go.iconst (v := nI 0) dX8_sheet_35 rfl ?_
          refine Go.ireturn .int dX8_sheet_36 rfl rfl ?_
          exact ⟨rfl, k1⟩
        · skip
          show Go V (d + 3) mX9_sheet 0 [some (vR 76), some (vI (nI k)), some (vI (-1)), some (vI n), none] [] μ5 _
          refine Go.iload_n dX9_sheet_0 rfl ?_
          refine Go.callSi [vI (nI k)] [] dX9_sheet_1 lkX9_285 rfl (Nat.le_of_ble_eq_true rfl) rfl (Nat.le_of_ble_eq_true rfl) (m_isSheet (nI k)) ?_
          refine Go.if_eqb_f (tgt := 29) dX9_sheet_4 (by decide) h1 ?_
          refine Go.iload_n dX9_sheet_7 rfl ?_
          refine Go.i2l dX9_sheet_8 ?_
          refine Go.ldc2 (v := (-1 : Int32).toInt64) dX9_sheet_9 clX9_288 ?_
          refine Go.at 12 rfl ?_
          refine Go.lconst (v := (nI 1).toInt64) dX9_sheet_12 rfl ?_
          refine Go.callSi [vL ((-1).toInt64), vL ((-1 : Int32).toInt64), vL ((nI 1).toInt64)] [] dX9_sheet_13 lkX9_65 rfl (Nat.le_of_ble_eq_true rfl) rfl (Nat.le_of_ble_eq_true rfl) (m_isIn (-1) (-1 : Int32) (nI 1)) ?_
          refine Go.if_eqb_f (tgt := 29) dX9_sheet_16 (by decide) h2 ?_
          refine Go.iload_n dX9_sheet_19 rfl ?_
          refine Go.if_lt_t (tgt := 32) dX9_sheet_20 (by decide) (by decide) ?_
          refine Go.iload_n dX9_sheet_32 rfl ?_
          refine Go.at 33 rfl ?_
          refine Go.if_lt_t (tgt := 44) dX9_sheet_33 (by decide) (by decide) ?_
          refine Go.aload_n dX9_sheet_44 rfl ?_
          refine Go.getR dX9_sheet_45 flX9_19 rfl ?_
          refine Go.iload_n dX9_sheet_48 rfl ?_
          refine Go.iload_n dX9_sheet_49 rfl ?_
          refine Go.iastore k dX9_sheet_50 rfl (by omega) rfl ?_
          refine Go.at 51 rfl ?_
          refine Go.aload_n dX9_sheet_51 rfl ?_
          refine Go.getR dX9_sheet_52 flX9_22 rfl ?_
          refine Go.iload_n dX9_sheet_55 rfl ?_
          refine Go.iload_n dX9_sheet_56 rfl ?_
          refine Go.if_ge_f (tgt := 64) dX9_sheet_57 (by decide) (by decide) ?_
          refine Go.iconst (v := nI 0) dX9_sheet_60 rfl ?_
          refine Go.at 61 rfl ?_
          refine Go.goto (tgt := 65) dX9_sheet_61 (by decide) ?_
          refine Go.iastore k dX9_sheet_65 rfl (by omega) rfl ?_
          refine Go.iconst (v := nI 0) dX9_sheet_66 rfl ?_
          refine Go.istore (ls' := [some (vR 76), some (vI (nI k)), some (vI (-1)), some (vI n), some (vI (nI 0))]) dX9_sheet_67 (by decide) rfl ?_
          refine m_sheet_lp hk _ _ (fun μ7 f1 f2 f3 => ?_) 24 0 _ (by omega) (Fr.rf _ _) (fun t ht => absurd ht (by omega)) (fun q j _ _ _ => rfl)
          refine Go.aload_n dX9_sheet_95 rfl ?_
          refine Go.getR dX9_sheet_96 flX9_22 rfl ?_
          refine Go.iload_n dX9_sheet_99 rfl ?_
          refine Go.iaload k dX9_sheet_100 rfl (by omega) rfl ?_
          refine Go.topE (y := nI 0) (by rw [f1 81 (by decide), ms_self, upd_self]) ?_
          refine Go.ireturn .int dX9_sheet_101 rfl rfl ?_
          exact ⟨rfl, hS.sheet hk (fun o h1 h2 h3 h4 h5 h6 => by rw [f1 o (by simp only [List.mem_cons, List.not_mem_nil, or_false]; omega), ms_ne _ _ _ h4, ms_ne _ _ _ h3]; exact k5.2.2.2 o (by simp only [List.mem_cons, List.not_mem_nil, or_false]; omega))
            (fun q hq hne => by rw [f1 80 (by decide), ms_ne _ _ _ (by decide), ms_self, upd_ne _ _ hne, k5.2.2.2 80 (by simp only [List.mem_cons, List.not_mem_nil, or_false]; omega)])
            (fun q hq hne => by rw [f1 81 (by decide), ms_self, upd_ne _ _ hne, ms_ne _ _ _ (by decide), k5.2.2.2 81 (by simp only [List.mem_cons, List.not_mem_nil, or_false]; omega)])
            (fun q j hq hne hj => by rw [f3 q j hq hne hj, ms_ne _ _ _ (by decide), ms_ne _ _ _ (by decide), k5.2.2.2 82 (by simp only [List.mem_cons, List.not_mem_nil, or_false]; omega)])
            (by
              have e80 : μ7 80 k = (-1) := by rw [f1 80 (by decide), ms_ne _ _ _ (by decide), ms_self, upd_self]
              have e81 : μ7 81 k = nI 0 := by rw [f1 81 (by decide), ms_self, upd_self]
              have eo : ∀ o, 53 ≤ o → o ≤ 60 → μ7 o = μ5 o := fun o _ _ => by rw [f1 o (by simp only [List.mem_cons, List.not_mem_nil, or_false]; omega), ms_ne _ _ _ (by omega), ms_ne _ _ _ (by omega)]
              rw [e80, e81, eo (53 + k) (by omega) (by omega), eo (57 + k) (by omega) (by omega)]
              exact ⟨k5.1, by decide, k5.2.1, ⟨0, by omega, rfl⟩, fun j hj => by rw [k5.2.2.1 j hj, f2 j hj]⟩)⟩
      · skip
        by_cases hn24 : nI 24 < n
        · skip
          refine OpOK.q (x := (-1000000001)) hS ?_ (fun μ5 k5 => ?_)
          · show Go V (d + 3) mX8_sheet 0 [some (vR 0), some (vI (nI k)), some (vI (nI 0)), some (vI n)] [] μ _
            refine Go.iload_n dX8_sheet_0 rfl ?_
            refine Go.callSi [vI (nI k)] [] dX8_sheet_1 lkX8_227 rfl (Nat.le_of_ble_eq_true rfl) rfl (Nat.le_of_ble_eq_true rfl) (c_isSheet (nI k)) ?_
            refine Go.if_eqb_f (tgt := 16) dX8_sheet_4 (by decide) h1 ?_
            refine Go.iload_n dX8_sheet_7 rfl ?_
            refine Go.iconst (v := (-1)) dX8_sheet_8 rfl ?_
            refine Go.iconst (v := nI 1) dX8_sheet_9 rfl ?_
            refine Go.at 10 rfl ?_
            refine Go.callSi [vI (nI 0), vI (-1), vI (nI 1)] [] dX8_sheet_10 lkX8_72 rfl (Nat.le_of_ble_eq_true rfl) rfl (Nat.le_of_ble_eq_true rfl) (c_within (nI 0) (-1) (nI 1)) ?_
            refine Go.if_neb_t (tgt := 19) dX8_sheet_13 (by decide) h2 ?_
            refine Go.iload_n dX8_sheet_19 rfl ?_
            refine Go.iconst (v := (-1)) dX8_sheet_20 rfl ?_
            refine Go.icmp_ne_t (tgt := 37) dX8_sheet_21 (by decide) (by decide) ?_
            refine Go.iload_n dX8_sheet_37 rfl ?_
            refine Go.at 38 rfl ?_
            refine Go.bipush (v := nI 24) dX8_sheet_38 rfl ?_
            refine Go.icmp_le_f (tgt := 46) dX8_sheet_40 (by decide) (by simp only [sI_le, sI_lt] at *; omega) ?_
            refine Go.ldc dX8_sheet_43 cnX8_76 ?_
            refine Go.ireturn .int dX8_sheet_45 rfl rfl ?_
            exact ⟨rfl, Fr.rf _ _⟩
          · skip
            show Go V (d + 3) mX9_sheet 0 [some (vR 76), some (vI (nI k)), some (vI (nI 0)), some (vI n), none] [] μ5 _
            refine Go.iload_n dX9_sheet_0 rfl ?_
            refine Go.callSi [vI (nI k)] [] dX9_sheet_1 lkX9_285 rfl (Nat.le_of_ble_eq_true rfl) rfl (Nat.le_of_ble_eq_true rfl) (m_isSheet (nI k)) ?_
            refine Go.if_eqb_f (tgt := 29) dX9_sheet_4 (by decide) h1 ?_
            refine Go.iload_n dX9_sheet_7 rfl ?_
            refine Go.i2l dX9_sheet_8 ?_
            refine Go.ldc2 (v := (-1 : Int32).toInt64) dX9_sheet_9 clX9_288 ?_
            refine Go.at 12 rfl ?_
            refine Go.lconst (v := (nI 1).toInt64) dX9_sheet_12 rfl ?_
            refine Go.callSi [vL ((nI 0).toInt64), vL ((-1 : Int32).toInt64), vL ((nI 1).toInt64)] [] dX9_sheet_13 lkX9_65 rfl (Nat.le_of_ble_eq_true rfl) rfl (Nat.le_of_ble_eq_true rfl) (m_isIn (nI 0) (-1 : Int32) (nI 1)) ?_
            refine Go.if_eqb_f (tgt := 29) dX9_sheet_16 (by decide) h2 ?_
            refine Go.iload_n dX9_sheet_19 rfl ?_
            refine Go.if_lt_f (tgt := 32) dX9_sheet_20 (by decide) (by decide) ?_
            refine Go.iload_n dX9_sheet_23 rfl ?_
            refine Go.at 24 rfl ?_
            refine Go.bipush (v := nI 24) dX9_sheet_24 rfl ?_
            refine Go.icmp_le_f (tgt := 32) dX9_sheet_26 (by decide) (by simp only [sI_le, sI_lt] at *; omega) ?_
            refine Go.ldc dX9_sheet_29 cnX9_98 ?_
            refine Go.ireturn .int dX9_sheet_31 rfl rfl ?_
            exact ⟨rfl, Fr.rf _ _⟩
        · skip
          by_cases hn0 : n < 0
          · skip
            refine OpOK.q (x := (-1000000014)) hS ?_ (fun μ5 k5 => ?_)
            · show Go V (d + 3) mX8_sheet 0 [some (vR 0), some (vI (nI k)), some (vI (nI 0)), some (vI n)] [] μ _
              refine Go.iload_n dX8_sheet_0 rfl ?_
              refine Go.callSi [vI (nI k)] [] dX8_sheet_1 lkX8_227 rfl (Nat.le_of_ble_eq_true rfl) rfl (Nat.le_of_ble_eq_true rfl) (c_isSheet (nI k)) ?_
              refine Go.if_eqb_f (tgt := 16) dX8_sheet_4 (by decide) h1 ?_
              refine Go.iload_n dX8_sheet_7 rfl ?_
              refine Go.iconst (v := (-1)) dX8_sheet_8 rfl ?_
              refine Go.iconst (v := nI 1) dX8_sheet_9 rfl ?_
              refine Go.at 10 rfl ?_
              refine Go.callSi [vI (nI 0), vI (-1), vI (nI 1)] [] dX8_sheet_10 lkX8_72 rfl (Nat.le_of_ble_eq_true rfl) rfl (Nat.le_of_ble_eq_true rfl) (c_within (nI 0) (-1) (nI 1)) ?_
              refine Go.if_neb_t (tgt := 19) dX8_sheet_13 (by decide) h2 ?_
              refine Go.iload_n dX8_sheet_19 rfl ?_
              refine Go.iconst (v := (-1)) dX8_sheet_20 rfl ?_
              refine Go.icmp_ne_t (tgt := 37) dX8_sheet_21 (by decide) (by decide) ?_
              refine Go.iload_n dX8_sheet_37 rfl ?_
              refine Go.at 38 rfl ?_
              refine Go.bipush (v := nI 24) dX8_sheet_38 rfl ?_
              refine Go.icmp_le_t (tgt := 46) dX8_sheet_40 (by decide) (by simp only [sI_le, sI_lt] at *; omega) ?_
              refine Go.iload_n dX8_sheet_46 rfl ?_
              refine Go.if_ge_f (tgt := 53) dX8_sheet_47 (by decide) (by simp only [sI_le, sI_lt] at *; omega) ?_
              refine Go.ldc dX8_sheet_50 cnX8_234 ?_
              refine Go.ireturn .int dX8_sheet_52 rfl rfl ?_
              exact ⟨rfl, Fr.rf _ _⟩
            · skip
              show Go V (d + 3) mX9_sheet 0 [some (vR 76), some (vI (nI k)), some (vI (nI 0)), some (vI n), none] [] μ5 _
              refine Go.iload_n dX9_sheet_0 rfl ?_
              refine Go.callSi [vI (nI k)] [] dX9_sheet_1 lkX9_285 rfl (Nat.le_of_ble_eq_true rfl) rfl (Nat.le_of_ble_eq_true rfl) (m_isSheet (nI k)) ?_
              refine Go.if_eqb_f (tgt := 29) dX9_sheet_4 (by decide) h1 ?_
              refine Go.iload_n dX9_sheet_7 rfl ?_
              refine Go.i2l dX9_sheet_8 ?_
              refine Go.ldc2 (v := (-1 : Int32).toInt64) dX9_sheet_9 clX9_288 ?_
              refine Go.at 12 rfl ?_
              refine Go.lconst (v := (nI 1).toInt64) dX9_sheet_12 rfl ?_
              refine Go.callSi [vL ((nI 0).toInt64), vL ((-1 : Int32).toInt64), vL ((nI 1).toInt64)] [] dX9_sheet_13 lkX9_65 rfl (Nat.le_of_ble_eq_true rfl) rfl (Nat.le_of_ble_eq_true rfl) (m_isIn (nI 0) (-1 : Int32) (nI 1)) ?_
              refine Go.if_eqb_f (tgt := 29) dX9_sheet_16 (by decide) h2 ?_
              refine Go.iload_n dX9_sheet_19 rfl ?_
              refine Go.if_lt_f (tgt := 32) dX9_sheet_20 (by decide) (by decide) ?_
              refine Go.iload_n dX9_sheet_23 rfl ?_
              refine Go.at 24 rfl ?_
              refine Go.bipush (v := nI 24) dX9_sheet_24 rfl ?_
              refine Go.icmp_le_t (tgt := 32) dX9_sheet_26 (by decide) (by simp only [sI_le, sI_lt] at *; omega) ?_
              refine Go.iload_n dX9_sheet_32 rfl ?_
              refine Go.if_lt_f (tgt := 44) dX9_sheet_33 (by decide) (by decide) ?_
              refine Go.iload_n dX9_sheet_36 rfl ?_
              refine Go.if_ge_f (tgt := 44) dX9_sheet_37 (by decide) (by simp only [sI_le, sI_lt] at *; omega) ?_
              refine Go.at 40 rfl ?_
              refine Go.ldc_w dX9_sheet_40 cnX9_290 ?_
              refine Go.ireturn .int dX9_sheet_43 rfl rfl ?_
              exact ⟨rfl, Fr.rf _ _⟩
          · skip
            obtain ⟨n0, hn, rfl⟩ := in_nI (x := n) (n := 24) (by decide) (by simp only [sI_le, sI_lt, Int32.toInt_zero, nT] at *; omega)
            refine OpOK.of (x := nI n0) (P := fun μ1 => μ1 (53 + k) 0 = nI 0 ∧ μ1 (53 + k) 1 = nI n0 ∧ (∀ i, i < 24 → μ1 (57 + k) i = nI 0) ∧ Fr [53 + k, 57 + k] μ μ1) ?_ (fun μ5 k5 => ?_)
            · show Go V (d + 3) mX8_sheet 0 [some (vR 0), some (vI (nI k)), some (vI (nI 0)), some (vI (nI n0))] [] μ _
              refine Go.iload_n dX8_sheet_0 rfl ?_
              refine Go.callSi [vI (nI k)] [] dX8_sheet_1 lkX8_227 rfl (Nat.le_of_ble_eq_true rfl) rfl (Nat.le_of_ble_eq_true rfl) (c_isSheet (nI k)) ?_
              refine Go.if_eqb_f (tgt := 16) dX8_sheet_4 (by decide) h1 ?_
              refine Go.iload_n dX8_sheet_7 rfl ?_
              refine Go.iconst (v := (-1)) dX8_sheet_8 rfl ?_
              refine Go.iconst (v := nI 1) dX8_sheet_9 rfl ?_
              refine Go.at 10 rfl ?_
              refine Go.callSi [vI (nI 0), vI (-1), vI (nI 1)] [] dX8_sheet_10 lkX8_72 rfl (Nat.le_of_ble_eq_true rfl) rfl (Nat.le_of_ble_eq_true rfl) (c_within (nI 0) (-1) (nI 1)) ?_
              refine Go.if_neb_t (tgt := 19) dX8_sheet_13 (by decide) h2 ?_
              refine Go.iload_n dX8_sheet_19 rfl ?_
              refine Go.iconst (v := (-1)) dX8_sheet_20 rfl ?_
              refine Go.icmp_ne_t (tgt := 37) dX8_sheet_21 (by decide) (by decide) ?_
              refine Go.iload_n dX8_sheet_37 rfl ?_
              refine Go.at 38 rfl ?_
              refine Go.bipush (v := nI 24) dX8_sheet_38 rfl ?_
              refine Go.icmp_le_t (tgt := 46) dX8_sheet_40 (by decide) (by rw [sI_le, nT, nT]; omega) ?_
              refine Go.iload_n dX8_sheet_46 rfl ?_
              refine Go.if_ge_t (tgt := 53) dX8_sheet_47 (by decide) (nI_pos' (by omega)) ?_
              refine Go.aload_n dX8_sheet_53 rfl ?_
              refine Go.getR dX8_sheet_54 flX8_49 rfl ?_
              refine Go.at 57 rfl ?_
              refine Go.iload_n dX8_sheet_57 rfl ?_
              refine Go.aaload (r := 53 + k) k dX8_sheet_58 (arSh hk) rfl ?_
              refine Go.iload_n dX8_sheet_59 rfl ?_
              refine Go.iload_n dX8_sheet_60 rfl ?_
              refine Go.callVu (53 + k) [vI (nI 0), vI (nI n0)] [] dX8_sheet_61 lkX8_230 (shA hk).2.2.2.2.1 rfl (Nat.le_of_ble_eq_true rfl) rfl (Nat.le_of_ble_eq_true rfl) (c_become (shA hk) (nI 0) (nI n0)) (fun μ1 k1 => ?_)
              refine Go.iload_n dX8_sheet_64 rfl ?_
              refine Go.at 65 rfl ?_
              refine Go.ireturn .int dX8_sheet_65 rfl rfl ?_
              exact ⟨rfl, k1⟩
            · skip
              show Go V (d + 3) mX9_sheet 0 [some (vR 76), some (vI (nI k)), some (vI (nI 0)), some (vI (nI n0)), none] [] μ5 _
              refine Go.iload_n dX9_sheet_0 rfl ?_
              refine Go.callSi [vI (nI k)] [] dX9_sheet_1 lkX9_285 rfl (Nat.le_of_ble_eq_true rfl) rfl (Nat.le_of_ble_eq_true rfl) (m_isSheet (nI k)) ?_
              refine Go.if_eqb_f (tgt := 29) dX9_sheet_4 (by decide) h1 ?_
              refine Go.iload_n dX9_sheet_7 rfl ?_
              refine Go.i2l dX9_sheet_8 ?_
              refine Go.ldc2 (v := (-1 : Int32).toInt64) dX9_sheet_9 clX9_288 ?_
              refine Go.at 12 rfl ?_
              refine Go.lconst (v := (nI 1).toInt64) dX9_sheet_12 rfl ?_
              refine Go.callSi [vL ((nI 0).toInt64), vL ((-1 : Int32).toInt64), vL ((nI 1).toInt64)] [] dX9_sheet_13 lkX9_65 rfl (Nat.le_of_ble_eq_true rfl) rfl (Nat.le_of_ble_eq_true rfl) (m_isIn (nI 0) (-1 : Int32) (nI 1)) ?_
              refine Go.if_eqb_f (tgt := 29) dX9_sheet_16 (by decide) h2 ?_
              refine Go.iload_n dX9_sheet_19 rfl ?_
              refine Go.if_lt_f (tgt := 32) dX9_sheet_20 (by decide) (by decide) ?_
              refine Go.iload_n dX9_sheet_23 rfl ?_
              refine Go.at 24 rfl ?_
              refine Go.bipush (v := nI 24) dX9_sheet_24 rfl ?_
              refine Go.icmp_le_t (tgt := 32) dX9_sheet_26 (by decide) (by rw [sI_le, nT, nT]; omega) ?_
              refine Go.iload_n dX9_sheet_32 rfl ?_
              refine Go.if_lt_f (tgt := 44) dX9_sheet_33 (by decide) (by decide) ?_
              refine Go.iload_n dX9_sheet_36 rfl ?_
              refine Go.if_ge_t (tgt := 44) dX9_sheet_37 (by decide) (nI_pos' (by omega)) ?_
              refine Go.at 44 rfl ?_
              refine Go.aload_n dX9_sheet_44 rfl ?_
              refine Go.getR dX9_sheet_45 flX9_19 rfl ?_
              refine Go.iload_n dX9_sheet_48 rfl ?_
              refine Go.iload_n dX9_sheet_49 rfl ?_
              refine Go.iastore k dX9_sheet_50 rfl (by omega) rfl ?_
              refine Go.aload_n dX9_sheet_51 rfl ?_
              refine Go.at 52 rfl ?_
              refine Go.getR dX9_sheet_52 flX9_22 rfl ?_
              refine Go.iload_n dX9_sheet_55 rfl ?_
              refine Go.iload_n dX9_sheet_56 rfl ?_
              refine Go.if_ge_t (tgt := 64) dX9_sheet_57 (by decide) (by decide) ?_
              refine Go.iload_n dX9_sheet_64 rfl ?_
              refine Go.iastore k dX9_sheet_65 rfl (by omega) rfl ?_
              refine Go.at 66 rfl ?_
              refine Go.iconst (v := nI 0) dX9_sheet_66 rfl ?_
              refine Go.istore (ls' := [some (vR 76), some (vI (nI k)), some (vI (nI 0)), some (vI (nI n0)), some (vI (nI 0))]) dX9_sheet_67 (by decide) rfl ?_
              refine m_sheet_lp hk _ _ (fun μ7 f1 f2 f3 => ?_) 24 0 _ (by omega) (Fr.rf _ _) (fun t ht => absurd ht (by omega)) (fun q j _ _ _ => rfl)
              refine Go.aload_n dX9_sheet_95 rfl ?_
              refine Go.getR dX9_sheet_96 flX9_22 rfl ?_
              refine Go.iload_n dX9_sheet_99 rfl ?_
              refine Go.iaload k dX9_sheet_100 rfl (by omega) rfl ?_
              refine Go.topE (y := nI n0) (by rw [f1 81 (by decide), ms_self, upd_self]) ?_
              refine Go.ireturn .int dX9_sheet_101 rfl rfl ?_
              exact ⟨rfl, hS.sheet hk (fun o h1 h2 h3 h4 h5 h6 => by rw [f1 o (by simp only [List.mem_cons, List.not_mem_nil, or_false]; omega), ms_ne _ _ _ h4, ms_ne _ _ _ h3]; exact k5.2.2.2 o (by simp only [List.mem_cons, List.not_mem_nil, or_false]; omega))
                (fun q hq hne => by rw [f1 80 (by decide), ms_ne _ _ _ (by decide), ms_self, upd_ne _ _ hne, k5.2.2.2 80 (by simp only [List.mem_cons, List.not_mem_nil, or_false]; omega)])
                (fun q hq hne => by rw [f1 81 (by decide), ms_self, upd_ne _ _ hne, ms_ne _ _ _ (by decide), k5.2.2.2 81 (by simp only [List.mem_cons, List.not_mem_nil, or_false]; omega)])
                (fun q j hq hne hj => by rw [f3 q j hq hne hj, ms_ne _ _ _ (by decide), ms_ne _ _ _ (by decide), k5.2.2.2 82 (by simp only [List.mem_cons, List.not_mem_nil, or_false]; omega)])
                (by
                  have e80 : μ7 80 k = nI 0 := by rw [f1 80 (by decide), ms_ne _ _ _ (by decide), ms_self, upd_self]
                  have e81 : μ7 81 k = nI n0 := by rw [f1 81 (by decide), ms_self, upd_self]
                  have eo : ∀ o, 53 ≤ o → o ≤ 60 → μ7 o = μ5 o := fun o _ _ => by rw [f1 o (by simp only [List.mem_cons, List.not_mem_nil, or_false]; omega), ms_ne _ _ _ (by omega), ms_ne _ _ _ (by omega)]
                  rw [e80, e81, eo (53 + k) (by omega) (by omega), eo (57 + k) (by omega) (by omega)]
                  exact ⟨k5.1, by decide, k5.2.1, ⟨n0, by omega, rfl⟩, fun j hj => by rw [k5.2.2.1 j hj, f2 j hj]⟩)⟩
      · skip
        by_cases hn24 : nI 24 < n
        · skip
          refine OpOK.q (x := (-1000000001)) hS ?_ (fun μ5 k5 => ?_)
          · show Go V (d + 3) mX8_sheet 0 [some (vR 0), some (vI (nI k)), some (vI (nI 1)), some (vI n)] [] μ _
            refine Go.iload_n dX8_sheet_0 rfl ?_
            refine Go.callSi [vI (nI k)] [] dX8_sheet_1 lkX8_227 rfl (Nat.le_of_ble_eq_true rfl) rfl (Nat.le_of_ble_eq_true rfl) (c_isSheet (nI k)) ?_
            refine Go.if_eqb_f (tgt := 16) dX8_sheet_4 (by decide) h1 ?_
            refine Go.iload_n dX8_sheet_7 rfl ?_
            refine Go.iconst (v := (-1)) dX8_sheet_8 rfl ?_
            refine Go.iconst (v := nI 1) dX8_sheet_9 rfl ?_
            refine Go.at 10 rfl ?_
            refine Go.callSi [vI (nI 1), vI (-1), vI (nI 1)] [] dX8_sheet_10 lkX8_72 rfl (Nat.le_of_ble_eq_true rfl) rfl (Nat.le_of_ble_eq_true rfl) (c_within (nI 1) (-1) (nI 1)) ?_
            refine Go.if_neb_t (tgt := 19) dX8_sheet_13 (by decide) h2 ?_
            refine Go.iload_n dX8_sheet_19 rfl ?_
            refine Go.iconst (v := (-1)) dX8_sheet_20 rfl ?_
            refine Go.icmp_ne_t (tgt := 37) dX8_sheet_21 (by decide) (by decide) ?_
            refine Go.iload_n dX8_sheet_37 rfl ?_
            refine Go.at 38 rfl ?_
            refine Go.bipush (v := nI 24) dX8_sheet_38 rfl ?_
            refine Go.icmp_le_f (tgt := 46) dX8_sheet_40 (by decide) (by simp only [sI_le, sI_lt] at *; omega) ?_
            refine Go.ldc dX8_sheet_43 cnX8_76 ?_
            refine Go.ireturn .int dX8_sheet_45 rfl rfl ?_
            exact ⟨rfl, Fr.rf _ _⟩
          · skip
            show Go V (d + 3) mX9_sheet 0 [some (vR 76), some (vI (nI k)), some (vI (nI 1)), some (vI n), none] [] μ5 _
            refine Go.iload_n dX9_sheet_0 rfl ?_
            refine Go.callSi [vI (nI k)] [] dX9_sheet_1 lkX9_285 rfl (Nat.le_of_ble_eq_true rfl) rfl (Nat.le_of_ble_eq_true rfl) (m_isSheet (nI k)) ?_
            refine Go.if_eqb_f (tgt := 29) dX9_sheet_4 (by decide) h1 ?_
            refine Go.iload_n dX9_sheet_7 rfl ?_
            refine Go.i2l dX9_sheet_8 ?_
            refine Go.ldc2 (v := (-1 : Int32).toInt64) dX9_sheet_9 clX9_288 ?_
            refine Go.at 12 rfl ?_
            refine Go.lconst (v := (nI 1).toInt64) dX9_sheet_12 rfl ?_
            refine Go.callSi [vL ((nI 1).toInt64), vL ((-1 : Int32).toInt64), vL ((nI 1).toInt64)] [] dX9_sheet_13 lkX9_65 rfl (Nat.le_of_ble_eq_true rfl) rfl (Nat.le_of_ble_eq_true rfl) (m_isIn (nI 1) (-1 : Int32) (nI 1)) ?_
            refine Go.if_eqb_f (tgt := 29) dX9_sheet_16 (by decide) h2 ?_
            refine Go.iload_n dX9_sheet_19 rfl ?_
            refine Go.if_lt_f (tgt := 32) dX9_sheet_20 (by decide) (by decide) ?_
            refine Go.iload_n dX9_sheet_23 rfl ?_
            refine Go.at 24 rfl ?_
            refine Go.bipush (v := nI 24) dX9_sheet_24 rfl ?_
            refine Go.icmp_le_f (tgt := 32) dX9_sheet_26 (by decide) (by simp only [sI_le, sI_lt] at *; omega) ?_
            refine Go.ldc dX9_sheet_29 cnX9_98 ?_
            refine Go.ireturn .int dX9_sheet_31 rfl rfl ?_
            exact ⟨rfl, Fr.rf _ _⟩
        · skip
          by_cases hn0 : n < 0
          · skip
            refine OpOK.q (x := (-1000000014)) hS ?_ (fun μ5 k5 => ?_)
            · show Go V (d + 3) mX8_sheet 0 [some (vR 0), some (vI (nI k)), some (vI (nI 1)), some (vI n)] [] μ _
              refine Go.iload_n dX8_sheet_0 rfl ?_
              refine Go.callSi [vI (nI k)] [] dX8_sheet_1 lkX8_227 rfl (Nat.le_of_ble_eq_true rfl) rfl (Nat.le_of_ble_eq_true rfl) (c_isSheet (nI k)) ?_
              refine Go.if_eqb_f (tgt := 16) dX8_sheet_4 (by decide) h1 ?_
              refine Go.iload_n dX8_sheet_7 rfl ?_
              refine Go.iconst (v := (-1)) dX8_sheet_8 rfl ?_
              refine Go.iconst (v := nI 1) dX8_sheet_9 rfl ?_
              refine Go.at 10 rfl ?_
              refine Go.callSi [vI (nI 1), vI (-1), vI (nI 1)] [] dX8_sheet_10 lkX8_72 rfl (Nat.le_of_ble_eq_true rfl) rfl (Nat.le_of_ble_eq_true rfl) (c_within (nI 1) (-1) (nI 1)) ?_
              refine Go.if_neb_t (tgt := 19) dX8_sheet_13 (by decide) h2 ?_
              refine Go.iload_n dX8_sheet_19 rfl ?_
              refine Go.iconst (v := (-1)) dX8_sheet_20 rfl ?_
              refine Go.icmp_ne_t (tgt := 37) dX8_sheet_21 (by decide) (by decide) ?_
              refine Go.iload_n dX8_sheet_37 rfl ?_
              refine Go.at 38 rfl ?_
              refine Go.bipush (v := nI 24) dX8_sheet_38 rfl ?_
              refine Go.icmp_le_t (tgt := 46) dX8_sheet_40 (by decide) (by simp only [sI_le, sI_lt] at *; omega) ?_
              refine Go.iload_n dX8_sheet_46 rfl ?_
              refine Go.if_ge_f (tgt := 53) dX8_sheet_47 (by decide) (by simp only [sI_le, sI_lt] at *; omega) ?_
              refine Go.ldc dX8_sheet_50 cnX8_234 ?_
              refine Go.ireturn .int dX8_sheet_52 rfl rfl ?_
              exact ⟨rfl, Fr.rf _ _⟩
            · skip
              show Go V (d + 3) mX9_sheet 0 [some (vR 76), some (vI (nI k)), some (vI (nI 1)), some (vI n), none] [] μ5 _
              refine Go.iload_n dX9_sheet_0 rfl ?_
              refine Go.callSi [vI (nI k)] [] dX9_sheet_1 lkX9_285 rfl (Nat.le_of_ble_eq_true rfl) rfl (Nat.le_of_ble_eq_true rfl) (m_isSheet (nI k)) ?_
              refine Go.if_eqb_f (tgt := 29) dX9_sheet_4 (by decide) h1 ?_
              refine Go.iload_n dX9_sheet_7 rfl ?_
              refine Go.i2l dX9_sheet_8 ?_
              refine Go.ldc2 (v := (-1 : Int32).toInt64) dX9_sheet_9 clX9_288 ?_
              refine Go.at 12 rfl ?_
              refine Go.lconst (v := (nI 1).toInt64) dX9_sheet_12 rfl ?_
              refine Go.callSi [vL ((nI 1).toInt64), vL ((-1 : Int32).toInt64), vL ((nI 1).toInt64)] [] dX9_sheet_13 lkX9_65 rfl (Nat.le_of_ble_eq_true rfl) rfl (Nat.le_of_ble_eq_true rfl) (m_isIn (nI 1) (-1 : Int32) (nI 1)) ?_
              refine Go.if_eqb_f (tgt := 29) dX9_sheet_16 (by decide) h2 ?_
              refine Go.iload_n dX9_sheet_19 rfl ?_
              refine Go.if_lt_f (tgt := 32) dX9_sheet_20 (by decide) (by decide) ?_
              refine Go.iload_n dX9_sheet_23 rfl ?_
              refine Go.at 24 rfl ?_
              refine Go.bipush (v := nI 24) dX9_sheet_24 rfl ?_
              refine Go.icmp_le_t (tgt := 32) dX9_sheet_26 (by decide) (by simp only [sI_le, sI_lt] at *; omega) ?_
              refine Go.iload_n dX9_sheet_32 rfl ?_
              refine Go.if_lt_f (tgt := 44) dX9_sheet_33 (by decide) (by decide) ?_
              refine Go.iload_n dX9_sheet_36 rfl ?_
              refine Go.if_ge_f (tgt := 44) dX9_sheet_37 (by decide) (by simp only [sI_le, sI_lt] at *; omega) ?_
              refine Go.at 40 rfl ?_
              refine Go.ldc_w dX9_sheet_40 cnX9_290 ?_
              refine Go.ireturn .int dX9_sheet_43 rfl rfl ?_
              exact ⟨rfl, Fr.rf _ _⟩
          · skip
            obtain ⟨n0, hn, rfl⟩ := in_nI (x := n) (n := 24) (by decide) (by simp only [sI_le, sI_lt, Int32.toInt_zero, nT] at *; omega)
            refine OpOK.of (x := nI n0) (P := fun μ1 => μ1 (53 + k) 0 = nI 1 ∧ μ1 (53 + k) 1 = nI n0 ∧ (∀ i, i < 24 → μ1 (57 + k) i = nI 0) ∧ Fr [53 + k, 57 + k] μ μ1) ?_ (fun μ5 k5 => ?_)
            · show Go V (d + 3) mX8_sheet 0 [some (vR 0), some (vI (nI k)), some (vI (nI 1)), some (vI (nI n0))] [] μ _
              refine Go.iload_n dX8_sheet_0 rfl ?_
              refine Go.callSi [vI (nI k)] [] dX8_sheet_1 lkX8_227 rfl (Nat.le_of_ble_eq_true rfl) rfl (Nat.le_of_ble_eq_true rfl) (c_isSheet (nI k)) ?_
              refine Go.if_eqb_f (tgt := 16) dX8_sheet_4 (by decide) h1 ?_
              refine Go.iload_n dX8_sheet_7 rfl ?_
              refine Go.iconst (v := (-1)) dX8_sheet_8 rfl ?_
              refine Go.iconst (v := nI 1) dX8_sheet_9 rfl ?_
              refine Go.at 10 rfl ?_
              refine Go.callSi [vI (nI 1), vI (-1), vI (nI 1)] [] dX8_sheet_10 lkX8_72 rfl (Nat.le_of_ble_eq_true rfl) rfl (Nat.le_of_ble_eq_true rfl) (c_within (nI 1) (-1) (nI 1)) ?_
              refine Go.if_neb_t (tgt := 19) dX8_sheet_13 (by decide) h2 ?_
              refine Go.iload_n dX8_sheet_19 rfl ?_
              refine Go.iconst (v := (-1)) dX8_sheet_20 rfl ?_
              refine Go.icmp_ne_t (tgt := 37) dX8_sheet_21 (by decide) (by decide) ?_
              refine Go.iload_n dX8_sheet_37 rfl ?_
              refine Go.at 38 rfl ?_
              refine Go.bipush (v := nI 24) dX8_sheet_38 rfl ?_
              refine Go.icmp_le_t (tgt := 46) dX8_sheet_40 (by decide) (by rw [sI_le, nT, nT]; omega) ?_
              refine Go.iload_n dX8_sheet_46 rfl ?_
              refine Go.if_ge_t (tgt := 53) dX8_sheet_47 (by decide) (nI_pos' (by omega)) ?_
              refine Go.aload_n dX8_sheet_53 rfl ?_
              refine Go.getR dX8_sheet_54 flX8_49 rfl ?_
              refine Go.at 57 rfl ?_
              refine Go.iload_n dX8_sheet_57 rfl ?_
              refine Go.aaload (r := 53 + k) k dX8_sheet_58 (arSh hk) rfl ?_
              refine Go.iload_n dX8_sheet_59 rfl ?_
              refine Go.iload_n dX8_sheet_60 rfl ?_
              refine Go.callVu (53 + k) [vI (nI 1), vI (nI n0)] [] dX8_sheet_61 lkX8_230 (shA hk).2.2.2.2.1 rfl (Nat.le_of_ble_eq_true rfl) rfl (Nat.le_of_ble_eq_true rfl) (c_become (shA hk) (nI 1) (nI n0)) (fun μ1 k1 => ?_)
              refine Go.iload_n dX8_sheet_64 rfl ?_
              refine Go.at 65 rfl ?_
              refine Go.ireturn .int dX8_sheet_65 rfl rfl ?_
              exact ⟨rfl, k1⟩
            · skip
              show Go V (d + 3) mX9_sheet 0 [some (vR 76), some (vI (nI k)), some (vI (nI 1)), some (vI (nI n0)), none] [] μ5 _
              refine Go.iload_n dX9_sheet_0 rfl ?_
              refine Go.callSi [vI (nI k)] [] dX9_sheet_1 lkX9_285 rfl (Nat.le_of_ble_eq_true rfl) rfl (Nat.le_of_ble_eq_true rfl) (m_isSheet (nI k)) ?_
              refine Go.if_eqb_f (tgt := 29) dX9_sheet_4 (by decide) h1 ?_
              refine Go.iload_n dX9_sheet_7 rfl ?_
              refine Go.i2l dX9_sheet_8 ?_
              refine Go.ldc2 (v := (-1 : Int32).toInt64) dX9_sheet_9 clX9_288 ?_
              refine Go.at 12 rfl ?_
              refine Go.lconst (v := (nI 1).toInt64) dX9_sheet_12 rfl ?_
              refine Go.callSi [vL ((nI 1).toInt64), vL ((-1 : Int32).toInt64), vL ((nI 1).toInt64)] [] dX9_sheet_13 lkX9_65 rfl (Nat.le_of_ble_eq_true rfl) rfl (Nat.le_of_ble_eq_true rfl) (m_isIn (nI 1) (-1 : Int32) (nI 1)) ?_
              refine Go.if_eqb_f (tgt := 29) dX9_sheet_16 (by decide) h2 ?_
              refine Go.iload_n dX9_sheet_19 rfl ?_
              refine Go.if_lt_f (tgt := 32) dX9_sheet_20 (by decide) (by decide) ?_
              refine Go.iload_n dX9_sheet_23 rfl ?_
              refine Go.at 24 rfl ?_
              refine Go.bipush (v := nI 24) dX9_sheet_24 rfl ?_
              refine Go.icmp_le_t (tgt := 32) dX9_sheet_26 (by decide) (by rw [sI_le, nT, nT]; omega) ?_
              refine Go.iload_n dX9_sheet_32 rfl ?_
              refine Go.if_lt_f (tgt := 44) dX9_sheet_33 (by decide) (by decide) ?_
              refine Go.iload_n dX9_sheet_36 rfl ?_
              refine Go.if_ge_t (tgt := 44) dX9_sheet_37 (by decide) (nI_pos' (by omega)) ?_
              refine Go.at 44 rfl ?_
              refine Go.aload_n dX9_sheet_44 rfl ?_
              refine Go.getR dX9_sheet_45 flX9_19 rfl ?_
              refine Go.iload_n dX9_sheet_48 rfl ?_
              refine Go.iload_n dX9_sheet_49 rfl ?_
              refine Go.iastore k dX9_sheet_50 rfl (by omega) rfl ?_
              refine Go.aload_n dX9_sheet_51 rfl ?_
              refine Go.at 52 rfl ?_
              refine Go.getR dX9_sheet_52 flX9_22 rfl ?_
              refine Go.iload_n dX9_sheet_55 rfl ?_
              refine Go.iload_n dX9_sheet_56 rfl ?_
              refine Go.if_ge_t (tgt := 64) dX9_sheet_57 (by decide) (by decide) ?_
              refine Go.iload_n dX9_sheet_64 rfl ?_
              refine Go.iastore k dX9_sheet_65 rfl (by omega) rfl ?_
              refine Go.at 66 rfl ?_
              refine Go.iconst (v := nI 0) dX9_sheet_66 rfl ?_
              refine Go.istore (ls' := [some (vR 76), some (vI (nI k)), some (vI (nI 1)), some (vI (nI n0)), some (vI (nI 0))]) dX9_sheet_67 (by decide) rfl ?_
              refine m_sheet_lp hk _ _ (fun μ7 f1 f2 f3 => ?_) 24 0 _ (by omega) (Fr.rf _ _) (fun t ht => absurd ht (by omega)) (fun q j _ _ _ => rfl)
              refine Go.aload_n dX9_sheet_95 rfl ?_
              refine Go.getR dX9_sheet_96 flX9_22 rfl ?_
              refine Go.iload_n dX9_sheet_99 rfl ?_
              refine Go.iaload k dX9_sheet_100 rfl (by omega) rfl ?_
              refine Go.topE (y := nI n0) (by rw [f1 81 (by decide), ms_self, upd_self]) ?_
              refine Go.ireturn .int dX9_sheet_101 rfl rfl ?_
              exact ⟨rfl, hS.sheet hk (fun o h1 h2 h3 h4 h5 h6 => by rw [f1 o (by simp only [List.mem_cons, List.not_mem_nil, or_false]; omega), ms_ne _ _ _ h4, ms_ne _ _ _ h3]; exact k5.2.2.2 o (by simp only [List.mem_cons, List.not_mem_nil, or_false]; omega))
                (fun q hq hne => by rw [f1 80 (by decide), ms_ne _ _ _ (by decide), ms_self, upd_ne _ _ hne, k5.2.2.2 80 (by simp only [List.mem_cons, List.not_mem_nil, or_false]; omega)])
                (fun q hq hne => by rw [f1 81 (by decide), ms_self, upd_ne _ _ hne, ms_ne _ _ _ (by decide), k5.2.2.2 81 (by simp only [List.mem_cons, List.not_mem_nil, or_false]; omega)])
                (fun q j hq hne hj => by rw [f3 q j hq hne hj, ms_ne _ _ _ (by decide), ms_ne _ _ _ (by decide), k5.2.2.2 82 (by simp only [List.mem_cons, List.not_mem_nil, or_false]; omega)])
                (by
                  have e80 : μ7 80 k = nI 1 := by rw [f1 80 (by decide), ms_ne _ _ _ (by decide), ms_self, upd_self]
                  have e81 : μ7 81 k = nI n0 := by rw [f1 81 (by decide), ms_self, upd_self]
                  have eo : ∀ o, 53 ≤ o → o ≤ 60 → μ7 o = μ5 o := fun o _ _ => by rw [f1 o (by simp only [List.mem_cons, List.not_mem_nil, or_false]; omega), ms_ne _ _ _ (by omega), ms_ne _ _ _ (by omega)]
                  rw [e80, e81, eo (53 + k) (by omega) (by omega), eo (57 + k) (by omega) (by omega)]
                  exact ⟨k5.1, by decide, k5.2.1, ⟨n0, by omega, rfl⟩, fun j hj => by rw [k5.2.2.1 j hj, f2 j hj]⟩)⟩
    · skip
      refine OpOK.q (x := (-1000000001)) hS ?_ (fun μ5 k5 => ?_)
      · show Go V (d + 3) mX8_sheet 0 [some (vR 0), some (vI (nI k)), some (vI sort), some (vI n)] [] μ _
        refine Go.iload_n dX8_sheet_0 rfl ?_
        refine Go.callSi [vI (nI k)] [] dX8_sheet_1 lkX8_227 rfl (Nat.le_of_ble_eq_true rfl) rfl (Nat.le_of_ble_eq_true rfl) (c_isSheet (nI k)) ?_
        refine Go.if_eqb_f (tgt := 16) dX8_sheet_4 (by decide) h1 ?_
        refine Go.iload_n dX8_sheet_7 rfl ?_
        refine Go.iconst (v := (-1)) dX8_sheet_8 rfl ?_
        refine Go.iconst (v := nI 1) dX8_sheet_9 rfl ?_
        refine Go.at 10 rfl ?_
        refine Go.callSi [vI sort, vI (-1), vI (nI 1)] [] dX8_sheet_10 lkX8_72 rfl (Nat.le_of_ble_eq_true rfl) rfl (Nat.le_of_ble_eq_true rfl) (c_within sort (-1) (nI 1)) ?_
        refine Go.if_neb_f (tgt := 19) dX8_sheet_13 (by decide) h2 ?_
        refine Go.ldc dX8_sheet_16 cnX8_76 ?_
        refine Go.ireturn .int dX8_sheet_18 rfl rfl ?_
        exact ⟨rfl, Fr.rf _ _⟩
      · skip
        show Go V (d + 3) mX9_sheet 0 [some (vR 76), some (vI (nI k)), some (vI sort), some (vI n), none] [] μ5 _
        refine Go.iload_n dX9_sheet_0 rfl ?_
        refine Go.callSi [vI (nI k)] [] dX9_sheet_1 lkX9_285 rfl (Nat.le_of_ble_eq_true rfl) rfl (Nat.le_of_ble_eq_true rfl) (m_isSheet (nI k)) ?_
        refine Go.if_eqb_f (tgt := 29) dX9_sheet_4 (by decide) h1 ?_
        refine Go.iload_n dX9_sheet_7 rfl ?_
        refine Go.i2l dX9_sheet_8 ?_
        refine Go.ldc2 (v := (-1 : Int32).toInt64) dX9_sheet_9 clX9_288 ?_
        refine Go.at 12 rfl ?_
        refine Go.lconst (v := (nI 1).toInt64) dX9_sheet_12 rfl ?_
        refine Go.callSi [vL sort.toInt64, vL ((-1 : Int32).toInt64), vL ((nI 1).toInt64)] [] dX9_sheet_13 lkX9_65 rfl (Nat.le_of_ble_eq_true rfl) rfl (Nat.le_of_ble_eq_true rfl) (m_isIn sort (-1 : Int32) (nI 1)) ?_
        refine Go.if_eqb_t (tgt := 29) dX9_sheet_16 (by decide) h2 ?_
        refine Go.ldc dX9_sheet_29 cnX9_98 ?_
        refine Go.ireturn .int dX9_sheet_31 rfl rfl ?_
        exact ⟨rfl, Fr.rf _ _⟩
  · skip
    refine OpOK.q (x := (-1000000001)) hS ?_ (fun μ5 k5 => ?_)
    · show Go V (d + 3) mX8_sheet 0 [some (vR 0), some (vI k0), some (vI sort), some (vI n)] [] μ _
      refine Go.iload_n dX8_sheet_0 rfl ?_
      refine Go.callSi [vI k0] [] dX8_sheet_1 lkX8_227 rfl (Nat.le_of_ble_eq_true rfl) rfl (Nat.le_of_ble_eq_true rfl) (c_isSheet k0) ?_
      refine Go.if_eqb_t (tgt := 16) dX8_sheet_4 (by decide) h1 ?_
      refine Go.ldc dX8_sheet_16 cnX8_76 ?_
      refine Go.ireturn .int dX8_sheet_18 rfl rfl ?_
      exact ⟨rfl, Fr.rf _ _⟩
    · skip
      show Go V (d + 3) mX9_sheet 0 [some (vR 76), some (vI k0), some (vI sort), some (vI n), none] [] μ5 _
      refine Go.iload_n dX9_sheet_0 rfl ?_
      refine Go.callSi [vI k0] [] dX9_sheet_1 lkX9_285 rfl (Nat.le_of_ble_eq_true rfl) rfl (Nat.le_of_ble_eq_true rfl) (m_isSheet k0) ?_
      refine Go.if_eqb_t (tgt := 29) dX9_sheet_4 (by decide) h1 ?_
      refine Go.ldc dX9_sheet_29 cnX9_98 ?_
      refine Go.ireturn .int dX9_sheet_31 rfl rfl ?_
      exact ⟨rfl, Fr.rf _ _⟩
