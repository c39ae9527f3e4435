/-! ===== the two systems side by side ===== -/
def SI (s : Nat → Int32) : Prop := TxtsOK s ∧ CornOK s ∧ KindOK s ∧ OwnOK s ∧ HouOK s
def SimImg (μ : Memo) : Prop := (μ 0 10 = nI 0 ∧ μ 76 3 = nI 0) ∨ (μ 0 10 = nI 1 ∧ μ 76 3 = nI 1 ∧ SI (μ 78) ∧ Isl 15 μ (μ 78) ∧ nX (μ 78) ≤ nX (μ 77) ∧ ∀ t, t < nX (μ 78) → ∀ j, j < 200 → μ 78 (147 + 200 * t + j) = μ 77 (147 + 200 * t + j))
def SimSh (μ : Memo) : Prop := ∀ k, k < 4 → μ (53 + k) 0 = μ 80 k ∧ (μ 80 k = (-1) ∨ μ 80 k = nI 0 ∨ μ 80 k = nI 1) ∧ μ (53 + k) 1 = μ 81 k ∧ (∃ n, n ≤ 24 ∧ μ 81 k = nI n) ∧ ∀ j, j < 24 → μ (57 + k) j = μ 82 (24 * k + j)
def SimSl (μ : Memo) : Prop := ∀ k, k < 5 → μ (61 + k) 0 = μ 83 k ∧ (μ 83 k = nI 0 ∨ (μ 83 k = nI 1 ∧ μ (61 + k) 1 = μ 84 k ∧ (∃ q, q < 6 ∧ μ 84 k = nI q) ∧ μ 85 k = worthF (μ (61 + k) 1) (μ (61 + k) 2)) ∨
  (μ 83 k = nI 2 ∧ μ (66 + k) 1 = μ 86 k ∧ (∃ n, n ≤ 24 ∧ μ 86 k = nI n) ∧ ∀ j, j < 24 → μ (71 + k) j = μ 87 (24 * k + j)) ∨ (μ 83 k = nI 3 ∧ μ (61 + k) 3 = μ 84 k))
def SimTp (μ : Memo) : Prop := ∃ n, n ≤ 96 ∧ μ 31 0 = nI n ∧ μ 76 14 = nI n ∧ ∀ j, j < n → μ 32 j = μ 89 j ∧ ∃ b, b < 256 ∧ μ 32 j = nI b
def SimWt (μ : Memo) : Prop := ∃ n, n ≤ 60 ∧ μ 0 9 = nI n ∧ μ 76 29 = nI n ∧ ∀ j, j < n → μ 38 j = μ 93 j
def Sim (μ : Memo) : Prop := SI (μ 77) ∧ Isl 7 μ (μ 77) ∧ Txr μ (μ 77) ∧ SimImg μ ∧ SimSh μ ∧ SimSl μ ∧ SimTp μ ∧ SimWt μ
/-- what nobody asks of later -/
def scr : List Nat := [1, 6, 23, 24, 25, 26, 27, 28, 29, 30, 33, 34, 35, 79, 88, 90, 91, 92, 94]
theorem isB7 : isB 7 := Or.inl rfl
theorem isB15 : isB 15 := Or.inr (Or.inl rfl)
theorem isB23 : isB 23 := Or.inr (Or.inr rfl)
theorem scr_no {o : Nat} (h : (2 ≤ o ∧ o ≤ 5) ∨ (7 ≤ o ∧ o ≤ 22) ∨ o = 0 ∨ o = 31 ∨ o = 32 ∨ (36 ≤ o ∧ o ≤ 78) ∨ (80 ≤ o ∧ o ≤ 87) ∨ o = 89 ∨ o = 93) : o ∉ scr := by
  simp only [scr, List.mem_cons, List.not_mem_nil, or_false]
  omega
theorem SimSh.same {μ μ' : Memo} (h : SimSh μ) (e : ∀ o, (53 ≤ o ∧ o ≤ 60) ∨ (80 ≤ o ∧ o ≤ 82) → μ' o = μ o) : SimSh μ' := by
  intro k hk
  rw [e (53 + k) (by omega), e (57 + k) (by omega), e 80 (by omega), e 81 (by omega), e 82 (by omega)]
  exact h k hk
theorem SimSl.same {μ μ' : Memo} (h : SimSl μ) (e : ∀ o, (61 ≤ o ∧ o ≤ 75) ∨ (83 ≤ o ∧ o ≤ 87) → μ' o = μ o) : SimSl μ' := by
  intro k hk
  rw [e (61 + k) (by omega), e (66 + k) (by omega), e (71 + k) (by omega), e 83 (by omega), e 84 (by omega), e 85 (by omega), e 86 (by omega), e 87 (by omega)]
  exact h k hk
theorem SimTp.same {μ μ' : Memo} (h : SimTp μ) (e31 : μ' 31 = μ 31) (e32 : μ' 32 = μ 32) (e89 : μ' 89 = μ 89) (e76 : μ' 76 14 = μ 76 14) : SimTp μ' := by
  unfold SimTp at *
  rw [e31, e32, e89, e76]
  exact h
theorem SimWt.same {μ μ' : Memo} (h : SimWt μ) (e0 : μ' 0 9 = μ 0 9) (e38 : μ' 38 = μ 38) (e93 : μ' 93 = μ 93) (e76 : μ' 76 29 = μ 76 29) : SimWt μ' := by
  unfold SimWt at *
  rw [e0, e38, e93, e76]
  exact h
theorem SimImg.same {μ μ' : Memo} (h : SimImg μ) (e0 : μ' 0 10 = μ 0 10) (e76 : μ' 76 3 = μ 76 3) (e78 : μ' 78 = μ 78) (e77 : μ' 77 = μ 77) (e : ∀ i, i ≤ 7 → μ' (15 + i) = μ (15 + i)) : SimImg μ' := by
  unfold SimImg at *
  rw [e0, e76, e78, e77]
  rcases h with h | ⟨h1, h2, h3, h4, h5⟩
  · exact Or.inl h
  · exact Or.inr ⟨h1, h2, h3, h4.same e, h5⟩
theorem Sim.fr {μ μ' : Memo} (h : Sim μ) (k : ∀ o, o ∉ scr → μ' o = μ o) : Sim μ' := by
  obtain ⟨h1, h2, h3, h4, h5, h6, h7, h8⟩ := h
  have e77 : μ' 77 = μ 77 := k 77 (scr_no (by omega))
  have e76 : μ' 76 = μ 76 := k 76 (scr_no (by omega))
  have e0 : μ' 0 = μ 0 := k 0 (scr_no (by omega))
  unfold Sim
  rw [e77]
  refine ⟨h1, h2.same (fun i hi => k _ (scr_no (by omega))), h3.same (k 2 (scr_no (by omega))) (k 3 (scr_no (by omega))) (k 4 (scr_no (by omega))) (fun t ht => k _ (scr_no (by have := h1.1.1; omega))), h4.same (by rw [e0]) (by rw [e76]) (k 78 (scr_no (by omega))) e77 (fun i hi => k _ (scr_no (by omega))), h5.same (fun o ho => k o (scr_no (by omega))), h6.same (fun o ho => k o (scr_no (by omega))), h7.same (k 31 (scr_no (by omega))) (k 32 (scr_no (by omega))) (k 89 (scr_no (by omega))) (by rw [e76]), h8.same (by rw [e0]) (k 38 (scr_no (by omega))) (k 93 (scr_no (by omega))) (by rw [e76])⟩
/-- a call on both: the same answer, and the two stay side by side -/
def OpOK (V : VV) (d : Nat) (Mx Mm : Mthd) (As : List AVal) (μ : Memo) : Prop := Go V d Mx 0 (entF Mx (vR 0 :: As)) [] μ (fun r μ1 => ∃ x, r = some (vI x) ∧ Go V d Mm 0 (entF Mm (vR 76 :: As)) [] μ1 (fun r2 μ2 => r2 = some (vI x) ∧ Sim μ2))
theorem OpOK.of {V : VV} {d : Nat} {Mx Mm : Mthd} {As : List AVal} {μ : Memo} {x : Int32} {P : Memo → Prop} (hx : RetI V d Mx (vR 0 :: As) μ x P) (hm : ∀ μ1, P μ1 → RetI V d Mm (vR 76 :: As) μ1 x Sim) : OpOK V d Mx Mm As μ :=
  Go.mono hx (fun r m1 q => ⟨x, q.1, hm m1 q.2⟩)
theorem OpOK.q {V : VV} {d : Nat} {Mx Mm : Mthd} {As : List AVal} {μ : Memo} {x : Int32} (hS : Sim μ) (hx : RetI V d Mx (vR 0 :: As) μ x (Fr [1, 6] μ)) (hm : ∀ μ1, Fr [1, 6] μ μ1 → RetI V d Mm (vR 76 :: As) μ1 x (Fr [88, 90, 91] μ1)) : OpOK V d Mx Mm As μ :=
  OpOK.of hx (fun μ1 k1 => (hm μ1 k1).mono (fun μ2 k2 => hS.fr (fun o ho => (k2 o (fun z => ho (by revert z; simp only [scr, List.mem_cons, List.not_mem_nil, or_false]; omega))).trans (k1 o (fun z => ho (by revert z; simp only [scr, List.mem_cons, List.not_mem_nil, or_false]; omega))))))
theorem in_nI {x : Int32} {n : Nat} (hn : n < 2147483648) (h : nI 0 ≤ x ∧ x ≤ nI n) : ∃ j : Nat, j ≤ n ∧ x = nI j := by
  simp only [sI_le, nT] at h
  exact ⟨x.toInt.toNat, by omega, by apply Int32.toInt_inj.mp; rw [nT]; have := rngI x; omega⟩
theorem nI_in2 {j n : Nat} (h : j ≤ n) (hn : n < 2147483648) : nI 0 ≤ nI j ∧ nI j ≤ nI n := by
  simp only [sI_le, nT]; omega
