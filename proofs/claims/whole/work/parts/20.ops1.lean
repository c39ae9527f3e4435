def acF (s : Nat → Int32) : Nat → Int32
  | 0 => nI 0
  | c + 1 => acF s c + s (11 + 4 * c + 2)
theorem txt_of {s : Nat → Int32} (hT : TxtsOK s) {x : Int32} (h : nI 0 ≤ x ∧ x ≤ s 1 - nI 1) : ∃ j : Nat, j < nX s ∧ x = nI j := by
  have h8 := hT.1
  rw [hT.2.1] at h
  simp only [sI_le, tI_sub, nT] at h
  exact ⟨x.toInt.toNat, by omega, by apply Int32.toInt_inj.mp; rw [nT]; have := rngI x; omega⟩
theorem hou_of {s : Nat → Int32} (hH : HouOK s) {x : Int32} (h : nI 0 ≤ x ∧ x ≤ s 0 - nI 1) : ∃ j : Nat, j < nH s ∧ x = nI j := by
  have h8 := hH.1
  rw [hH.2.1] at h
  simp only [sI_le, tI_sub, nT] at h
  exact ⟨x.toInt.toNat, by omega, by apply Int32.toInt_inj.mp; rw [nT]; have := rngI x; omega⟩
theorem in_nI1 {x : Int32} {n : Nat} (hn : n < 2147483648) (h : nI 1 ≤ x ∧ x ≤ nI n) : ∃ j : Nat, 1 ≤ j ∧ j ≤ n ∧ x = nI j := by
  simp only [sI_le, nT] at h
  exact ⟨x.toInt.toNat, by omega, by omega, by apply Int32.toInt_inj.mp; rw [nT]; have := rngI x; omega⟩
theorem c_allCorn_lp {V : VV} {d : Nat} {μ : Memo} {s : Nat → Int32} {B : Nat} (hB : isB B) (hI : Isl B μ s) :
    ∀ (j k : Nat) , k + j = 30 → Go V (d) mX1_allCorn 4 [some (vR B), some (vI (acF s k)), some (vI (nI k))] [] μ (fun r' μ'' => r' = some (vI (acF s 30)) ∧ μ'' = μ)
  | 0, k, hkj => by
    obtain rfl : k = 30 := by omega
    refine Go.iload_n dX1_allCorn_4 rfl ?_
    refine Go.bipush (v := nI 30) dX1_allCorn_5 rfl ?_
    refine Go.icmp_ge_t (tgt := 25) dX1_allCorn_7 (by decide) (by decide) ?_
    refine Go.iload_n dX1_allCorn_25 rfl ?_
    refine Go.ireturn .int dX1_allCorn_26 rfl rfl ?_
    exact ⟨rfl, rfl⟩
  | j + 1, k, hkj => by
    have hk : k < 30 := by omega
    refine Go.iload_n dX1_allCorn_4 rfl ?_
    refine Go.bipush (v := nI 30) dX1_allCorn_5 rfl ?_
    refine Go.icmp_ge_f (tgt := 25) dX1_allCorn_7 (by decide) (nI_ge hk (by decide)) ?_
    refine Go.iload_n dX1_allCorn_10 rfl ?_
    refine Go.aload_n dX1_allCorn_11 rfl ?_
    refine Go.getR dX1_allCorn_12 flX1_18 (fBr hB 2 (by decide)) ?_
    refine Go.at 15 rfl ?_
    refine Go.iload_n dX1_allCorn_15 rfl ?_
    refine Go.iaload k dX1_allCorn_16 (alB3 hB) (by omega) rfl ?_
    refine Go.topE (s (11 + 4 * k + 2)) ((hI.1 k hk).2.2.1) ?_
    refine Go.iadd dX1_allCorn_17 ?_
    refine Go.istore_n (ls' := [some (vR B), some (vI ((acF s k) + (s (11 + 4 * k + 2)))), some (vI (nI k))]) dX1_allCorn_18 (by decide) rfl ?_
    refine Go.iinc (v := nI (k + 1)) (ls' := [some (vR B), some (vI ((acF s k) + (s (11 + 4 * k + 2)))), some (vI (nI (k + 1)))]) dX1_allCorn_19 rfl (nI_add _ _) (by decide) rfl ?_
    refine Go.goto (tgt := 4) dX1_allCorn_22 (by decide) ?_
    refine Go.at 4 rfl ?_
    exact c_allCorn_lp hB hI j (k + 1) (by omega)
theorem c_allCorn {V : VV} {d : Nat} {μ : Memo} {s : Nat → Int32} {B : Nat} (hB : isB B) (hI : Isl B μ s) : Ret V (d) mX1_allCorn [vR B] μ (some (vI (acF s 30))) μ := by
  show Go V (d) mX1_allCorn 0 [some (vR B), none, none] [] μ _
  refine Go.iconst (v := nI 0) dX1_allCorn_0 rfl ?_
  refine Go.istore_n (ls' := [some (vR B), some (vI (nI 0)), none]) dX1_allCorn_1 (by decide) rfl ?_
  refine Go.iconst (v := nI 0) dX1_allCorn_2 rfl ?_
  refine Go.istore_n (ls' := [some (vR B), some (vI (nI 0)), some (vI (nI 0))]) dX1_allCorn_3 (by decide) rfl ?_
  exact c_allCorn_lp hB hI 30 0 (by omega)
theorem m_allCorn_lp {V : VV} {d : Nat} {μ : Memo} {s : Nat → Int32} (hs : μ 77 = s) :
    ∀ (j k : Nat) , k + j = 30 → Go V (d + 1) mX9_allCorn 4 [some (vR 76), some (vI (acF s k)), some (vI (nI k))] [] μ (fun r' μ'' => r' = some (vI (acF s 30)) ∧ μ'' = μ)
  | 0, k, hkj => by
    obtain rfl : k = 30 := by omega
    refine Go.iload_n dX9_allCorn_4 rfl ?_
    refine Go.bipush (v := nI 30) dX9_allCorn_5 rfl ?_
    refine Go.icmp_ge_t (tgt := 25) dX9_allCorn_7 (by decide) (by decide) ?_
    refine Go.iload_n dX9_allCorn_25 rfl ?_
    refine Go.ireturn .int dX9_allCorn_26 rfl rfl ?_
    exact ⟨rfl, rfl⟩
  | j + 1, k, hkj => by
    have hk : k < 30 := by omega
    refine Go.iload_n dX9_allCorn_4 rfl ?_
    refine Go.bipush (v := nI 30) dX9_allCorn_5 rfl ?_
    refine Go.icmp_ge_f (tgt := 25) dX9_allCorn_7 (by decide) (nI_ge hk (by decide)) ?_
    refine Go.iload_n dX9_allCorn_10 rfl ?_
    refine Go.aload_n dX9_allCorn_11 rfl ?_
    refine Go.iload_n dX9_allCorn_12 rfl ?_
    refine Go.at 13 rfl ?_
    refine Go.iconst (v := nI 2) dX9_allCorn_13 rfl ?_
    refine Go.callVi 76 [vI (nI k), vI (nI 2)] [vI (acF s k)] dX9_allCorn_14 lkX9_70 (Or.inl ⟨_, _, _, rfl, rfl, rfl⟩) rfl (Nat.le_of_ble_eq_true rfl) rfl (Nat.le_of_ble_eq_true rfl) (m_of hs k 2 hk (by decide)) ?_
    refine Go.iadd dX9_allCorn_17 ?_
    refine Go.istore_n (ls' := [some (vR 76), some (vI ((acF s k) + (s (11 + 4 * k + 2)))), some (vI (nI k))]) dX9_allCorn_18 (by decide) rfl ?_
    refine Go.iinc (v := nI (k + 1)) (ls' := [some (vR 76), some (vI ((acF s k) + (s (11 + 4 * k + 2)))), some (vI (nI (k + 1)))]) dX9_allCorn_19 rfl (nI_add _ _) (by decide) rfl ?_
    refine Go.goto (tgt := 4) dX9_allCorn_22 (by decide) ?_
    refine Go.at 4 rfl ?_
    exact m_allCorn_lp hs j (k + 1) (by omega)
theorem m_allCorn {V : VV} {d : Nat} {μ : Memo} {s : Nat → Int32} (hs : μ 77 = s) : Ret V (d + 1) mX9_allCorn [vR 76] μ (some (vI (acF s 30))) μ := by
  show Go V (d + 1) mX9_allCorn 0 [some (vR 76), none, none] [] μ _
  refine Go.iconst (v := nI 0) dX9_allCorn_0 rfl ?_
  refine Go.istore_n (ls' := [some (vR 76), some (vI (nI 0)), none]) dX9_allCorn_1 (by decide) rfl ?_
  refine Go.iconst (v := nI 0) dX9_allCorn_2 rfl ?_
  refine Go.istore_n (ls' := [some (vR 76), some (vI (nI 0)), some (vI (nI 0))]) dX9_allCorn_3 (by decide) rfl ?_
  exact m_allCorn_lp hs 30 0 (by omega)
theorem c_isHouse {V : VV} {d : Nat} {μ : Memo} {s : Nat → Int32} (hI : Isl 7 μ s) (v : Int32) : Ret V (d + 1) mX8_isHouse [vR 0, vI v] μ (some (vI (bI (nI 0 ≤ v ∧ v ≤ s 0 - nI 1)))) μ := by
  show Go V (d + 1) mX8_isHouse 0 [some (vR 0), some (vI v)] [] μ _
  refine Go.iload_n dX8_isHouse_0 rfl ?_
  refine Go.iconst (v := nI 0) dX8_isHouse_1 rfl ?_
  refine Go.aload_n dX8_isHouse_2 rfl ?_
  refine Go.getR dX8_isHouse_3 flX8_21 rfl ?_
  refine Go.getI dX8_isHouse_6 flX8_166 rfl ?_
  refine Go.topE (y := s 0) hI.2.2.2.1 ?_
  refine Go.iconst (v := nI 1) dX8_isHouse_9 rfl ?_
  refine Go.at 10 rfl ?_
  refine Go.isub dX8_isHouse_10 ?_
  refine Go.callSi [vI v, vI (nI 0), vI ((s 0) - (nI 1))] [] dX8_isHouse_11 lkX8_72 rfl (Nat.le_of_ble_eq_true rfl) rfl (Nat.le_of_ble_eq_true rfl) (c_within v (nI 0) ((s 0) - (nI 1))) ?_
  refine Go.ireturn .boolean dX8_isHouse_14 rfl (nar_b ()) ?_
  exact ⟨rfl, rfl⟩
theorem c_isUnder {V : VV} {d : Nat} {μ : Memo} {k : Nat} (hk : k < 6) (j : Int32) (hj : nI 0 ≤ j ∧ j ≤ nI 5) : Ret V (d + 1) mX2_isUnder [vI (nI k), vI j] μ (some (vI (bI (isOfP (nI k) j)))) μ := by
  have : k = 0 ∨ k = 1 ∨ k = 2 ∨ k = 3 ∨ k = 4 ∨ k = 5 := by omega
  rcases this with rfl | rfl | rfl | rfl | rfl | rfl
  · exact c_isUnder_0 j hj
  · exact c_isUnder_1 j hj
  · exact c_isUnder_2 j hj
  · exact c_isUnder_3 j hj
  · exact c_isUnder_4 j hj
  · exact c_isUnder_5 j hj
theorem op_dryFor {V : VV} {d : Nat} {μ : Memo} (hS : Sim μ) (cell : Int32) : OpOK V (d + 5) mX8_dryFor mX9_dryFor [vI cell] μ := by
  obtain ⟨⟨hT, hCo, hKd, hO, hH⟩, hI, hX, -, -, -, hTp, hWt⟩ := id hS
  generalize hs : μ 77 = s at hT hCo hKd hO hH hI hX
  by_cases h1 : nI 0 ≤ cell ∧ cell ≤ nI 29
  · skip
    obtain ⟨c, hc0, rfl⟩ := in_nI (by decide) h1
    have hc : c < 30 := by omega
    refine OpOK.q (x := nI (dfF s c 48 0)) hS ?_ (fun μ5 k5 => ?_)
    · show Go V (d + 5) mX8_dryFor 0 [some (vR 0), some (vI (nI c))] [] μ _
      refine Go.iload_n dX8_dryFor_0 rfl ?_
      refine Go.callSi [vI (nI c)] [] dX8_dryFor_1 lkX8_65 rfl (Nat.le_of_ble_eq_true rfl) rfl (Nat.le_of_ble_eq_true rfl) (c_isCell (nI c)) ?_
      refine Go.if_eqb_f (tgt := 18) dX8_dryFor_4 (by decide) h1 ?_
      refine Go.aload_n dX8_dryFor_7 rfl ?_
      refine Go.getR dX8_dryFor_8 flX8_21 rfl ?_
      refine Go.iload_n dX8_dryFor_11 rfl ?_
      refine Go.at 12 rfl ?_
      refine Go.callVx 7 [vI (nI c)] [] dX8_dryFor_12 lkX8_150 (Or.inl ⟨_, _, _, rfl, rfl, rfl⟩) rfl (Nat.le_of_ble_eq_true rfl) rfl (Nat.le_of_ble_eq_true rfl) (c_dryHours isB7 hI hX hT c hc) (fun μ1 k1 => ?_)
      have hI1 : Isl 7 μ1 s := hI.fr isB7 k1
      have hX1 : Txr μ1 s := hX.fr hT.1 k1
      refine Go.goto (tgt := 20) dX8_dryFor_15 (by decide) ?_
      refine Go.ireturn .int dX8_dryFor_20 rfl rfl ?_
      exact ⟨rfl, k1⟩
    · have hs5 : μ5 77 = s := (k5 77 (by decide)).trans hs
      show Go V (d + 5) mX9_dryFor 0 [some (vR 76), some (vI (nI c)), none] [] μ5 _
      refine Go.iload_n dX9_dryFor_0 rfl ?_
      refine Go.callSi [vI (nI c)] [] dX9_dryFor_1 lkX9_90 rfl (Nat.le_of_ble_eq_true rfl) rfl (Nat.le_of_ble_eq_true rfl) (m_isCell (nI c)) ?_
      refine Go.if_neb_t (tgt := 10) dX9_dryFor_4 (by decide) h1 ?_
      refine Go.iconst (v := nI 0) dX9_dryFor_10 rfl ?_
      refine Go.istore_n (ls' := [some (vR 76), some (vI (nI c)), some (vI (nI 0))]) dX9_dryFor_11 (by decide) rfl ?_
      exact Go.mono (m_dryFor_lp hs5 hT c hc 48 0 μ5 (by omega) (Fr.rf _ _)) (fun r m2 q => ⟨q.1, q.2.wide (by decide)⟩)
  · skip
    refine OpOK.q (x := (-1000000001)) hS ?_ (fun μ5 k5 => ?_)
    · show Go V (d + 5) mX8_dryFor 0 [some (vR 0), some (vI cell)] [] μ _
      refine Go.iload_n dX8_dryFor_0 rfl ?_
      refine Go.callSi [vI cell] [] dX8_dryFor_1 lkX8_65 rfl (Nat.le_of_ble_eq_true rfl) rfl (Nat.le_of_ble_eq_true rfl) (c_isCell cell) ?_
      refine Go.if_eqb_t (tgt := 18) dX8_dryFor_4 (by decide) h1 ?_
      refine Go.ldc dX8_dryFor_18 cnX8_76 ?_
      refine Go.ireturn .int dX8_dryFor_20 rfl rfl ?_
      exact ⟨rfl, Fr.rf _ _⟩
    · have hs5 : μ5 77 = s := (k5 77 (by decide)).trans hs
      show Go V (d + 5) mX9_dryFor 0 [some (vR 76), some (vI cell), none] [] μ5 _
      refine Go.iload_n dX9_dryFor_0 rfl ?_
      refine Go.callSi [vI cell] [] dX9_dryFor_1 lkX9_90 rfl (Nat.le_of_ble_eq_true rfl) rfl (Nat.le_of_ble_eq_true rfl) (m_isCell cell) ?_
      refine Go.if_neb_f (tgt := 10) dX9_dryFor_4 (by decide) h1 ?_
      refine Go.ldc dX9_dryFor_7 cnX9_98 ?_
      refine Go.ireturn .int dX9_dryFor_9 rfl rfl ?_
      exact ⟨rfl, Fr.rf _ _⟩
theorem op_window {V : VV} {d : Nat} {μ : Memo} (hS : Sim μ) (cell : Int32) (n : Int32) : OpOK V (d + 5) mX8_window mX9_window [vI cell, vI n] μ := by
  obtain ⟨⟨hT, hCo, hKd, hO, hH⟩, hI, hX, -, -, -, hTp, hWt⟩ := id hS
  generalize hs : μ 77 = s at hT hCo hKd hO hH hI hX
  by_cases h1 : nI 0 ≤ cell ∧ cell ≤ nI 29
  · skip
    obtain ⟨c, hc0, rfl⟩ := in_nI (by decide) h1
    have hc : c < 30 := by omega
    by_cases h2 : nI 1 ≤ n ∧ n ≤ nI 24
    · skip
      obtain ⟨n0, hn1, hn24, rfl⟩ := in_nI1 (by decide) h2
      refine OpOK.q (x := wnF s c n0 (99 + n0) 0 0) hS ?_ (fun μ5 k5 => ?_)
      · show Go V (d + 5) mX8_window 0 [some (vR 0), some (vI (nI c)), some (vI (nI n0))] [] μ _
        refine Go.iload_n dX8_window_0 rfl ?_
        refine Go.callSi [vI (nI c)] [] dX8_window_1 lkX8_65 rfl (Nat.le_of_ble_eq_true rfl) rfl (Nat.le_of_ble_eq_true rfl) (c_isCell (nI c)) ?_
        refine Go.if_eqb_f (tgt := 17) dX8_window_4 (by decide) h1 ?_
        refine Go.iload_n dX8_window_7 rfl ?_
        refine Go.iconst (v := nI 1) dX8_window_8 rfl ?_
        refine Go.bipush (v := nI 24) dX8_window_9 rfl ?_
        refine Go.at 11 rfl ?_
        refine Go.callSi [vI (nI n0), vI (nI 1), vI (nI 24)] [] dX8_window_11 lkX8_72 rfl (Nat.le_of_ble_eq_true rfl) rfl (Nat.le_of_ble_eq_true rfl) (c_within (nI n0) (nI 1) (nI 24)) ?_
        refine Go.if_neb_t (tgt := 20) dX8_window_14 (by decide) h2 ?_
        refine Go.aload_n dX8_window_20 rfl ?_
        refine Go.getR dX8_window_21 flX8_21 rfl ?_
        refine Go.iload_n dX8_window_24 rfl ?_
        refine Go.iload_n dX8_window_25 rfl ?_
        refine Go.at 26 rfl ?_
        refine Go.callVx 7 [vI (nI c), vI (nI n0)] [] dX8_window_26 lkX8_153 (Or.inl ⟨_, _, _, rfl, rfl, rfl⟩) rfl (Nat.le_of_ble_eq_true rfl) rfl (Nat.le_of_ble_eq_true rfl) (c_windowOf isB7 hI hX hT c hc n0 (by omega) (by omega)) (fun μ1 k1 => ?_)
        have hI1 : Isl 7 μ1 s := hI.fr isB7 k1
        have hX1 : Txr μ1 s := hX.fr hT.1 k1
        refine Go.ireturn .int dX8_window_29 rfl rfl ?_
        exact ⟨rfl, k1⟩
      · have hs5 : μ5 77 = s := (k5 77 (by decide)).trans hs
        show Go V (d + 5) mX9_window 0 [some (vR 76), some (vI (nI c)), some (vI (nI n0)), none, none] [] μ5 _
        refine Go.iload_n dX9_window_0 rfl ?_
        refine Go.callSi [vI (nI c)] [] dX9_window_1 lkX9_90 rfl (Nat.le_of_ble_eq_true rfl) rfl (Nat.le_of_ble_eq_true rfl) (m_isCell (nI c)) ?_
        refine Go.if_eqb_f (tgt := 19) dX9_window_4 (by decide) h1 ?_
        refine Go.iload_n dX9_window_7 rfl ?_
        refine Go.i2l dX9_window_8 ?_
        refine Go.lconst (v := (nI 1).toInt64) dX9_window_9 rfl ?_
        refine Go.at 10 rfl ?_
        refine Go.ldc2 (v := (nI 24).toInt64) dX9_window_10 clX9_159 ?_
        refine Go.callSi [vL ((nI n0).toInt64), vL ((nI 1).toInt64), vL ((nI 24).toInt64)] [] dX9_window_13 lkX9_65 rfl (Nat.le_of_ble_eq_true rfl) rfl (Nat.le_of_ble_eq_true rfl) (m_isIn (nI n0) (nI 1) (nI 24)) ?_
        refine Go.if_neb_t (tgt := 22) dX9_window_16 (by decide) h2 ?_
        refine Go.iconst (v := nI 0) dX9_window_22 rfl ?_
        refine Go.istore_n (ls' := [some (vR 76), some (vI (nI c)), some (vI (nI n0)), some (vI (nI 0)), none]) dX9_window_23 (by decide) rfl ?_
        refine Go.iconst (v := nI 0) dX9_window_24 rfl ?_
        refine Go.at 25 rfl ?_
        refine Go.istore (ls' := [some (vR 76), some (vI (nI c)), some (vI (nI n0)), some (vI (nI 0)), some (vI (nI 0))]) dX9_window_25 (by decide) rfl ?_
        exact Go.mono (m_window_lp hs5 hT c hc n0 hn1 hn24 (99 + n0) 0 0 μ5 (by omega) (by omega) (Fr.rf _ _)) (fun r m2 q => ⟨q.1, q.2.wide (by decide)⟩)
    · skip
      refine OpOK.q (x := (-1000000001)) hS ?_ (fun μ5 k5 => ?_)
      · show Go V (d + 5) mX8_window 0 [some (vR 0), some (vI (nI c)), some (vI n)] [] μ _
        refine Go.iload_n dX8_window_0 rfl ?_
        refine Go.callSi [vI (nI c)] [] dX8_window_1 lkX8_65 rfl (Nat.le_of_ble_eq_true rfl) rfl (Nat.le_of_ble_eq_true rfl) (c_isCell (nI c)) ?_
        refine Go.if_eqb_f (tgt := 17) dX8_window_4 (by decide) h1 ?_
        refine Go.iload_n dX8_window_7 rfl ?_
        refine Go.iconst (v := nI 1) dX8_window_8 rfl ?_
        refine Go.bipush (v := nI 24) dX8_window_9 rfl ?_
        refine Go.at 11 rfl ?_
        refine Go.callSi [vI n, vI (nI 1), vI (nI 24)] [] dX8_window_11 lkX8_72 rfl (Nat.le_of_ble_eq_true rfl) rfl (Nat.le_of_ble_eq_true rfl) (c_within n (nI 1) (nI 24)) ?_
        refine Go.if_neb_f (tgt := 20) dX8_window_14 (by decide) h2 ?_
        refine Go.ldc dX8_window_17 cnX8_76 ?_
        refine Go.ireturn .int dX8_window_19 rfl rfl ?_
        exact ⟨rfl, Fr.rf _ _⟩
      · have hs5 : μ5 77 = s := (k5 77 (by decide)).trans hs
        show Go V (d + 5) mX9_window 0 [some (vR 76), some (vI (nI c)), some (vI n), none, none] [] μ5 _
        refine Go.iload_n dX9_window_0 rfl ?_
        refine Go.callSi [vI (nI c)] [] dX9_window_1 lkX9_90 rfl (Nat.le_of_ble_eq_true rfl) rfl (Nat.le_of_ble_eq_true rfl) (m_isCell (nI c)) ?_
        refine Go.if_eqb_f (tgt := 19) dX9_window_4 (by decide) h1 ?_
        refine Go.iload_n dX9_window_7 rfl ?_
        refine Go.i2l dX9_window_8 ?_
        refine Go.lconst (v := (nI 1).toInt64) dX9_window_9 rfl ?_
        refine Go.at 10 rfl ?_
        refine Go.ldc2 (v := (nI 24).toInt64) dX9_window_10 clX9_159 ?_
        refine Go.callSi [vL n.toInt64, vL ((nI 1).toInt64), vL ((nI 24).toInt64)] [] dX9_window_13 lkX9_65 rfl (Nat.le_of_ble_eq_true rfl) rfl (Nat.le_of_ble_eq_true rfl) (m_isIn n (nI 1) (nI 24)) ?_
        refine Go.if_neb_f (tgt := 22) dX9_window_16 (by decide) h2 ?_
        refine Go.ldc dX9_window_19 cnX9_98 ?_
        refine Go.ireturn .int dX9_window_21 rfl rfl ?_
        exact ⟨rfl, Fr.rf _ _⟩
  · skip
    refine OpOK.q (x := (-1000000001)) hS ?_ (fun μ5 k5 => ?_)
    · show Go V (d + 5) mX8_window 0 [some (vR 0), some (vI cell), some (vI n)] [] μ _
      refine Go.iload_n dX8_window_0 rfl ?_
      refine Go.callSi [vI cell] [] dX8_window_1 lkX8_65 rfl (Nat.le_of_ble_eq_true rfl) rfl (Nat.le_of_ble_eq_true rfl) (c_isCell cell) ?_
      refine Go.if_eqb_t (tgt := 17) dX8_window_4 (by decide) h1 ?_
      refine Go.ldc dX8_window_17 cnX8_76 ?_
      refine Go.ireturn .int dX8_window_19 rfl rfl ?_
      exact ⟨rfl, Fr.rf _ _⟩
    · have hs5 : μ5 77 = s := (k5 77 (by decide)).trans hs
      show Go V (d + 5) mX9_window 0 [some (vR 76), some (vI cell), some (vI n), none, none] [] μ5 _
      refine Go.iload_n dX9_window_0 rfl ?_
      refine Go.callSi [vI cell] [] dX9_window_1 lkX9_90 rfl (Nat.le_of_ble_eq_true rfl) rfl (Nat.le_of_ble_eq_true rfl) (m_isCell cell) ?_
      refine Go.if_eqb_t (tgt := 19) dX9_window_4 (by decide) h1 ?_
      refine Go.ldc dX9_window_19 cnX9_98 ?_
      refine Go.ireturn .int dX9_window_21 rfl rfl ?_
      exact ⟨rfl, Fr.rf _ _⟩
theorem op_worst {V : VV} {d : Nat} {μ : Memo} (hS : Sim μ) (n : Int32) (w : Int32) : OpOK V (d + 6) mX8_worst mX9_worst [vI n, vI w] μ := by
  obtain ⟨⟨hT, hCo, hKd, hO, hH⟩, hI, hX, -, -, -, hTp, hWt⟩ := id hS
  generalize hs : μ 77 = s at hT hCo hKd hO hH hI hX
  by_cases h1 : nI 1 ≤ n ∧ n ≤ nI 99
  · skip
    obtain ⟨n0, hn1, hn99, rfl⟩ := in_nI1 (by decide) h1
    by_cases h2 : nI 0 ≤ w ∧ w ≤ nI 1
    · skip
      refine OpOK.q (x := if w = 0 then (wsF s n0).1 else (wsF s n0).2) hS ?_ (fun μ5 k5 => ?_)
      · show Go V (d + 6) mX8_worst 0 [some (vR 0), some (vI (nI n0)), some (vI w), none] [] μ _
        refine Go.iload_n dX8_worst_0 rfl ?_
        refine Go.iconst (v := nI 1) dX8_worst_1 rfl ?_
        refine Go.bipush (v := nI 99) dX8_worst_2 rfl ?_
        refine Go.callSi [vI (nI n0), vI (nI 1), vI (nI 99)] [] dX8_worst_4 lkX8_72 rfl (Nat.le_of_ble_eq_true rfl) rfl (Nat.le_of_ble_eq_true rfl) (c_within (nI n0) (nI 1) (nI 99)) ?_
        refine Go.if_eqb_f (tgt := 19) dX8_worst_7 (by decide) h1 ?_
        refine Go.iload_n dX8_worst_10 rfl ?_
        refine Go.at 11 rfl ?_
        refine Go.iconst (v := nI 0) dX8_worst_11 rfl ?_
        refine Go.iconst (v := nI 1) dX8_worst_12 rfl ?_
        refine Go.callSi [vI w, vI (nI 0), vI (nI 1)] [] dX8_worst_13 lkX8_72 rfl (Nat.le_of_ble_eq_true rfl) rfl (Nat.le_of_ble_eq_true rfl) (c_within w (nI 0) (nI 1)) ?_
        refine Go.if_neb_t (tgt := 22) dX8_worst_16 (by decide) h2 ?_
        refine Go.aload_n dX8_worst_22 rfl ?_
        refine Go.getR dX8_worst_23 flX8_21 rfl ?_
        refine Go.at 26 rfl ?_
        refine Go.iload_n dX8_worst_26 rfl ?_
        refine Go.callVx 7 [vI (nI n0)] [] dX8_worst_27 lkX8_147 (Or.inl ⟨_, _, _, rfl, rfl, rfl⟩) rfl (Nat.le_of_ble_eq_true rfl) rfl (Nat.le_of_ble_eq_true rfl) (c_worst isB7 hI hX hT n0 (by omega)) (fun μ1 k1 => ?_)
        have hI1 : Isl 7 μ1 s := hI.fr isB7 k1
        have hX1 : Txr μ1 s := hX.fr hT.1 k1
        refine Go.istore_n (ls' := [some (vR 0), some (vI (nI n0)), some (vI w), some (vI ((wsF s n0).1))]) dX8_worst_30 (by decide) rfl ?_
        refine Go.iload_n dX8_worst_31 rfl ?_
        refine Go.if_ne (tgt := 39) dX8_worst_32 (by decide) (fun h32 => ?_) (fun h32 => ?_)
        · -- 32 taken
          refine Go.aload_n dX8_worst_39 rfl ?_
          refine Go.getR dX8_worst_40 flX8_21 rfl ?_
          refine Go.iload_n dX8_worst_43 rfl ?_
          refine Go.callVx 7 [vI ((wsF s n0).1)] [] dX8_worst_44 lkX8_131 (Or.inl ⟨_, _, _, rfl, rfl, rfl⟩) rfl (Nat.le_of_ble_eq_true rfl) rfl (Nat.le_of_ble_eq_true rfl) ((c_size isB7 hI1 hX1 hT ((wsF s n0).1)).eq (sz_c _ _)) (fun μ2 k2 => ?_)
          have hI2 : Isl 7 μ2 s := hI1.fr isB7 k2
          have hX2 : Txr μ2 s := hX1.fr hT.1 k2
          refine Go.topE (y := (wsF s n0).2) (wsF_sz s n0 hn1) ?_
          refine Go.ireturn .int dX8_worst_47 rfl rfl ?_
          exact ⟨by simp only [h32, if_true, if_false], (k1.trans k2)⟩
        · -- 32 not
          refine Go.iload_n dX8_worst_35 rfl ?_
          refine Go.goto (tgt := 47) dX8_worst_36 (by decide) ?_
          refine Go.ireturn .int dX8_worst_47 rfl rfl ?_
          exact ⟨by simp only [h32, if_true, if_false], k1⟩
      · have hs5 : μ5 77 = s := (k5 77 (by decide)).trans hs
        show Go V (d + 6) mX9_worst 0 [some (vR 76), some (vI (nI n0)), some (vI w), none, none, none, none] [] μ5 _
        refine Go.iload_n dX9_worst_0 rfl ?_
        refine Go.i2l dX9_worst_1 ?_
        refine Go.lconst (v := (nI 1).toInt64) dX9_worst_2 rfl ?_
        refine Go.ldc2 (v := (nI 99).toInt64) dX9_worst_3 clX9_120 ?_
        refine Go.callSi [vL ((nI n0).toInt64), vL ((nI 1).toInt64), vL ((nI 99).toInt64)] [] dX9_worst_6 lkX9_65 rfl (Nat.le_of_ble_eq_true rfl) rfl (Nat.le_of_ble_eq_true rfl) (m_isIn (nI n0) (nI 1) (nI 99)) ?_
        refine Go.if_eqb_f (tgt := 22) dX9_worst_9 (by decide) h1 ?_
        refine Go.at 12 rfl ?_
        refine Go.iload_n dX9_worst_12 rfl ?_
        refine Go.i2l dX9_worst_13 ?_
        refine Go.lconst (v := (nI 0).toInt64) dX9_worst_14 rfl ?_
        refine Go.lconst (v := (nI 1).toInt64) dX9_worst_15 rfl ?_
        refine Go.callSi [vL w.toInt64, vL ((nI 0).toInt64), vL ((nI 1).toInt64)] [] dX9_worst_16 lkX9_65 rfl (Nat.le_of_ble_eq_true rfl) rfl (Nat.le_of_ble_eq_true rfl) (m_isIn w (nI 0) (nI 1)) ?_
        refine Go.if_neb_t (tgt := 25) dX9_worst_19 (by decide) h2 ?_
        refine Go.at 25 rfl ?_
        refine Go.iconst (v := nI 0) dX9_worst_25 rfl ?_
        refine Go.istore_n (ls' := [some (vR 76), some (vI (nI n0)), some (vI w), some (vI (nI 0)), none, none, none]) dX9_worst_26 (by decide) rfl ?_
        refine Go.bipush (v := nI 31) dX9_worst_27 rfl ?_
        refine Go.istore (ls' := [some (vR 76), some (vI (nI n0)), some (vI w), some (vI (nI 0)), some (vI (nI 31)), none, none]) dX9_worst_29 (by decide) rfl ?_
        refine Go.iconst (v := nI 0) dX9_worst_31 rfl ?_
        refine Go.istore (ls' := [some (vR 76), some (vI (nI n0)), some (vI w), some (vI (nI 0)), some (vI (nI 31)), some (vI (nI 0)), none]) dX9_worst_32 (by decide) rfl ?_
        refine Go.at 34 rfl ?_
        exact Go.mono (m_worst_lp hs5 hT n0 hn1 hn99 w n0 0 μ5 (by omega) (Fr.rf _ _)) (fun r m2 q => ⟨q.1, q.2.wide (by decide)⟩)
    · skip
      refine OpOK.q (x := (-1000000001)) hS ?_ (fun μ5 k5 => ?_)
      · show Go V (d + 6) mX8_worst 0 [some (vR 0), some (vI (nI n0)), some (vI w), none] [] μ _
        refine Go.iload_n dX8_worst_0 rfl ?_
        refine Go.iconst (v := nI 1) dX8_worst_1 rfl ?_
        refine Go.bipush (v := nI 99) dX8_worst_2 rfl ?_
        refine Go.callSi [vI (nI n0), vI (nI 1), vI (nI 99)] [] dX8_worst_4 lkX8_72 rfl (Nat.le_of_ble_eq_true rfl) rfl (Nat.le_of_ble_eq_true rfl) (c_within (nI n0) (nI 1) (nI 99)) ?_
        refine Go.if_eqb_f (tgt := 19) dX8_worst_7 (by decide) h1 ?_
        refine Go.iload_n dX8_worst_10 rfl ?_
        refine Go.at 11 rfl ?_
        refine Go.iconst (v := nI 0) dX8_worst_11 rfl ?_
        refine Go.iconst (v := nI 1) dX8_worst_12 rfl ?_
        refine Go.callSi [vI w, vI (nI 0), vI (nI 1)] [] dX8_worst_13 lkX8_72 rfl (Nat.le_of_ble_eq_true rfl) rfl (Nat.le_of_ble_eq_true rfl) (c_within w (nI 0) (nI 1)) ?_
        refine Go.if_neb_f (tgt := 22) dX8_worst_16 (by decide) h2 ?_
        refine Go.ldc dX8_worst_19 cnX8_76 ?_
        refine Go.ireturn .int dX8_worst_21 rfl rfl ?_
        exact ⟨rfl, Fr.rf _ _⟩
      · have hs5 : μ5 77 = s := (k5 77 (by decide)).trans hs
        show Go V (d + 6) mX9_worst 0 [some (vR 76), some (vI (nI n0)), some (vI w), none, none, none, none] [] μ5 _
        refine Go.iload_n dX9_worst_0 rfl ?_
        refine Go.i2l dX9_worst_1 ?_
        refine Go.lconst (v := (nI 1).toInt64) dX9_worst_2 rfl ?_
        refine Go.ldc2 (v := (nI 99).toInt64) dX9_worst_3 clX9_120 ?_
        refine Go.callSi [vL ((nI n0).toInt64), vL ((nI 1).toInt64), vL ((nI 99).toInt64)] [] dX9_worst_6 lkX9_65 rfl (Nat.le_of_ble_eq_true rfl) rfl (Nat.le_of_ble_eq_true rfl) (m_isIn (nI n0) (nI 1) (nI 99)) ?_
        refine Go.if_eqb_f (tgt := 22) dX9_worst_9 (by decide) h1 ?_
        refine Go.at 12 rfl ?_
        refine Go.iload_n dX9_worst_12 rfl ?_
        refine Go.i2l dX9_worst_13 ?_
        refine Go.lconst (v := (nI 0).toInt64) dX9_worst_14 rfl ?_
        refine Go.lconst (v := (nI 1).toInt64) dX9_worst_15 rfl ?_
        refine Go.callSi [vL w.toInt64, vL ((nI 0).toInt64), vL ((nI 1).toInt64)] [] dX9_worst_16 lkX9_65 rfl (Nat.le_of_ble_eq_true rfl) rfl (Nat.le_of_ble_eq_true rfl) (m_isIn w (nI 0) (nI 1)) ?_
        refine Go.if_neb_f (tgt := 25) dX9_worst_19 (by decide) h2 ?_
        refine Go.at 22 rfl ?_
        refine Go.ldc dX9_worst_22 cnX9_98 ?_
        refine Go.ireturn .int dX9_worst_24 rfl rfl ?_
        exact ⟨rfl, Fr.rf _ _⟩
  · skip
    refine OpOK.q (x := (-1000000001)) hS ?_ (fun μ5 k5 => ?_)
    · show Go V (d + 6) mX8_worst 0 [some (vR 0), some (vI n), some (vI w), none] [] μ _
      refine Go.iload_n dX8_worst_0 rfl ?_
      refine Go.iconst (v := nI 1) dX8_worst_1 rfl ?_
      refine Go.bipush (v := nI 99) dX8_worst_2 rfl ?_
      refine Go.callSi [vI n, vI (nI 1), vI (nI 99)] [] dX8_worst_4 lkX8_72 rfl (Nat.le_of_ble_eq_true rfl) rfl (Nat.le_of_ble_eq_true rfl) (c_within n (nI 1) (nI 99)) ?_
      refine Go.if_eqb_t (tgt := 19) dX8_worst_7 (by decide) h1 ?_
      refine Go.ldc dX8_worst_19 cnX8_76 ?_
      refine Go.at 21 rfl ?_
      refine Go.ireturn .int dX8_worst_21 rfl rfl ?_
      exact ⟨rfl, Fr.rf _ _⟩
    · have hs5 : μ5 77 = s := (k5 77 (by decide)).trans hs
      show Go V (d + 6) mX9_worst 0 [some (vR 76), some (vI n), some (vI w), none, none, none, none] [] μ5 _
      refine Go.iload_n dX9_worst_0 rfl ?_
      refine Go.i2l dX9_worst_1 ?_
      refine Go.lconst (v := (nI 1).toInt64) dX9_worst_2 rfl ?_
      refine Go.ldc2 (v := (nI 99).toInt64) dX9_worst_3 clX9_120 ?_
      refine Go.callSi [vL n.toInt64, vL ((nI 1).toInt64), vL ((nI 99).toInt64)] [] dX9_worst_6 lkX9_65 rfl (Nat.le_of_ble_eq_true rfl) rfl (Nat.le_of_ble_eq_true rfl) (m_isIn n (nI 1) (nI 99)) ?_
      refine Go.if_eqb_t (tgt := 22) dX9_worst_9 (by decide) h1 ?_
      refine Go.at 22 rfl ?_
      refine Go.ldc dX9_worst_22 cnX9_98 ?_
      refine Go.ireturn .int dX9_worst_24 rfl rfl ?_
      exact ⟨rfl, Fr.rf _ _⟩
theorem op_owns {V : VV} {d : Nat} {μ : Memo} (hS : Sim μ) (ow : Int32) (t : Int32) : OpOK V (d + 5) mX8_owns mX9_owns [vI ow, vI t] μ := by
  obtain ⟨⟨hT, hCo, hKd, hO, hH⟩, hI, hX, -, -, -, hTp, hWt⟩ := id hS
  generalize hs : μ 77 = s at hT hCo hKd hO hH hI hX
  by_cases h1 : nI 0 ≤ ow ∧ ow ≤ nI 7
  · skip
    obtain ⟨o, ho0, rfl⟩ := in_nI (by decide) h1
    have how : o < 8 := by omega
    by_cases h2 : nI 0 ≤ t ∧ t ≤ nI 199
    · skip
      refine OpOK.q (x := nI (owF s (nI o) t 30)) hS ?_ (fun μ5 k5 => ?_)
      · show Go V (d + 5) mX8_owns 0 [some (vR 0), some (vI (nI o)), some (vI t)] [] μ _
        refine Go.iload_n dX8_owns_0 rfl ?_
        refine Go.callSi [vI (nI o)] [] dX8_owns_1 lkX8_119 rfl (Nat.le_of_ble_eq_true rfl) rfl (Nat.le_of_ble_eq_true rfl) (c_isOwner (nI o)) ?_
        refine Go.if_eqb_f (tgt := 14) dX8_owns_4 (by decide) h1 ?_
        refine Go.iload_n dX8_owns_7 rfl ?_
        refine Go.callSi [vI t] [] dX8_owns_8 lkX8_138 rfl (Nat.le_of_ble_eq_true rfl) rfl (Nat.le_of_ble_eq_true rfl) (c_areHoursOn t) ?_
        refine Go.if_neb_t (tgt := 17) dX8_owns_11 (by decide) h2 ?_
        refine Go.at 17 rfl ?_
        refine Go.aload_n dX8_owns_17 rfl ?_
        refine Go.getR dX8_owns_18 flX8_21 rfl ?_
        refine Go.iload_n dX8_owns_21 rfl ?_
        refine Go.iload_n dX8_owns_22 rfl ?_
        refine Go.callVx 7 [vI (nI o), vI t] [] dX8_owns_23 lkX8_156 (Or.inl ⟨_, _, _, rfl, rfl, rfl⟩) rfl (Nat.le_of_ble_eq_true rfl) rfl (Nat.le_of_ble_eq_true rfl) (c_ownedDry isB7 hI hX hT hO o how t) (fun μ1 k1 => ?_)
        have hI1 : Isl 7 μ1 s := hI.fr isB7 k1
        have hX1 : Txr μ1 s := hX.fr hT.1 k1
        refine Go.ireturn .int dX8_owns_26 rfl rfl ?_
        exact ⟨rfl, k1⟩
      · have hs5 : μ5 77 = s := (k5 77 (by decide)).trans hs
        show Go V (d + 5) mX9_owns 0 [some (vR 76), some (vI (nI o)), some (vI t)] [] μ5 _
        refine Go.iload_n dX9_owns_0 rfl ?_
        refine Go.i2l dX9_owns_1 ?_
        refine Go.lconst (v := (nI 0).toInt64) dX9_owns_2 rfl ?_
        refine Go.ldc2 (v := (nI 7).toInt64) dX9_owns_3 clX9_122 ?_
        refine Go.callSi [vL ((nI o).toInt64), vL ((nI 0).toInt64), vL ((nI 7).toInt64)] [] dX9_owns_6 lkX9_65 rfl (Nat.le_of_ble_eq_true rfl) rfl (Nat.le_of_ble_eq_true rfl) (m_isIn (nI o) (nI 0) (nI 7)) ?_
        refine Go.if_eqb_f (tgt := 28) dX9_owns_9 (by decide) h1 ?_
        refine Go.at 12 rfl ?_
        refine Go.iload_n dX9_owns_12 rfl ?_
        refine Go.callSi [vI t] [] dX9_owns_13 lkX9_148 rfl (Nat.le_of_ble_eq_true rfl) rfl (Nat.le_of_ble_eq_true rfl) (m_isAhead t) ?_
        refine Go.if_eqb_f (tgt := 28) dX9_owns_16 (by decide) h2 ?_
        refine Go.aload_n dX9_owns_19 rfl ?_
        refine Go.iload_n dX9_owns_20 rfl ?_
        refine Go.iload_n dX9_owns_21 rfl ?_
        refine Go.at 22 rfl ?_
        refine Go.callVx 76 [vI (nI o), vI t] [] dX9_owns_22 lkX9_161 (Or.inl ⟨_, _, _, rfl, rfl, rfl⟩) rfl (Nat.le_of_ble_eq_true rfl) rfl (Nat.le_of_ble_eq_true rfl) (m_ownsAt hs5 hT (nI o) t) (fun μ1 k1 => ?_)
        have hs1 : μ1 77 = s := (k1 77 (by decide)).trans hs5
        refine Go.goto (tgt := 30) dX9_owns_25 (by decide) ?_
        refine Go.ireturn .int dX9_owns_30 rfl rfl ?_
        exact ⟨rfl, k1.wide (by decide)⟩
    · skip
      refine OpOK.q (x := (-1000000001)) hS ?_ (fun μ5 k5 => ?_)
      · show Go V (d + 5) mX8_owns 0 [some (vR 0), some (vI (nI o)), some (vI t)] [] μ _
        refine Go.iload_n dX8_owns_0 rfl ?_
        refine Go.callSi [vI (nI o)] [] dX8_owns_1 lkX8_119 rfl (Nat.le_of_ble_eq_true rfl) rfl (Nat.le_of_ble_eq_true rfl) (c_isOwner (nI o)) ?_
        refine Go.if_eqb_f (tgt := 14) dX8_owns_4 (by decide) h1 ?_
        refine Go.iload_n dX8_owns_7 rfl ?_
        refine Go.callSi [vI t] [] dX8_owns_8 lkX8_138 rfl (Nat.le_of_ble_eq_true rfl) rfl (Nat.le_of_ble_eq_true rfl) (c_areHoursOn t) ?_
        refine Go.if_neb_f (tgt := 17) dX8_owns_11 (by decide) h2 ?_
        refine Go.at 14 rfl ?_
        refine Go.ldc dX8_owns_14 cnX8_76 ?_
        refine Go.ireturn .int dX8_owns_16 rfl rfl ?_
        exact ⟨rfl, Fr.rf _ _⟩
      · have hs5 : μ5 77 = s := (k5 77 (by decide)).trans hs
        show Go V (d + 5) mX9_owns 0 [some (vR 76), some (vI (nI o)), some (vI t)] [] μ5 _
        refine Go.iload_n dX9_owns_0 rfl ?_
        refine Go.i2l dX9_owns_1 ?_
        refine Go.lconst (v := (nI 0).toInt64) dX9_owns_2 rfl ?_
        refine Go.ldc2 (v := (nI 7).toInt64) dX9_owns_3 clX9_122 ?_
        refine Go.callSi [vL ((nI o).toInt64), vL ((nI 0).toInt64), vL ((nI 7).toInt64)] [] dX9_owns_6 lkX9_65 rfl (Nat.le_of_ble_eq_true rfl) rfl (Nat.le_of_ble_eq_true rfl) (m_isIn (nI o) (nI 0) (nI 7)) ?_
        refine Go.if_eqb_f (tgt := 28) dX9_owns_9 (by decide) h1 ?_
        refine Go.at 12 rfl ?_
        refine Go.iload_n dX9_owns_12 rfl ?_
        refine Go.callSi [vI t] [] dX9_owns_13 lkX9_148 rfl (Nat.le_of_ble_eq_true rfl) rfl (Nat.le_of_ble_eq_true rfl) (m_isAhead t) ?_
        refine Go.if_eqb_t (tgt := 28) dX9_owns_16 (by decide) h2 ?_
        refine Go.ldc dX9_owns_28 cnX9_98 ?_
        refine Go.ireturn .int dX9_owns_30 rfl rfl ?_
        exact ⟨rfl, Fr.rf _ _⟩
  · skip
    refine OpOK.q (x := (-1000000001)) hS ?_ (fun μ5 k5 => ?_)
    · show Go V (d + 5) mX8_owns 0 [some (vR 0), some (vI ow), some (vI t)] [] μ _
      refine Go.iload_n dX8_owns_0 rfl ?_
      refine Go.callSi [vI ow] [] dX8_owns_1 lkX8_119 rfl (Nat.le_of_ble_eq_true rfl) rfl (Nat.le_of_ble_eq_true rfl) (c_isOwner ow) ?_
      refine Go.if_eqb_t (tgt := 14) dX8_owns_4 (by decide) h1 ?_
      refine Go.ldc dX8_owns_14 cnX8_76 ?_
      refine Go.ireturn .int dX8_owns_16 rfl rfl ?_
      exact ⟨rfl, Fr.rf _ _⟩
    · have hs5 : μ5 77 = s := (k5 77 (by decide)).trans hs
      show Go V (d + 5) mX9_owns 0 [some (vR 76), some (vI ow), some (vI t)] [] μ5 _
      refine Go.iload_n dX9_owns_0 rfl ?_
      refine Go.i2l dX9_owns_1 ?_
      refine Go.lconst (v := (nI 0).toInt64) dX9_owns_2 rfl ?_
      refine Go.ldc2 (v := (nI 7).toInt64) dX9_owns_3 clX9_122 ?_
      refine Go.callSi [vL ow.toInt64, vL ((nI 0).toInt64), vL ((nI 7).toInt64)] [] dX9_owns_6 lkX9_65 rfl (Nat.le_of_ble_eq_true rfl) rfl (Nat.le_of_ble_eq_true rfl) (m_isIn ow (nI 0) (nI 7)) ?_
      refine Go.if_eqb_t (tgt := 28) dX9_owns_9 (by decide) h1 ?_
      refine Go.at 28 rfl ?_
      refine Go.ldc dX9_owns_28 cnX9_98 ?_
      refine Go.ireturn .int dX9_owns_30 rfl rfl ?_
      exact ⟨rfl, Fr.rf _ _⟩
theorem op_richest {V : VV} {d : Nat} {μ : Memo} (hS : Sim μ) (w : Int32) : OpOK V (d + 6) mX8_richest mX9_richest [vI w] μ := by
  obtain ⟨⟨hT, hCo, hKd, hO, hH⟩, hI, hX, -, -, -, hTp, hWt⟩ := id hS
  generalize hs : μ 77 = s at hT hCo hKd hO hH hI hX
  by_cases h1 : nI 0 ≤ w ∧ w ≤ nI 1
  · skip
    have hrc := rcF_le s 7
    refine OpOK.q (x := if w = 0 then nI (rcF s 7) else nI (odF s (nI (rcF s 7)) 24)) hS ?_ (fun μ5 k5 => ?_)
    · show Go V (d + 6) mX8_richest 0 [some (vR 0), some (vI w), none] [] μ _
      refine Go.iload_n dX8_richest_0 rfl ?_
      refine Go.iconst (v := nI 0) dX8_richest_1 rfl ?_
      refine Go.iconst (v := nI 1) dX8_richest_2 rfl ?_
      refine Go.callSi [vI w, vI (nI 0), vI (nI 1)] [] dX8_richest_3 lkX8_72 rfl (Nat.le_of_ble_eq_true rfl) rfl (Nat.le_of_ble_eq_true rfl) (c_within w (nI 0) (nI 1)) ?_
      refine Go.if_neb_t (tgt := 12) dX8_richest_6 (by decide) h1 ?_
      refine Go.aload_n dX8_richest_12 rfl ?_
      refine Go.at 13 rfl ?_
      refine Go.getR dX8_richest_13 flX8_21 rfl ?_
      refine Go.callVx 7 [] [] dX8_richest_16 lkX8_159 (Or.inl ⟨_, _, _, rfl, rfl, rfl⟩) rfl (Nat.le_of_ble_eq_true rfl) rfl (Nat.le_of_ble_eq_true rfl) (c_richest isB7 hI hX hT hO) (fun μ1 k1 => ?_)
      have hI1 : Isl 7 μ1 s := hI.fr isB7 k1
      have hX1 : Txr μ1 s := hX.fr hT.1 k1
      refine Go.istore_n (ls' := [some (vR 0), some (vI w), some (vI (nI (rcF s 7)))]) dX8_richest_19 (by decide) rfl ?_
      refine Go.iload_n dX8_richest_20 rfl ?_
      refine Go.if_ne (tgt := 28) dX8_richest_21 (by decide) (fun h21 => ?_) (fun h21 => ?_)
      · -- 21 taken
        refine Go.aload_n dX8_richest_28 rfl ?_
        refine Go.getR dX8_richest_29 flX8_21 rfl ?_
        refine Go.iload_n dX8_richest_32 rfl ?_
        refine Go.callVx 7 [vI (nI (rcF s 7))] [] dX8_richest_33 lkX8_163 (Or.inl ⟨_, _, _, rfl, rfl, rfl⟩) rfl (Nat.le_of_ble_eq_true rfl) rfl (Nat.le_of_ble_eq_true rfl) (c_ownedInDay isB7 hI1 hX1 hT hO (rcF s 7) (by omega)) (fun μ2 k2 => ?_)
        have hI2 : Isl 7 μ2 s := hI1.fr isB7 k2
        have hX2 : Txr μ2 s := hX1.fr hT.1 k2
        refine Go.ireturn .int dX8_richest_36 rfl rfl ?_
        exact ⟨by simp only [h21, if_true, if_false], (k1.trans k2)⟩
      · -- 21 not
        refine Go.iload_n dX8_richest_24 rfl ?_
        refine Go.goto (tgt := 36) dX8_richest_25 (by decide) ?_
        refine Go.ireturn .int dX8_richest_36 rfl rfl ?_
        exact ⟨by simp only [h21, if_true, if_false], k1⟩
    · have hs5 : μ5 77 = s := (k5 77 (by decide)).trans hs
      show Go V (d + 6) mX9_richest 0 [some (vR 76), some (vI w), none, none, none] [] μ5 _
      refine Go.iload_n dX9_richest_0 rfl ?_
      refine Go.i2l dX9_richest_1 ?_
      refine Go.lconst (v := (nI 0).toInt64) dX9_richest_2 rfl ?_
      refine Go.lconst (v := (nI 1).toInt64) dX9_richest_3 rfl ?_
      refine Go.callSi [vL w.toInt64, vL ((nI 0).toInt64), vL ((nI 1).toInt64)] [] dX9_richest_4 lkX9_65 rfl (Nat.le_of_ble_eq_true rfl) rfl (Nat.le_of_ble_eq_true rfl) (m_isIn w (nI 0) (nI 1)) ?_
      refine Go.if_neb_t (tgt := 13) dX9_richest_7 (by decide) h1 ?_
      refine Go.at 13 rfl ?_
      refine Go.iconst (v := nI 0) dX9_richest_13 rfl ?_
      refine Go.istore_n (ls' := [some (vR 76), some (vI w), some (vI (nI 0)), none, none]) dX9_richest_14 (by decide) rfl ?_
      refine m_rich_A (μ0 := μ5) (fun μ6 k6 z6 => ?_) 8 0 μ5 (by omega) (Fr.rf _ _) (fun i hi => absurd hi (by omega))
      refine Go.iconst (v := nI 0) dX9_richest_34 rfl ?_
      refine Go.istore_n (ls' := [some (vR 76), some (vI w), some (vI (nI 0)), none, none]) dX9_richest_35 (by decide) rfl ?_
      refine m_rich_C (hs0 := hs5) hT hO w (fun μ7 k7 z7 => ?_) 24 0 μ6 (by omega) k6 z6
      refine Go.iconst (v := nI 0) dX9_richest_101 rfl ?_
      refine Go.istore_n (ls' := [some (vR 76), some (vI w), some (vI (nI 0)), none, none]) dX9_richest_102 (by decide) rfl ?_
      refine Go.iconst (v := nI 1) dX9_richest_103 rfl ?_
      refine Go.istore_n (ls' := [some (vR 76), some (vI w), some (vI (nI 0)), some (vI (nI 1)), none]) dX9_richest_104 (by decide) rfl ?_
      exact m_rich_D w k7 z7 7 0 (by omega)
  · skip
    refine OpOK.q (x := (-1000000001)) hS ?_ (fun μ5 k5 => ?_)
    · show Go V (d + 6) mX8_richest 0 [some (vR 0), some (vI w), none] [] μ _
      refine Go.iload_n dX8_richest_0 rfl ?_
      refine Go.iconst (v := nI 0) dX8_richest_1 rfl ?_
      refine Go.iconst (v := nI 1) dX8_richest_2 rfl ?_
      refine Go.callSi [vI w, vI (nI 0), vI (nI 1)] [] dX8_richest_3 lkX8_72 rfl (Nat.le_of_ble_eq_true rfl) rfl (Nat.le_of_ble_eq_true rfl) (c_within w (nI 0) (nI 1)) ?_
      refine Go.if_neb_f (tgt := 12) dX8_richest_6 (by decide) h1 ?_
      refine Go.ldc dX8_richest_9 cnX8_76 ?_
      refine Go.at 11 rfl ?_
      refine Go.ireturn .int dX8_richest_11 rfl rfl ?_
      exact ⟨rfl, Fr.rf _ _⟩
    · have hs5 : μ5 77 = s := (k5 77 (by decide)).trans hs
      show Go V (d + 6) mX9_richest 0 [some (vR 76), some (vI w), none, none, none] [] μ5 _
      refine Go.iload_n dX9_richest_0 rfl ?_
      refine Go.i2l dX9_richest_1 ?_
      refine Go.lconst (v := (nI 0).toInt64) dX9_richest_2 rfl ?_
      refine Go.lconst (v := (nI 1).toInt64) dX9_richest_3 rfl ?_
      refine Go.callSi [vL w.toInt64, vL ((nI 0).toInt64), vL ((nI 1).toInt64)] [] dX9_richest_4 lkX9_65 rfl (Nat.le_of_ble_eq_true rfl) rfl (Nat.le_of_ble_eq_true rfl) (m_isIn w (nI 0) (nI 1)) ?_
      refine Go.if_neb_f (tgt := 13) dX9_richest_7 (by decide) h1 ?_
      refine Go.at 10 rfl ?_
      refine Go.ldc dX9_richest_10 cnX9_98 ?_
      refine Go.ireturn .int dX9_richest_12 rfl rfl ?_
      exact ⟨rfl, Fr.rf _ _⟩
theorem op_told {V : VV} {d : Nat} {μ : Memo} (hS : Sim μ) (cell : Int32) (w : Int32) : OpOK V (d + 5) mX8_told mX9_told [vI cell, vI w] μ := by
  obtain ⟨⟨hT, hCo, hKd, hO, hH⟩, hI, hX, -, -, -, hTp, hWt⟩ := id hS
  generalize hs : μ 77 = s at hT hCo hKd hO hH hI hX
  by_cases h1 : nI 0 ≤ cell ∧ cell ≤ nI 29
  · skip
    obtain ⟨c, hc0, rfl⟩ := in_nI (by decide) h1
    have hc : c < 30 := by omega
    by_cases hw0 : w = nI 0
    · skip
      subst hw0
      refine OpOK.q (x := s (11 + 4 * c)) hS ?_ (fun μ5 k5 => ?_)
      · show Go V (d + 5) mX8_told 0 [some (vR 0), some (vI (nI c)), some (vI (nI 0))] [] μ _
        refine Go.iload_n dX8_told_0 rfl ?_
        refine Go.callSi [vI (nI c)] [] dX8_told_1 lkX8_65 rfl (Nat.le_of_ble_eq_true rfl) rfl (Nat.le_of_ble_eq_true rfl) (c_isCell (nI c)) ?_
        refine Go.if_neb_t (tgt := 10) dX8_told_4 (by decide) h1 ?_
        refine Go.iload_n dX8_told_10 rfl ?_
        refine Go.tsw (tgt := 56) (nI 0) rfl dX8_told_11 (by decide) (by decide) rfl (by decide) ?_
        refine Go.aload_n dX8_told_56 rfl ?_
        refine Go.getR dX8_told_57 flX8_21 rfl ?_
        refine Go.getR dX8_told_60 flX8_84 rfl ?_
        refine Go.iload_n dX8_told_63 rfl ?_
        refine Go.iaload c dX8_told_64 rfl (by omega) rfl ?_
        refine Go.topE (s (11 + 4 * c)) ((hI.1 c hc).1) ?_
        refine Go.ireturn .int dX8_told_65 rfl rfl ?_
        exact ⟨rfl, Fr.rf _ _⟩
      · have hs5 : μ5 77 = s := (k5 77 (by decide)).trans hs
        show Go V (d + 5) mX9_told 0 [some (vR 76), some (vI (nI c)), some (vI (nI 0))] [] μ5 _
        refine Go.iload_n dX9_told_0 rfl ?_
        refine Go.callSi [vI (nI c)] [] dX9_told_1 lkX9_90 rfl (Nat.le_of_ble_eq_true rfl) rfl (Nat.le_of_ble_eq_true rfl) (m_isCell (nI c)) ?_
        refine Go.if_neb_t (tgt := 10) dX9_told_4 (by decide) h1 ?_
        refine Go.iload_n dX9_told_10 rfl ?_
        refine Go.tsw (tgt := 56) (nI 0) rfl dX9_told_11 (by decide) (by decide) rfl (by decide) ?_
        refine Go.aload_n dX9_told_56 rfl ?_
        refine Go.iload_n dX9_told_57 rfl ?_
        refine Go.iload_n dX9_told_58 rfl ?_
        refine Go.callVi 76 [vI (nI c), vI (nI 0)] [] dX9_told_59 lkX9_70 (Or.inl ⟨_, _, _, rfl, rfl, rfl⟩) rfl (Nat.le_of_ble_eq_true rfl) rfl (Nat.le_of_ble_eq_true rfl) (m_of0 hs5 c hc) ?_
        refine Go.ireturn .int dX9_told_62 rfl rfl ?_
        exact ⟨rfl, Fr.rf _ _⟩
    · skip
      by_cases hw1 : w = nI 1
      · skip
        subst hw1
        refine OpOK.q (x := s (11 + 4 * c + 1)) hS ?_ (fun μ5 k5 => ?_)
        · show Go V (d + 5) mX8_told 0 [some (vR 0), some (vI (nI c)), some (vI (nI 1))] [] μ _
          refine Go.iload_n dX8_told_0 rfl ?_
          refine Go.callSi [vI (nI c)] [] dX8_told_1 lkX8_65 rfl (Nat.le_of_ble_eq_true rfl) rfl (Nat.le_of_ble_eq_true rfl) (c_isCell (nI c)) ?_
          refine Go.if_neb_t (tgt := 10) dX8_told_4 (by decide) h1 ?_
          refine Go.iload_n dX8_told_10 rfl ?_
          refine Go.tsw (tgt := 66) (nI 1) rfl dX8_told_11 (by decide) (by decide) rfl (by decide) ?_
          refine Go.aload_n dX8_told_66 rfl ?_
          refine Go.getR dX8_told_67 flX8_21 rfl ?_
          refine Go.getR dX8_told_70 flX8_77 rfl ?_
          refine Go.iload_n dX8_told_73 rfl ?_
          refine Go.iaload c dX8_told_74 rfl (by omega) rfl ?_
          refine Go.topE (s (11 + 4 * c + 1)) ((hI.1 c hc).2.1) ?_
          refine Go.ireturn .int dX8_told_75 rfl rfl ?_
          exact ⟨rfl, Fr.rf _ _⟩
        · have hs5 : μ5 77 = s := (k5 77 (by decide)).trans hs
          show Go V (d + 5) mX9_told 0 [some (vR 76), some (vI (nI c)), some (vI (nI 1))] [] μ5 _
          refine Go.iload_n dX9_told_0 rfl ?_
          refine Go.callSi [vI (nI c)] [] dX9_told_1 lkX9_90 rfl (Nat.le_of_ble_eq_true rfl) rfl (Nat.le_of_ble_eq_true rfl) (m_isCell (nI c)) ?_
          refine Go.if_neb_t (tgt := 10) dX9_told_4 (by decide) h1 ?_
          refine Go.iload_n dX9_told_10 rfl ?_
          refine Go.tsw (tgt := 56) (nI 1) rfl dX9_told_11 (by decide) (by decide) rfl (by decide) ?_
          refine Go.aload_n dX9_told_56 rfl ?_
          refine Go.iload_n dX9_told_57 rfl ?_
          refine Go.iload_n dX9_told_58 rfl ?_
          refine Go.callVi 76 [vI (nI c), vI (nI 1)] [] dX9_told_59 lkX9_70 (Or.inl ⟨_, _, _, rfl, rfl, rfl⟩) rfl (Nat.le_of_ble_eq_true rfl) rfl (Nat.le_of_ble_eq_true rfl) (m_of hs5 c 1 hc (by decide)) ?_
          refine Go.ireturn .int dX9_told_62 rfl rfl ?_
          exact ⟨rfl, Fr.rf _ _⟩
      · skip
        by_cases hw2 : w = nI 2
        · skip
          subst hw2
          refine OpOK.q (x := tpF s c) hS ?_ (fun μ5 k5 => ?_)
          · show Go V (d + 5) mX8_told 0 [some (vR 0), some (vI (nI c)), some (vI (nI 2))] [] μ _
            refine Go.iload_n dX8_told_0 rfl ?_
            refine Go.callSi [vI (nI c)] [] dX8_told_1 lkX8_65 rfl (Nat.le_of_ble_eq_true rfl) rfl (Nat.le_of_ble_eq_true rfl) (c_isCell (nI c)) ?_
            refine Go.if_neb_t (tgt := 10) dX8_told_4 (by decide) h1 ?_
            refine Go.iload_n dX8_told_10 rfl ?_
            refine Go.tsw (tgt := 76) (nI 2) rfl dX8_told_11 (by decide) (by decide) rfl (by decide) ?_
            refine Go.aload_n dX8_told_76 rfl ?_
            refine Go.getR dX8_told_77 flX8_21 rfl ?_
            refine Go.iload_n dX8_told_80 rfl ?_
            refine Go.callVi 7 [vI (nI c)] [] dX8_told_81 lkX8_87 (Or.inl ⟨_, _, _, rfl, rfl, rfl⟩) rfl (Nat.le_of_ble_eq_true rfl) rfl (Nat.le_of_ble_eq_true rfl) (c_top isB7 hI c hc) ?_
            refine Go.ireturn .int dX8_told_84 rfl rfl ?_
            exact ⟨rfl, Fr.rf _ _⟩
          · have hs5 : μ5 77 = s := (k5 77 (by decide)).trans hs
            show Go V (d + 5) mX9_told 0 [some (vR 76), some (vI (nI c)), some (vI (nI 2))] [] μ5 _
            refine Go.iload_n dX9_told_0 rfl ?_
            refine Go.callSi [vI (nI c)] [] dX9_told_1 lkX9_90 rfl (Nat.le_of_ble_eq_true rfl) rfl (Nat.le_of_ble_eq_true rfl) (m_isCell (nI c)) ?_
            refine Go.if_neb_t (tgt := 10) dX9_told_4 (by decide) h1 ?_
            refine Go.iload_n dX9_told_10 rfl ?_
            refine Go.tsw (tgt := 63) (nI 2) rfl dX9_told_11 (by decide) (by decide) rfl (by decide) ?_
            refine Go.aload_n dX9_told_63 rfl ?_
            refine Go.iload_n dX9_told_64 rfl ?_
            refine Go.callVi 76 [vI (nI c)] [] dX9_told_65 lkX9_78 (Or.inl ⟨_, _, _, rfl, rfl, rfl⟩) rfl (Nat.le_of_ble_eq_true rfl) rfl (Nat.le_of_ble_eq_true rfl) (m_top hs5 c hc) ?_
            refine Go.ireturn .int dX9_told_68 rfl rfl ?_
            exact ⟨rfl, Fr.rf _ _⟩
        · skip
          by_cases hw3 : w = nI 3
          · skip
            subst hw3
            refine OpOK.q (x := roomF s c) hS ?_ (fun μ5 k5 => ?_)
            · show Go V (d + 5) mX8_told 0 [some (vR 0), some (vI (nI c)), some (vI (nI 3))] [] μ _
              refine Go.iload_n dX8_told_0 rfl ?_
              refine Go.callSi [vI (nI c)] [] dX8_told_1 lkX8_65 rfl (Nat.le_of_ble_eq_true rfl) rfl (Nat.le_of_ble_eq_true rfl) (c_isCell (nI c)) ?_
              refine Go.if_neb_t (tgt := 10) dX8_told_4 (by decide) h1 ?_
              refine Go.iload_n dX8_told_10 rfl ?_
              refine Go.tsw (tgt := 85) (nI 3) rfl dX8_told_11 (by decide) (by decide) rfl (by decide) ?_
              refine Go.aload_n dX8_told_85 rfl ?_
              refine Go.getR dX8_told_86 flX8_21 rfl ?_
              refine Go.iload_n dX8_told_89 rfl ?_
              refine Go.callVx 7 [vI (nI c)] [] dX8_told_90 lkX8_91 (Or.inl ⟨_, _, _, rfl, rfl, rfl⟩) rfl (Nat.le_of_ble_eq_true rfl) rfl (Nat.le_of_ble_eq_true rfl) (c_room isB7 hI hX hT c hc) (fun μ1 k1 => ?_)
              have hI1 : Isl 7 μ1 s := hI.fr isB7 k1
              have hX1 : Txr μ1 s := hX.fr hT.1 k1
              refine Go.ireturn .int dX8_told_93 rfl rfl ?_
              exact ⟨rfl, k1⟩
            · have hs5 : μ5 77 = s := (k5 77 (by decide)).trans hs
              show Go V (d + 5) mX9_told 0 [some (vR 76), some (vI (nI c)), some (vI (nI 3))] [] μ5 _
              refine Go.iload_n dX9_told_0 rfl ?_
              refine Go.callSi [vI (nI c)] [] dX9_told_1 lkX9_90 rfl (Nat.le_of_ble_eq_true rfl) rfl (Nat.le_of_ble_eq_true rfl) (m_isCell (nI c)) ?_
              refine Go.if_neb_t (tgt := 10) dX9_told_4 (by decide) h1 ?_
              refine Go.iload_n dX9_told_10 rfl ?_
              refine Go.tsw (tgt := 69) (nI 3) rfl dX9_told_11 (by decide) (by decide) rfl (by decide) ?_
              refine Go.aload_n dX9_told_69 rfl ?_
              refine Go.iload_n dX9_told_70 rfl ?_
              refine Go.callVx 76 [vI (nI c)] [] dX9_told_71 lkX9_106 (Or.inl ⟨_, _, _, rfl, rfl, rfl⟩) rfl (Nat.le_of_ble_eq_true rfl) rfl (Nat.le_of_ble_eq_true rfl) (m_room hs5 hT hCo c hc) (fun μ1 k1 => ?_)
              have hs1 : μ1 77 = s := (k1 77 (by decide)).trans hs5
              refine Go.ireturn .int dX9_told_74 rfl rfl ?_
              exact ⟨rfl, k1.wide (by decide)⟩
          · skip
            by_cases hw4 : w = nI 4
            · skip
              subst hw4
              refine OpOK.q (x := worthF (s (11 + 4 * c)) (s (11 + 4 * c + 1))) hS ?_ (fun μ5 k5 => ?_)
              · show Go V (d + 5) mX8_told 0 [some (vR 0), some (vI (nI c)), some (vI (nI 4))] [] μ _
                refine Go.iload_n dX8_told_0 rfl ?_
                refine Go.callSi [vI (nI c)] [] dX8_told_1 lkX8_65 rfl (Nat.le_of_ble_eq_true rfl) rfl (Nat.le_of_ble_eq_true rfl) (c_isCell (nI c)) ?_
                refine Go.if_neb_t (tgt := 10) dX8_told_4 (by decide) h1 ?_
                refine Go.iload_n dX8_told_10 rfl ?_
                refine Go.tsw (tgt := 94) (nI 4) rfl dX8_told_11 (by decide) (by decide) rfl (by decide) ?_
                refine Go.aload_n dX8_told_94 rfl ?_
                refine Go.getR dX8_told_95 flX8_21 rfl ?_
                refine Go.getR dX8_told_98 flX8_84 rfl ?_
                refine Go.iload_n dX8_told_101 rfl ?_
                refine Go.iaload c dX8_told_102 rfl (by omega) rfl ?_
                refine Go.topE (s (11 + 4 * c)) ((hI.1 c hc).1) ?_
                refine Go.aload_n dX8_told_103 rfl ?_
                refine Go.at 104 rfl ?_
                refine Go.getR dX8_told_104 flX8_21 rfl ?_
                refine Go.getR dX8_told_107 flX8_77 rfl ?_
                refine Go.iload_n dX8_told_110 rfl ?_
                refine Go.iaload c dX8_told_111 rfl (by omega) rfl ?_
                refine Go.topE (s (11 + 4 * c + 1)) ((hI.1 c hc).2.1) ?_
                refine Go.callSi [vI (s (11 + 4 * c)), vI (s (11 + 4 * c + 1))] [] dX8_told_112 lkX8_94 rfl (Nat.le_of_ble_eq_true rfl) rfl (Nat.le_of_ble_eq_true rfl) (c_worthOf (s (11 + 4 * c)) (s (11 + 4 * c + 1))) ?_
                refine Go.ireturn .int dX8_told_115 rfl rfl ?_
                exact ⟨rfl, Fr.rf _ _⟩
              · have hs5 : μ5 77 = s := (k5 77 (by decide)).trans hs
                show Go V (d + 5) mX9_told 0 [some (vR 76), some (vI (nI c)), some (vI (nI 4))] [] μ5 _
                refine Go.iload_n dX9_told_0 rfl ?_
                refine Go.callSi [vI (nI c)] [] dX9_told_1 lkX9_90 rfl (Nat.le_of_ble_eq_true rfl) rfl (Nat.le_of_ble_eq_true rfl) (m_isCell (nI c)) ?_
                refine Go.if_neb_t (tgt := 10) dX9_told_4 (by decide) h1 ?_
                refine Go.iload_n dX9_told_10 rfl ?_
                refine Go.tsw (tgt := 75) (nI 4) rfl dX9_told_11 (by decide) (by decide) rfl (by decide) ?_
                refine Go.aload_n dX9_told_75 rfl ?_
                refine Go.iload_n dX9_told_76 rfl ?_
                refine Go.callVi 76 [vI (nI c)] [] dX9_told_77 lkX9_109 (Or.inl ⟨_, _, _, rfl, rfl, rfl⟩) rfl (Nat.le_of_ble_eq_true rfl) rfl (Nat.le_of_ble_eq_true rfl) (m_worth hs5 c hc) ?_
                refine Go.ireturn .int dX9_told_80 rfl rfl ?_
                exact ⟨rfl, Fr.rf _ _⟩
            · skip
              by_cases hw5 : w = nI 5
              · skip
                subst hw5
                refine OpOK.q (x := s (11 + 4 * c + 2)) hS ?_ (fun μ5 k5 => ?_)
                · show Go V (d + 5) mX8_told 0 [some (vR 0), some (vI (nI c)), some (vI (nI 5))] [] μ _
                  refine Go.iload_n dX8_told_0 rfl ?_
                  refine Go.callSi [vI (nI c)] [] dX8_told_1 lkX8_65 rfl (Nat.le_of_ble_eq_true rfl) rfl (Nat.le_of_ble_eq_true rfl) (c_isCell (nI c)) ?_
                  refine Go.if_neb_t (tgt := 10) dX8_told_4 (by decide) h1 ?_
                  refine Go.iload_n dX8_told_10 rfl ?_
                  refine Go.tsw (tgt := 116) (nI 5) rfl dX8_told_11 (by decide) (by decide) rfl (by decide) ?_
                  refine Go.aload_n dX8_told_116 rfl ?_
                  refine Go.getR dX8_told_117 flX8_21 rfl ?_
                  refine Go.getR dX8_told_120 flX8_99 rfl ?_
                  refine Go.iload_n dX8_told_123 rfl ?_
                  refine Go.iaload c dX8_told_124 rfl (by omega) rfl ?_
                  refine Go.topE (s (11 + 4 * c + 2)) ((hI.1 c hc).2.2.1) ?_
                  refine Go.ireturn .int dX8_told_125 rfl rfl ?_
                  exact ⟨rfl, Fr.rf _ _⟩
                · have hs5 : μ5 77 = s := (k5 77 (by decide)).trans hs
                  show Go V (d + 5) mX9_told 0 [some (vR 76), some (vI (nI c)), some (vI (nI 5))] [] μ5 _
                  refine Go.iload_n dX9_told_0 rfl ?_
                  refine Go.callSi [vI (nI c)] [] dX9_told_1 lkX9_90 rfl (Nat.le_of_ble_eq_true rfl) rfl (Nat.le_of_ble_eq_true rfl) (m_isCell (nI c)) ?_
                  refine Go.if_neb_t (tgt := 10) dX9_told_4 (by decide) h1 ?_
                  refine Go.iload_n dX9_told_10 rfl ?_
                  refine Go.tsw (tgt := 81) (nI 5) rfl dX9_told_11 (by decide) (by decide) rfl (by decide) ?_
                  refine Go.aload_n dX9_told_81 rfl ?_
                  refine Go.iload_n dX9_told_82 rfl ?_
                  refine Go.iconst (v := nI 2) dX9_told_83 rfl ?_
                  refine Go.callVi 76 [vI (nI c), vI (nI 2)] [] dX9_told_84 lkX9_70 (Or.inl ⟨_, _, _, rfl, rfl, rfl⟩) rfl (Nat.le_of_ble_eq_true rfl) rfl (Nat.le_of_ble_eq_true rfl) (m_of hs5 c 2 hc (by decide)) ?_
                  refine Go.ireturn .int dX9_told_87 rfl rfl ?_
                  exact ⟨rfl, Fr.rf _ _⟩
              · skip
                by_cases hw6 : w = nI 6
                · skip
                  subst hw6
                  refine OpOK.q (x := oN (s (11 + 4 * c + 3))) hS ?_ (fun μ5 k5 => ?_)
                  · show Go V (d + 5) mX8_told 0 [some (vR 0), some (vI (nI c)), some (vI (nI 6))] [] μ _
                    refine Go.iload_n dX8_told_0 rfl ?_
                    refine Go.callSi [vI (nI c)] [] dX8_told_1 lkX8_65 rfl (Nat.le_of_ble_eq_true rfl) rfl (Nat.le_of_ble_eq_true rfl) (c_isCell (nI c)) ?_
                    refine Go.if_neb_t (tgt := 10) dX8_told_4 (by decide) h1 ?_
                    refine Go.iload_n dX8_told_10 rfl ?_
                    refine Go.tsw (tgt := 126) (nI 6) rfl dX8_told_11 (by decide) (by decide) rfl (by decide) ?_
                    refine Go.aload_n dX8_told_126 rfl ?_
                    refine Go.getR dX8_told_127 flX8_21 rfl ?_
                    refine Go.getR dX8_told_130 flX8_102 rfl ?_
                    refine Go.iload_n dX8_told_133 rfl ?_
                    refine Go.iaload c dX8_told_134 rfl (by omega) rfl ?_
                    refine Go.topE (oN (s (11 + 4 * c + 3))) ((hI.1 c hc).2.2.2) ?_
                    refine Go.ireturn .int dX8_told_135 rfl rfl ?_
                    exact ⟨rfl, Fr.rf _ _⟩
                  · have hs5 : μ5 77 = s := (k5 77 (by decide)).trans hs
                    show Go V (d + 5) mX9_told 0 [some (vR 76), some (vI (nI c)), some (vI (nI 6))] [] μ5 _
                    refine Go.iload_n dX9_told_0 rfl ?_
                    refine Go.callSi [vI (nI c)] [] dX9_told_1 lkX9_90 rfl (Nat.le_of_ble_eq_true rfl) rfl (Nat.le_of_ble_eq_true rfl) (m_isCell (nI c)) ?_
                    refine Go.if_neb_t (tgt := 10) dX9_told_4 (by decide) h1 ?_
                    refine Go.iload_n dX9_told_10 rfl ?_
                    refine Go.tsw (tgt := 88) (nI 6) rfl dX9_told_11 (by decide) (by decide) rfl (by decide) ?_
                    refine Go.aload_n dX9_told_88 rfl ?_
                    refine Go.iload_n dX9_told_89 rfl ?_
                    refine Go.iconst (v := nI 3) dX9_told_90 rfl ?_
                    refine Go.callVi 76 [vI (nI c), vI (nI 3)] [] dX9_told_91 lkX9_70 (Or.inl ⟨_, _, _, rfl, rfl, rfl⟩) rfl (Nat.le_of_ble_eq_true rfl) rfl (Nat.le_of_ble_eq_true rfl) (m_of hs5 c 3 hc (by decide)) ?_
                    refine Go.callSi [vI (s (11 + 4 * c + 3))] [] dX9_told_94 lkX9_112 rfl (Nat.le_of_ble_eq_true rfl) rfl (Nat.le_of_ble_eq_true rfl) (m_orNone (s (11 + 4 * c + 3))) ?_
                    refine Go.ireturn .int dX9_told_97 rfl rfl ?_
                    exact ⟨rfl, Fr.rf _ _⟩
                · skip
                  by_cases hw7 : w = nI 7
                  · skip
                    subst hw7
                    refine OpOK.q (x := bI (levelF s (nI 0) < tpF s c)) hS ?_ (fun μ5 k5 => ?_)
                    · show Go V (d + 5) mX8_told 0 [some (vR 0), some (vI (nI c)), some (vI (nI 7))] [] μ _
                      refine Go.iload_n dX8_told_0 rfl ?_
                      refine Go.callSi [vI (nI c)] [] dX8_told_1 lkX8_65 rfl (Nat.le_of_ble_eq_true rfl) rfl (Nat.le_of_ble_eq_true rfl) (c_isCell (nI c)) ?_
                      refine Go.if_neb_t (tgt := 10) dX8_told_4 (by decide) h1 ?_
                      refine Go.iload_n dX8_told_10 rfl ?_
                      refine Go.tsw (tgt := 136) (nI 7) rfl dX8_told_11 (by decide) (by decide) rfl (by decide) ?_
                      refine Go.aload_n dX8_told_136 rfl ?_
                      refine Go.getR dX8_told_137 flX8_21 rfl ?_
                      refine Go.iconst (v := nI 0) dX8_told_140 rfl ?_
                      refine Go.callVx 7 [vI (nI 0)] [] dX8_told_141 lkX8_105 (Or.inl ⟨_, _, _, rfl, rfl, rfl⟩) rfl (Nat.le_of_ble_eq_true rfl) rfl (Nat.le_of_ble_eq_true rfl) (c_dry isB7 hI hX hT (nI 0)) (fun μ1 k1 => ?_)
                      have hI1 : Isl 7 μ1 s := hI.fr isB7 k1
                      have hX1 : Txr μ1 s := hX.fr hT.1 k1
                      refine Go.iload_n dX8_told_144 rfl ?_
                      refine Go.callSi [vI (dryF s (nI 0)), vI (nI c)] [] dX8_told_145 lkX8_108 rfl (Nat.le_of_ble_eq_true rfl) rfl (Nat.le_of_ble_eq_true rfl) (c_has (dryF s (nI 0)) (nI c)) ?_
                      refine Go.at 148 rfl ?_
                      refine Go.if_eqb (tgt := 155) dX8_told_148 (by decide) (fun h148 => ?_) (fun h148 => ?_)
                      · -- 148 taken
                        refine Go.iconst (v := nI 0) dX8_told_155 rfl ?_
                        refine Go.ireturn .int dX8_told_156 rfl rfl ?_
                        exact ⟨congrArg (fun z => some (vI z)) (bI_f (by have h9 := bitU1 (c := c) (by omega) (dryF s (nI 0)); rw [dry_bt s (nI 0) hc, decide_eq_true_eq] at h9; exact fun z => h148 (h9.mpr z))).symm, k1⟩
                      · -- 148 not
                        refine Go.iconst (v := nI 1) dX8_told_151 rfl ?_
                        refine Go.goto (tgt := 156) dX8_told_152 (by decide) ?_
                        refine Go.ireturn .int dX8_told_156 rfl rfl ?_
                        exact ⟨congrArg (fun z => some (vI z)) (bI_t (by have h9 := bitU1 (c := c) (by omega) (dryF s (nI 0)); rw [dry_bt s (nI 0) hc, decide_eq_true_eq] at h9; exact h9.mp h148)).symm, k1⟩
                    · have hs5 : μ5 77 = s := (k5 77 (by decide)).trans hs
                      show Go V (d + 5) mX9_told 0 [some (vR 76), some (vI (nI c)), some (vI (nI 7))] [] μ5 _
                      refine Go.iload_n dX9_told_0 rfl ?_
                      refine Go.callSi [vI (nI c)] [] dX9_told_1 lkX9_90 rfl (Nat.le_of_ble_eq_true rfl) rfl (Nat.le_of_ble_eq_true rfl) (m_isCell (nI c)) ?_
                      refine Go.if_neb_t (tgt := 10) dX9_told_4 (by decide) h1 ?_
                      refine Go.iload_n dX9_told_10 rfl ?_
                      refine Go.tsw (tgt := 98) (nI 7) rfl dX9_told_11 (by decide) (by decide) rfl (by decide) ?_
                      refine Go.aload_n dX9_told_98 rfl ?_
                      refine Go.iload_n dX9_told_99 rfl ?_
                      refine Go.callVi 76 [vI (nI c)] [] dX9_told_100 lkX9_78 (Or.inl ⟨_, _, _, rfl, rfl, rfl⟩) rfl (Nat.le_of_ble_eq_true rfl) rfl (Nat.le_of_ble_eq_true rfl) (m_top hs5 c hc) ?_
                      refine Go.aload_n dX9_told_103 rfl ?_
                      refine Go.iconst (v := nI 0) dX9_told_104 rfl ?_
                      refine Go.callVx 76 [vI (nI 0)] [vI (tpF s c)] dX9_told_105 lkX9_87 (Or.inl ⟨_, _, _, rfl, rfl, rfl⟩) rfl (Nat.le_of_ble_eq_true rfl) rfl (Nat.le_of_ble_eq_true rfl) (m_level hs5 hT (nI 0)) (fun μ1 k1 => ?_)
                      have hs1 : μ1 77 = s := (k1 77 (by decide)).trans hs5
                      refine Go.at 108 rfl ?_
                      refine Go.icmp_le (tgt := 115) dX9_told_108 (by decide) (fun h108 => ?_) (fun h108 => ?_)
                      · -- 108 taken
                        refine Go.iconst (v := nI 0) dX9_told_115 rfl ?_
                        refine Go.ireturn .int dX9_told_116 rfl rfl ?_
                        exact ⟨congrArg (fun z => some (vI z)) (bI_f (by simp only [sI_lt, sI_le] at *; omega)).symm, k1.wide (by decide)⟩
                      · -- 108 not
                        refine Go.iconst (v := nI 1) dX9_told_111 rfl ?_
                        refine Go.goto (tgt := 116) dX9_told_112 (by decide) ?_
                        refine Go.ireturn .int dX9_told_116 rfl rfl ?_
                        exact ⟨congrArg (fun z => some (vI z)) (bI_t (by simp only [sI_lt, sI_le] at *; omega)).symm, k1.wide (by decide)⟩
                  · skip
                    refine OpOK.q (x := (-1000000001)) hS ?_ (fun μ5 k5 => ?_)
                    · show Go V (d + 5) mX8_told 0 [some (vR 0), some (vI (nI c)), some (vI w)] [] μ _
                      refine Go.iload_n dX8_told_0 rfl ?_
                      refine Go.callSi [vI (nI c)] [] dX8_told_1 lkX8_65 rfl (Nat.le_of_ble_eq_true rfl) rfl (Nat.le_of_ble_eq_true rfl) (c_isCell (nI c)) ?_
                      refine Go.if_neb_t (tgt := 10) dX8_told_4 (by decide) h1 ?_
                      refine Go.iload_n dX8_told_10 rfl ?_
                      refine Go.tswD (tgt := 157) dX8_told_11 (by have a0 := lv_neT hw0 (a := 0) rfl; have a1 := lv_neT hw1 (a := 1) rfl; have a2 := lv_neT hw2 (a := 2) rfl; have a3 := lv_neT hw3 (a := 3) rfl; have a4 := lv_neT hw4 (a := 4) rfl; have a5 := lv_neT hw5 (a := 5) rfl; have a6 := lv_neT hw6 (a := 6) rfl; have a7 := lv_neT hw7 (a := 7) rfl; omega) (by decide) ?_
                      refine Go.ldc dX8_told_157 cnX8_76 ?_
                      refine Go.ireturn .int dX8_told_159 rfl rfl ?_
                      exact ⟨rfl, Fr.rf _ _⟩
                    · have hs5 : μ5 77 = s := (k5 77 (by decide)).trans hs
                      show Go V (d + 5) mX9_told 0 [some (vR 76), some (vI (nI c)), some (vI w)] [] μ5 _
                      refine Go.iload_n dX9_told_0 rfl ?_
                      refine Go.callSi [vI (nI c)] [] dX9_told_1 lkX9_90 rfl (Nat.le_of_ble_eq_true rfl) rfl (Nat.le_of_ble_eq_true rfl) (m_isCell (nI c)) ?_
                      refine Go.if_neb_t (tgt := 10) dX9_told_4 (by decide) h1 ?_
                      refine Go.iload_n dX9_told_10 rfl ?_
                      refine Go.tswD (tgt := 117) dX9_told_11 (by have a0 := lv_neT hw0 (a := 0) rfl; have a1 := lv_neT hw1 (a := 1) rfl; have a2 := lv_neT hw2 (a := 2) rfl; have a3 := lv_neT hw3 (a := 3) rfl; have a4 := lv_neT hw4 (a := 4) rfl; have a5 := lv_neT hw5 (a := 5) rfl; have a6 := lv_neT hw6 (a := 6) rfl; have a7 := lv_neT hw7 (a := 7) rfl; omega) (by decide) ?_
                      refine Go.ldc dX9_told_117 cnX9_98 ?_
                      refine Go.ireturn .int dX9_told_119 rfl rfl ?_
                      exact ⟨rfl, Fr.rf _ _⟩
  · skip
    refine OpOK.q (x := (-1000000001)) hS ?_ (fun μ5 k5 => ?_)
    · show Go V (d + 5) mX8_told 0 [some (vR 0), some (vI cell), some (vI w)] [] μ _
      refine Go.iload_n dX8_told_0 rfl ?_
      refine Go.callSi [vI cell] [] dX8_told_1 lkX8_65 rfl (Nat.le_of_ble_eq_true rfl) rfl (Nat.le_of_ble_eq_true rfl) (c_isCell cell) ?_
      refine Go.if_neb_f (tgt := 10) dX8_told_4 (by decide) h1 ?_
      refine Go.ldc dX8_told_7 cnX8_76 ?_
      refine Go.ireturn .int dX8_told_9 rfl rfl ?_
      exact ⟨rfl, Fr.rf _ _⟩
    · have hs5 : μ5 77 = s := (k5 77 (by decide)).trans hs
      show Go V (d + 5) mX9_told 0 [some (vR 76), some (vI cell), some (vI w)] [] μ5 _
      refine Go.iload_n dX9_told_0 rfl ?_
      refine Go.callSi [vI cell] [] dX9_told_1 lkX9_90 rfl (Nat.le_of_ble_eq_true rfl) rfl (Nat.le_of_ble_eq_true rfl) (m_isCell cell) ?_
      refine Go.if_neb_f (tgt := 10) dX9_told_4 (by decide) h1 ?_
      refine Go.ldc dX9_told_7 cnX9_98 ?_
      refine Go.ireturn .int dX9_told_9 rfl rfl ?_
      exact ⟨rfl, Fr.rf _ _⟩
theorem op_as {V : VV} {d : Nat} {μ : Memo} (hS : Sim μ) (cell : Int32) (k : Int32) : OpOK V (d + 3) mX8_as mX9_as [vI cell, vI k] μ := by
  obtain ⟨⟨hT, hCo, hKd, hO, hH⟩, hI, hX, -, -, -, hTp, hWt⟩ := id hS
  generalize hs : μ 77 = s at hT hCo hKd hO hH hI hX
  by_cases h1 : nI 0 ≤ cell ∧ cell ≤ nI 29
  · skip
    obtain ⟨c, hc0, rfl⟩ := in_nI (by decide) h1
    have hc : c < 30 := by omega
    obtain ⟨q, hq, eq⟩ := hKd c hc
    by_cases h2 : nI 0 ≤ k ∧ k ≤ nI 5
    · skip
      refine OpOK.q (x := if isOfP (nI q) k then s (11 + 4 * c + 1) else (-1000000012)) hS ?_ (fun μ5 k5 => ?_)
      · show Go V (d + 3) mX8_as 0 [some (vR 0), some (vI (nI c)), some (vI k)] [] μ _
        refine Go.iload_n dX8_as_0 rfl ?_
        refine Go.callSi [vI (nI c)] [] dX8_as_1 lkX8_65 rfl (Nat.le_of_ble_eq_true rfl) rfl (Nat.le_of_ble_eq_true rfl) (c_isCell (nI c)) ?_
        refine Go.if_eqb_f (tgt := 14) dX8_as_4 (by decide) h1 ?_
        refine Go.iload_n dX8_as_7 rfl ?_
        refine Go.callSi [vI k] [] dX8_as_8 lkX8_69 rfl (Nat.le_of_ble_eq_true rfl) rfl (Nat.le_of_ble_eq_true rfl) (c_isKind k) ?_
        refine Go.if_neb_t (tgt := 17) dX8_as_11 (by decide) h2 ?_
        refine Go.at 17 rfl ?_
        refine Go.aload_n dX8_as_17 rfl ?_
        refine Go.getR dX8_as_18 flX8_21 rfl ?_
        refine Go.getR dX8_as_21 flX8_84 rfl ?_
        refine Go.iload_n dX8_as_24 rfl ?_
        refine Go.iaload c dX8_as_25 rfl (by omega) rfl ?_
        refine Go.topE (y := nI q) ((hI.1 c hc).1.trans eq) ?_
        refine Go.iload_n dX8_as_26 rfl ?_
        refine Go.at 27 rfl ?_
        refine Go.callSi [vI (nI q), vI k] [] dX8_as_27 lkX8_114 rfl (Nat.le_of_ble_eq_true rfl) rfl (Nat.le_of_ble_eq_true rfl) (c_isUnder hq k h2) ?_
        refine Go.if_eqb (tgt := 45) dX8_as_30 (by decide) (fun h30 => ?_) (fun h30 => ?_)
        · -- 30 taken
          refine Go.ldc dX8_as_45 cnX8_117 ?_
          refine Go.ireturn .int dX8_as_47 rfl rfl ?_
          exact ⟨congrArg (fun z => some (vI z)) (if_neg h30).symm, Fr.rf _ _⟩
        · -- 30 not
          refine Go.aload_n dX8_as_33 rfl ?_
          refine Go.getR dX8_as_34 flX8_21 rfl ?_
          refine Go.getR dX8_as_37 flX8_77 rfl ?_
          refine Go.iload_n dX8_as_40 rfl ?_
          refine Go.iaload c dX8_as_41 rfl (by omega) rfl ?_
          refine Go.topE (s (11 + 4 * c + 1)) ((hI.1 c hc).2.1) ?_
          refine Go.goto (tgt := 47) dX8_as_42 (by decide) ?_
          refine Go.at 47 rfl ?_
          refine Go.ireturn .int dX8_as_47 rfl rfl ?_
          exact ⟨congrArg (fun z => some (vI z)) (if_pos h30).symm, Fr.rf _ _⟩
      · have hs5 : μ5 77 = s := (k5 77 (by decide)).trans hs
        show Go V (d + 3) mX9_as 0 [some (vR 76), some (vI (nI c)), some (vI k)] [] μ5 _
        refine Go.iload_n dX9_as_0 rfl ?_
        refine Go.callSi [vI (nI c)] [] dX9_as_1 lkX9_90 rfl (Nat.le_of_ble_eq_true rfl) rfl (Nat.le_of_ble_eq_true rfl) (m_isCell (nI c)) ?_
        refine Go.if_eqb_f (tgt := 19) dX9_as_4 (by decide) h1 ?_
        refine Go.iload_n dX9_as_7 rfl ?_
        refine Go.i2l dX9_as_8 ?_
        refine Go.lconst (v := (nI 0).toInt64) dX9_as_9 rfl ?_
        refine Go.at 10 rfl ?_
        refine Go.ldc2 (v := (nI 5).toInt64) dX9_as_10 clX9_94 ?_
        refine Go.callSi [vL k.toInt64, vL ((nI 0).toInt64), vL ((nI 5).toInt64)] [] dX9_as_13 lkX9_65 rfl (Nat.le_of_ble_eq_true rfl) rfl (Nat.le_of_ble_eq_true rfl) (m_isIn k (nI 0) (nI 5)) ?_
        refine Go.if_neb_t (tgt := 22) dX9_as_16 (by decide) h2 ?_
        refine Go.aload_n dX9_as_22 rfl ?_
        refine Go.iload_n dX9_as_23 rfl ?_
        refine Go.iconst (v := nI 0) dX9_as_24 rfl ?_
        refine Go.at 25 rfl ?_
        refine Go.callVi 76 [vI (nI c), vI (nI 0)] [] dX9_as_25 lkX9_70 (Or.inl ⟨_, _, _, rfl, rfl, rfl⟩) rfl (Nat.le_of_ble_eq_true rfl) rfl (Nat.le_of_ble_eq_true rfl) (m_of0 hs5 c hc) ?_
        refine Go.topE (y := nI q) eq ?_
        refine Go.iload_n dX9_as_28 rfl ?_
        refine Go.callSi [vI (nI q), vI k] [] dX9_as_29 lkX9_115 rfl (Nat.le_of_ble_eq_true rfl) rfl (Nat.le_of_ble_eq_true rfl) (m_isOf (nI q) k) ?_
        refine Go.if_eqb (tgt := 44) dX9_as_32 (by decide) (fun h32 => ?_) (fun h32 => ?_)
        · -- 32 taken
          refine Go.ldc dX9_as_44 cnX9_119 ?_
          refine Go.ireturn .int dX9_as_46 rfl rfl ?_
          exact ⟨congrArg (fun z => some (vI z)) (if_neg h32).symm, Fr.rf _ _⟩
        · -- 32 not
          refine Go.aload_n dX9_as_35 rfl ?_
          refine Go.iload_n dX9_as_36 rfl ?_
          refine Go.iconst (v := nI 1) dX9_as_37 rfl ?_
          refine Go.callVi 76 [vI (nI c), vI (nI 1)] [] dX9_as_38 lkX9_70 (Or.inl ⟨_, _, _, rfl, rfl, rfl⟩) rfl (Nat.le_of_ble_eq_true rfl) rfl (Nat.le_of_ble_eq_true rfl) (m_of hs5 c 1 hc (by decide)) ?_
          refine Go.goto (tgt := 46) dX9_as_41 (by decide) ?_
          refine Go.ireturn .int dX9_as_46 rfl rfl ?_
          exact ⟨congrArg (fun z => some (vI z)) (if_pos h32).symm, Fr.rf _ _⟩
    · skip
      refine OpOK.q (x := (-1000000001)) hS ?_ (fun μ5 k5 => ?_)
      · show Go V (d + 3) mX8_as 0 [some (vR 0), some (vI (nI c)), some (vI k)] [] μ _
        refine Go.iload_n dX8_as_0 rfl ?_
        refine Go.callSi [vI (nI c)] [] dX8_as_1 lkX8_65 rfl (Nat.le_of_ble_eq_true rfl) rfl (Nat.le_of_ble_eq_true rfl) (c_isCell (nI c)) ?_
        refine Go.if_eqb_f (tgt := 14) dX8_as_4 (by decide) h1 ?_
        refine Go.iload_n dX8_as_7 rfl ?_
        refine Go.callSi [vI k] [] dX8_as_8 lkX8_69 rfl (Nat.le_of_ble_eq_true rfl) rfl (Nat.le_of_ble_eq_true rfl) (c_isKind k) ?_
        refine Go.if_neb_f (tgt := 17) dX8_as_11 (by decide) h2 ?_
        refine Go.at 14 rfl ?_
        refine Go.ldc dX8_as_14 cnX8_76 ?_
        refine Go.ireturn .int dX8_as_16 rfl rfl ?_
        exact ⟨rfl, Fr.rf _ _⟩
      · have hs5 : μ5 77 = s := (k5 77 (by decide)).trans hs
        show Go V (d + 3) mX9_as 0 [some (vR 76), some (vI (nI c)), some (vI k)] [] μ5 _
        refine Go.iload_n dX9_as_0 rfl ?_
        refine Go.callSi [vI (nI c)] [] dX9_as_1 lkX9_90 rfl (Nat.le_of_ble_eq_true rfl) rfl (Nat.le_of_ble_eq_true rfl) (m_isCell (nI c)) ?_
        refine Go.if_eqb_f (tgt := 19) dX9_as_4 (by decide) h1 ?_
        refine Go.iload_n dX9_as_7 rfl ?_
        refine Go.i2l dX9_as_8 ?_
        refine Go.lconst (v := (nI 0).toInt64) dX9_as_9 rfl ?_
        refine Go.at 10 rfl ?_
        refine Go.ldc2 (v := (nI 5).toInt64) dX9_as_10 clX9_94 ?_
        refine Go.callSi [vL k.toInt64, vL ((nI 0).toInt64), vL ((nI 5).toInt64)] [] dX9_as_13 lkX9_65 rfl (Nat.le_of_ble_eq_true rfl) rfl (Nat.le_of_ble_eq_true rfl) (m_isIn k (nI 0) (nI 5)) ?_
        refine Go.if_neb_f (tgt := 22) dX9_as_16 (by decide) h2 ?_
        refine Go.ldc dX9_as_19 cnX9_98 ?_
        refine Go.ireturn .int dX9_as_21 rfl rfl ?_
        exact ⟨rfl, Fr.rf _ _⟩
  · skip
    refine OpOK.q (x := (-1000000001)) hS ?_ (fun μ5 k5 => ?_)
    · show Go V (d + 3) mX8_as 0 [some (vR 0), some (vI cell), some (vI k)] [] μ _
      refine Go.iload_n dX8_as_0 rfl ?_
      refine Go.callSi [vI cell] [] dX8_as_1 lkX8_65 rfl (Nat.le_of_ble_eq_true rfl) rfl (Nat.le_of_ble_eq_true rfl) (c_isCell cell) ?_
      refine Go.if_eqb_t (tgt := 14) dX8_as_4 (by decide) h1 ?_
      refine Go.ldc dX8_as_14 cnX8_76 ?_
      refine Go.ireturn .int dX8_as_16 rfl rfl ?_
      exact ⟨rfl, Fr.rf _ _⟩
    · have hs5 : μ5 77 = s := (k5 77 (by decide)).trans hs
      show Go V (d + 3) mX9_as 0 [some (vR 76), some (vI cell), some (vI k)] [] μ5 _
      refine Go.iload_n dX9_as_0 rfl ?_
      refine Go.callSi [vI cell] [] dX9_as_1 lkX9_90 rfl (Nat.le_of_ble_eq_true rfl) rfl (Nat.le_of_ble_eq_true rfl) (m_isCell cell) ?_
      refine Go.if_eqb_t (tgt := 19) dX9_as_4 (by decide) h1 ?_
      refine Go.ldc dX9_as_19 cnX9_98 ?_
      refine Go.ireturn .int dX9_as_21 rfl rfl ?_
      exact ⟨rfl, Fr.rf _ _⟩
theorem op_sky {V : VV} {d : Nat} {μ : Memo} (hS : Sim μ) (t : Int32) (w : Int32) : OpOK V (d + 5) mX8_sky mX9_sky [vI t, vI w] μ := by
  obtain ⟨⟨hT, hCo, hKd, hO, hH⟩, hI, hX, -, -, -, hTp, hWt⟩ := id hS
  generalize hs : μ 77 = s at hT hCo hKd hO hH hI hX
  by_cases h1 : nI 0 ≤ t ∧ t ≤ nI 199
  · skip
    by_cases hw0 : w = nI 0
    · skip
      subst hw0
      refine OpOK.q (x := levelF s t) hS ?_ (fun μ5 k5 => ?_)
      · show Go V (d + 5) mX8_sky 0 [some (vR 0), some (vI t), some (vI (nI 0))] [] μ _
        refine Go.iload_n dX8_sky_0 rfl ?_
        refine Go.callSi [vI t] [] dX8_sky_1 lkX8_138 rfl (Nat.le_of_ble_eq_true rfl) rfl (Nat.le_of_ble_eq_true rfl) (c_areHoursOn t) ?_
        refine Go.if_neb_t (tgt := 10) dX8_sky_4 (by decide) h1 ?_
        refine Go.iload_n dX8_sky_10 rfl ?_
        refine Go.tsw (tgt := 36) (nI 0) rfl dX8_sky_11 (by decide) (by decide) rfl (by decide) ?_
        refine Go.aload_n dX8_sky_36 rfl ?_
        refine Go.getR dX8_sky_37 flX8_21 rfl ?_
        refine Go.iload_n dX8_sky_40 rfl ?_
        refine Go.callVx 7 [vI t] [] dX8_sky_41 lkX8_141 (Or.inl ⟨_, _, _, rfl, rfl, rfl⟩) rfl (Nat.le_of_ble_eq_true rfl) rfl (Nat.le_of_ble_eq_true rfl) (c_level isB7 hI hX hT t) (fun μ1 k1 => ?_)
        have hI1 : Isl 7 μ1 s := hI.fr isB7 k1
        have hX1 : Txr μ1 s := hX.fr hT.1 k1
        refine Go.ireturn .int dX8_sky_44 rfl rfl ?_
        exact ⟨rfl, k1⟩
      · have hs5 : μ5 77 = s := (k5 77 (by decide)).trans hs
        show Go V (d + 5) mX9_sky 0 [some (vR 76), some (vI t), some (vI (nI 0))] [] μ5 _
        refine Go.iload_n dX9_sky_0 rfl ?_
        refine Go.callSi [vI t] [] dX9_sky_1 lkX9_148 rfl (Nat.le_of_ble_eq_true rfl) rfl (Nat.le_of_ble_eq_true rfl) (m_isAhead t) ?_
        refine Go.if_eqb_f (tgt := 19) dX9_sky_4 (by decide) h1 ?_
        refine Go.iload_n dX9_sky_7 rfl ?_
        refine Go.i2l dX9_sky_8 ?_
        refine Go.lconst (v := (nI 0).toInt64) dX9_sky_9 rfl ?_
        refine Go.at 10 rfl ?_
        refine Go.ldc2 (v := (nI 2).toInt64) dX9_sky_10 clX9_151 ?_
        refine Go.callSi [vL ((nI 0).toInt64), vL ((nI 0).toInt64), vL ((nI 2).toInt64)] [] dX9_sky_13 lkX9_65 rfl (Nat.le_of_ble_eq_true rfl) rfl (Nat.le_of_ble_eq_true rfl) (m_isIn (nI 0) (nI 0) (nI 2)) ?_
        refine Go.if_neb_t (tgt := 22) dX9_sky_16 (by decide) (by decide) ?_
        refine Go.iload_n dX9_sky_22 rfl ?_
        refine Go.if_ne_f (tgt := 34) dX9_sky_23 (by decide) (by decide) ?_
        refine Go.aload_n dX9_sky_26 rfl ?_
        refine Go.at 27 rfl ?_
        refine Go.iload_n dX9_sky_27 rfl ?_
        refine Go.callVx 76 [vI t] [] dX9_sky_28 lkX9_87 (Or.inl ⟨_, _, _, rfl, rfl, rfl⟩) rfl (Nat.le_of_ble_eq_true rfl) rfl (Nat.le_of_ble_eq_true rfl) (m_level hs5 hT t) (fun μ1 k1 => ?_)
        have hs1 : μ1 77 = s := (k1 77 (by decide)).trans hs5
        refine Go.goto (tgt := 58) dX9_sky_31 (by decide) ?_
        refine Go.ireturn .int dX9_sky_58 rfl rfl ?_
        exact ⟨rfl, k1.wide (by decide)⟩
    · skip
      by_cases hw1 : w = nI 1
      · skip
        subst hw1
        refine OpOK.q (x := szF s t) hS ?_ (fun μ5 k5 => ?_)
        · show Go V (d + 5) mX8_sky 0 [some (vR 0), some (vI t), some (vI (nI 1))] [] μ _
          refine Go.iload_n dX8_sky_0 rfl ?_
          refine Go.callSi [vI t] [] dX8_sky_1 lkX8_138 rfl (Nat.le_of_ble_eq_true rfl) rfl (Nat.le_of_ble_eq_true rfl) (c_areHoursOn t) ?_
          refine Go.if_neb_t (tgt := 10) dX8_sky_4 (by decide) h1 ?_
          refine Go.iload_n dX8_sky_10 rfl ?_
          refine Go.tsw (tgt := 45) (nI 1) rfl dX8_sky_11 (by decide) (by decide) rfl (by decide) ?_
          refine Go.aload_n dX8_sky_45 rfl ?_
          refine Go.getR dX8_sky_46 flX8_21 rfl ?_
          refine Go.iload_n dX8_sky_49 rfl ?_
          refine Go.callVx 7 [vI t] [] dX8_sky_50 lkX8_131 (Or.inl ⟨_, _, _, rfl, rfl, rfl⟩) rfl (Nat.le_of_ble_eq_true rfl) rfl (Nat.le_of_ble_eq_true rfl) ((c_size isB7 hI hX hT t).eq (sz_c _ _)) (fun μ1 k1 => ?_)
          have hI1 : Isl 7 μ1 s := hI.fr isB7 k1
          have hX1 : Txr μ1 s := hX.fr hT.1 k1
          refine Go.ireturn .int dX8_sky_53 rfl rfl ?_
          exact ⟨rfl, k1⟩
        · have hs5 : μ5 77 = s := (k5 77 (by decide)).trans hs
          show Go V (d + 5) mX9_sky 0 [some (vR 76), some (vI t), some (vI (nI 1))] [] μ5 _
          refine Go.iload_n dX9_sky_0 rfl ?_
          refine Go.callSi [vI t] [] dX9_sky_1 lkX9_148 rfl (Nat.le_of_ble_eq_true rfl) rfl (Nat.le_of_ble_eq_true rfl) (m_isAhead t) ?_
          refine Go.if_eqb_f (tgt := 19) dX9_sky_4 (by decide) h1 ?_
          refine Go.iload_n dX9_sky_7 rfl ?_
          refine Go.i2l dX9_sky_8 ?_
          refine Go.lconst (v := (nI 0).toInt64) dX9_sky_9 rfl ?_
          refine Go.at 10 rfl ?_
          refine Go.ldc2 (v := (nI 2).toInt64) dX9_sky_10 clX9_151 ?_
          refine Go.callSi [vL ((nI 1).toInt64), vL ((nI 0).toInt64), vL ((nI 2).toInt64)] [] dX9_sky_13 lkX9_65 rfl (Nat.le_of_ble_eq_true rfl) rfl (Nat.le_of_ble_eq_true rfl) (m_isIn (nI 1) (nI 0) (nI 2)) ?_
          refine Go.if_neb_t (tgt := 22) dX9_sky_16 (by decide) (by decide) ?_
          refine Go.iload_n dX9_sky_22 rfl ?_
          refine Go.if_ne_t (tgt := 34) dX9_sky_23 (by decide) (by decide) ?_
          refine Go.iload_n dX9_sky_34 rfl ?_
          refine Go.at 35 rfl ?_
          refine Go.iconst (v := nI 1) dX9_sky_35 rfl ?_
          refine Go.icmp_ne_f (tgt := 50) dX9_sky_36 (by decide) (by decide) ?_
          refine Go.aload_n dX9_sky_39 rfl ?_
          refine Go.iload_n dX9_sky_40 rfl ?_
          refine Go.callVx 76 [vI t] [] dX9_sky_41 lkX9_131 (Or.inl ⟨_, _, _, rfl, rfl, rfl⟩) rfl (Nat.le_of_ble_eq_true rfl) rfl (Nat.le_of_ble_eq_true rfl) (m_dry hs5 hT t) (fun μ1 k1 => ?_)
          have hs1 : μ1 77 = s := (k1 77 (by decide)).trans hs5
          refine Go.callSi [vI (dryF s t)] [] dX9_sky_44 lkX9_134 rfl (Nat.le_of_ble_eq_true rfl) rfl (Nat.le_of_ble_eq_true rfl) ((m_ones (dryF s t)).eq (sz_m _ _)) ?_
          refine Go.at 47 rfl ?_
          refine Go.goto (tgt := 58) dX9_sky_47 (by decide) ?_
          refine Go.ireturn .int dX9_sky_58 rfl rfl ?_
          exact ⟨rfl, k1.wide (by decide)⟩
      · skip
        by_cases hw2 : w = nI 2
        · skip
          subst hw2
          refine OpOK.q (x := nI (scanF (dryF s t) 30 0 (dryF s t) 0)) hS ?_ (fun μ5 k5 => ?_)
          · show Go V (d + 5) mX8_sky 0 [some (vR 0), some (vI t), some (vI (nI 2))] [] μ _
            refine Go.iload_n dX8_sky_0 rfl ?_
            refine Go.callSi [vI t] [] dX8_sky_1 lkX8_138 rfl (Nat.le_of_ble_eq_true rfl) rfl (Nat.le_of_ble_eq_true rfl) (c_areHoursOn t) ?_
            refine Go.if_neb_t (tgt := 10) dX8_sky_4 (by decide) h1 ?_
            refine Go.iload_n dX8_sky_10 rfl ?_
            refine Go.tsw (tgt := 54) (nI 2) rfl dX8_sky_11 (by decide) (by decide) rfl (by decide) ?_
            refine Go.aload_n dX8_sky_54 rfl ?_
            refine Go.getR dX8_sky_55 flX8_21 rfl ?_
            refine Go.iload_n dX8_sky_58 rfl ?_
            refine Go.callVx 7 [vI t] [] dX8_sky_59 lkX8_105 (Or.inl ⟨_, _, _, rfl, rfl, rfl⟩) rfl (Nat.le_of_ble_eq_true rfl) rfl (Nat.le_of_ble_eq_true rfl) (c_dry isB7 hI hX hT t) (fun μ1 k1 => ?_)
            have hI1 : Isl 7 μ1 s := hI.fr isB7 k1
            have hX1 : Txr μ1 s := hX.fr hT.1 k1
            refine Go.callSi [vI (dryF s t)] [] dX8_sky_62 lkX8_144 rfl (Nat.le_of_ble_eq_true rfl) rfl (Nat.le_of_ble_eq_true rfl) (c_partsOf (dry_S30 _ _)) ?_
            refine Go.ireturn .int dX8_sky_65 rfl rfl ?_
            exact ⟨rfl, k1⟩
          · have hs5 : μ5 77 = s := (k5 77 (by decide)).trans hs
            show Go V (d + 5) mX9_sky 0 [some (vR 76), some (vI t), some (vI (nI 2))] [] μ5 _
            refine Go.iload_n dX9_sky_0 rfl ?_
            refine Go.callSi [vI t] [] dX9_sky_1 lkX9_148 rfl (Nat.le_of_ble_eq_true rfl) rfl (Nat.le_of_ble_eq_true rfl) (m_isAhead t) ?_
            refine Go.if_eqb_f (tgt := 19) dX9_sky_4 (by decide) h1 ?_
            refine Go.iload_n dX9_sky_7 rfl ?_
            refine Go.i2l dX9_sky_8 ?_
            refine Go.lconst (v := (nI 0).toInt64) dX9_sky_9 rfl ?_
            refine Go.at 10 rfl ?_
            refine Go.ldc2 (v := (nI 2).toInt64) dX9_sky_10 clX9_151 ?_
            refine Go.callSi [vL ((nI 2).toInt64), vL ((nI 0).toInt64), vL ((nI 2).toInt64)] [] dX9_sky_13 lkX9_65 rfl (Nat.le_of_ble_eq_true rfl) rfl (Nat.le_of_ble_eq_true rfl) (m_isIn (nI 2) (nI 0) (nI 2)) ?_
            refine Go.if_neb_t (tgt := 22) dX9_sky_16 (by decide) (by decide) ?_
            refine Go.iload_n dX9_sky_22 rfl ?_
            refine Go.if_ne_t (tgt := 34) dX9_sky_23 (by decide) (by decide) ?_
            refine Go.iload_n dX9_sky_34 rfl ?_
            refine Go.at 35 rfl ?_
            refine Go.iconst (v := nI 1) dX9_sky_35 rfl ?_
            refine Go.icmp_ne_t (tgt := 50) dX9_sky_36 (by decide) (by decide) ?_
            refine Go.aload_n dX9_sky_50 rfl ?_
            refine Go.iload_n dX9_sky_51 rfl ?_
            refine Go.callVx 76 [vI t] [] dX9_sky_52 lkX9_131 (Or.inl ⟨_, _, _, rfl, rfl, rfl⟩) rfl (Nat.le_of_ble_eq_true rfl) rfl (Nat.le_of_ble_eq_true rfl) (m_dry hs5 hT t) (fun μ1 k1 => ?_)
            have hs1 : μ1 77 = s := (k1 77 (by decide)).trans hs5
            refine Go.callSi [vI (dryF s t)] [] dX9_sky_55 lkX9_153 rfl (Nat.le_of_ble_eq_true rfl) rfl (Nat.le_of_ble_eq_true rfl) (m_partsOf (dry_S30 _ _)) ?_
            refine Go.at 58 rfl ?_
            refine Go.ireturn .int dX9_sky_58 rfl rfl ?_
            exact ⟨rfl, k1.wide (by decide)⟩
        · skip
          refine OpOK.q (x := (-1000000001)) hS ?_ (fun μ5 k5 => ?_)
          · show Go V (d + 5) mX8_sky 0 [some (vR 0), some (vI t), some (vI w)] [] μ _
            refine Go.iload_n dX8_sky_0 rfl ?_
            refine Go.callSi [vI t] [] dX8_sky_1 lkX8_138 rfl (Nat.le_of_ble_eq_true rfl) rfl (Nat.le_of_ble_eq_true rfl) (c_areHoursOn t) ?_
            refine Go.if_neb_t (tgt := 10) dX8_sky_4 (by decide) h1 ?_
            refine Go.iload_n dX8_sky_10 rfl ?_
            refine Go.tswD (tgt := 66) dX8_sky_11 (by have a0 := lv_neT hw0 (a := 0) rfl; have a1 := lv_neT hw1 (a := 1) rfl; have a2 := lv_neT hw2 (a := 2) rfl; omega) (by decide) ?_
            refine Go.ldc dX8_sky_66 cnX8_76 ?_
            refine Go.ireturn .int dX8_sky_68 rfl rfl ?_
            exact ⟨rfl, Fr.rf _ _⟩
          · have hs5 : μ5 77 = s := (k5 77 (by decide)).trans hs
            show Go V (d + 5) mX9_sky 0 [some (vR 76), some (vI t), some (vI w)] [] μ5 _
            refine Go.iload_n dX9_sky_0 rfl ?_
            refine Go.callSi [vI t] [] dX9_sky_1 lkX9_148 rfl (Nat.le_of_ble_eq_true rfl) rfl (Nat.le_of_ble_eq_true rfl) (m_isAhead t) ?_
            refine Go.if_eqb_f (tgt := 19) dX9_sky_4 (by decide) h1 ?_
            refine Go.iload_n dX9_sky_7 rfl ?_
            refine Go.i2l dX9_sky_8 ?_
            refine Go.lconst (v := (nI 0).toInt64) dX9_sky_9 rfl ?_
            refine Go.at 10 rfl ?_
            refine Go.ldc2 (v := (nI 2).toInt64) dX9_sky_10 clX9_151 ?_
            refine Go.callSi [vL w.toInt64, vL ((nI 0).toInt64), vL ((nI 2).toInt64)] [] dX9_sky_13 lkX9_65 rfl (Nat.le_of_ble_eq_true rfl) rfl (Nat.le_of_ble_eq_true rfl) (m_isIn w (nI 0) (nI 2)) ?_
            refine Go.if_neb_f (tgt := 22) dX9_sky_16 (by decide) (by intro z; simp only [sI_le, sI_eq, nT] at *; omega) ?_
            refine Go.ldc dX9_sky_19 cnX9_98 ?_
            refine Go.ireturn .int dX9_sky_21 rfl rfl ?_
            exact ⟨rfl, Fr.rf _ _⟩
  · skip
    refine OpOK.q (x := (-1000000001)) hS ?_ (fun μ5 k5 => ?_)
    · show Go V (d + 5) mX8_sky 0 [some (vR 0), some (vI t), some (vI w)] [] μ _
      refine Go.iload_n dX8_sky_0 rfl ?_
      refine Go.callSi [vI t] [] dX8_sky_1 lkX8_138 rfl (Nat.le_of_ble_eq_true rfl) rfl (Nat.le_of_ble_eq_true rfl) (c_areHoursOn t) ?_
      refine Go.if_neb_f (tgt := 10) dX8_sky_4 (by decide) h1 ?_
      refine Go.ldc dX8_sky_7 cnX8_76 ?_
      refine Go.ireturn .int dX8_sky_9 rfl rfl ?_
      exact ⟨rfl, Fr.rf _ _⟩
    · have hs5 : μ5 77 = s := (k5 77 (by decide)).trans hs
      show Go V (d + 5) mX9_sky 0 [some (vR 76), some (vI t), some (vI w)] [] μ5 _
      refine Go.iload_n dX9_sky_0 rfl ?_
      refine Go.callSi [vI t] [] dX9_sky_1 lkX9_148 rfl (Nat.le_of_ble_eq_true rfl) rfl (Nat.le_of_ble_eq_true rfl) (m_isAhead t) ?_
      refine Go.if_eqb_t (tgt := 19) dX9_sky_4 (by decide) h1 ?_
      refine Go.ldc dX9_sky_19 cnX9_98 ?_
      refine Go.ireturn .int dX9_sky_21 rfl rfl ?_
      exact ⟨rfl, Fr.rf _ _⟩
theorem op_cut {V : VV} {d : Nat} {μ : Memo} (hS : Sim μ) (t : Int32) : OpOK V (d + 6) mX8_cut mX9_cut [vI t] μ := by
  obtain ⟨⟨hT, hCo, hKd, hO, hH⟩, hI, hX, -, -, -, hTp, hWt⟩ := id hS
  generalize hs : μ 77 = s at hT hCo hKd hO hH hI hX
  by_cases h1 : nI 0 ≤ t ∧ t ≤ nI 199
  · skip
    have hpk29 := pkF_le s 29
    refine OpOK.q (x := cuF s (offF s t) (nH s)) hS ?_ (fun μ5 k5 => ?_)
    · show Go V (d + 6) mX8_cut 0 [some (vR 0), some (vI t)] [] μ _
      refine Go.iload_n dX8_cut_0 rfl ?_
      refine Go.callSi [vI t] [] dX8_cut_1 lkX8_138 rfl (Nat.le_of_ble_eq_true rfl) rfl (Nat.le_of_ble_eq_true rfl) (c_areHoursOn t) ?_
      refine Go.if_eqb_f (tgt := 18) dX8_cut_4 (by decide) h1 ?_
      refine Go.aload_n dX8_cut_7 rfl ?_
      refine Go.getR dX8_cut_8 flX8_21 rfl ?_
      refine Go.iload_n dX8_cut_11 rfl ?_
      refine Go.at 12 rfl ?_
      refine Go.callVx 7 [vI t] [] dX8_cut_12 lkX8_182 (Or.inl ⟨_, _, _, rfl, rfl, rfl⟩) rfl (Nat.le_of_ble_eq_true rfl) rfl (Nat.le_of_ble_eq_true rfl) (c_cut isB7 hI hX hT hH t) (fun μ1 k1 => ?_)
      have hI1 : Isl 7 μ1 s := hI.fr isB7 k1
      have hX1 : Txr μ1 s := hX.fr hT.1 k1
      refine Go.goto (tgt := 20) dX8_cut_15 (by decide) ?_
      refine Go.ireturn .int dX8_cut_20 rfl rfl ?_
      exact ⟨rfl, k1⟩
    · have hs5 : μ5 77 = s := (k5 77 (by decide)).trans hs
      show Go V (d + 6) mX9_cut 0 [some (vR 76), some (vI t), none, none, none, none, none] [] μ5 _
      refine Go.iload_n dX9_cut_0 rfl ?_
      refine Go.callSi [vI t] [] dX9_cut_1 lkX9_148 rfl (Nat.le_of_ble_eq_true rfl) rfl (Nat.le_of_ble_eq_true rfl) (m_isAhead t) ?_
      refine Go.if_neb_t (tgt := 10) dX9_cut_4 (by decide) h1 ?_
      refine Go.aload_n dX9_cut_10 rfl ?_
      refine Go.iload_n dX9_cut_11 rfl ?_
      refine Go.callVx 76 [vI t] [] dX9_cut_12 lkX9_131 (Or.inl ⟨_, _, _, rfl, rfl, rfl⟩) rfl (Nat.le_of_ble_eq_true rfl) rfl (Nat.le_of_ble_eq_true rfl) (m_dry hs5 hT t) (fun μ1 k1 => ?_)
      have hs1 : μ1 77 = s := (k1 77 (by decide)).trans hs5
      refine Go.at 15 rfl ?_
      refine Go.istore_n (ls' := [some (vR 76), some (vI t), some (vI (dryF s t)), none, none, none, none]) dX9_cut_15 (by decide) rfl ?_
      refine Go.aload_n dX9_cut_16 rfl ?_
      refine Go.callVi 76 [] [] dX9_cut_17 lkX9_174 (Or.inl ⟨_, _, _, rfl, rfl, rfl⟩) rfl (Nat.le_of_ble_eq_true rfl) rfl (Nat.le_of_ble_eq_true rfl) (m_peak hs1) ?_
      refine Go.istore_n (ls' := [some (vR 76), some (vI t), some (vI (dryF s t)), some (vI (nI (pkF s 29))), none, none, none]) dX9_cut_20 (by decide) rfl ?_
      refine Go.iload_n dX9_cut_21 rfl ?_
      refine Go.iload_n dX9_cut_22 rfl ?_
      refine Go.at 23 rfl ?_
      refine Go.ishr dX9_cut_23 ?_
      refine Go.iconst (v := nI 1) dX9_cut_24 rfl ?_
      refine Go.iand dX9_cut_25 ?_
      refine Go.iconst (v := nI 1) dX9_cut_26 rfl ?_
      
      refine Go.icmp_ne (tgt := 42) dX9_cut_27 (by decide) (fun h27 => ?_) (fun h27 => ?_)
      · -- 27 taken
        refine Go.iload_n dX9_cut_42 rfl ?_
        refine Go.istore (ls' := [some (vR 76), some (vI t), some (vI (dryF s t)), some (vI (nI (pkF s 29))), some (vI (dryF s t)), none, none]) dX9_cut_43 (by decide) rfl ?_
        refine Go.iconst (v := nI 0) dX9_cut_45 rfl ?_
        refine Go.istore (ls' := [some (vR 76), some (vI t), some (vI (dryF s t)), some (vI (nI (pkF s 29))), some (vI (dryF s t)), some (vI (nI 0)), none]) dX9_cut_46 (by decide) rfl ?_
        refine Go.iconst (v := nI 0) dX9_cut_48 rfl ?_
        refine Go.istore (ls' := [some (vR 76), some (vI t), some (vI (dryF s t)), some (vI (nI (pkF s 29))), some (vI (dryF s t)), some (vI (nI 0)), some (vI (nI 0))]) dX9_cut_49 (by decide) rfl ?_
        refine Go.at 51 rfl ?_
        rw [show dryF s t = offF s t from (by unfold offF; first | exact (if_pos ((bitM1 (by omega) _).mp h27)).symm | exact (if_neg (fun z => h27 ((bitM1 (by omega) _).mpr z))).symm)]
        exact Go.mono (m_cut_lp hs1 hH t _ _ _ (nH s) 0 (by omega)) (by rintro r m2 ⟨rfl, rfl⟩; exact ⟨rfl, k1.wide (by decide)⟩)
      · -- 27 not
        have hpk : bt (dryF s t) (pkF s 29) = true := (bitM1 (by omega) _).mp h27
        refine Go.iload_n dX9_cut_30 rfl ?_
        refine Go.iload_n dX9_cut_31 rfl ?_
        refine Go.iload_n dX9_cut_32 rfl ?_
        refine Go.callSi [vI (dryF s t), vI (nI (pkF s 29))] [vI (dryF s t)] dX9_cut_33 lkX9_143 rfl (Nat.le_of_ble_eq_true rfl) rfl (Nat.le_of_ble_eq_true rfl) (m_partOf (dry_S30 s t) (by omega) hpk) ?_
        refine Go.iconst (v := (-1)) dX9_cut_36 rfl ?_
        refine Go.ixor dX9_cut_37 ?_
        refine Go.at 38 rfl ?_
        refine Go.iand dX9_cut_38 ?_
        refine Go.goto (tgt := 43) dX9_cut_39 (by decide) ?_
        refine Go.istore (ls' := [some (vR 76), some (vI t), some (vI (dryF s t)), some (vI (nI (pkF s 29))), some (vI ((dryF s t) &&& ((ptF (dryF s t) (pkF s 29)) ^^^ (-1)))), none, none]) dX9_cut_43 (by decide) rfl ?_
        refine Go.iconst (v := nI 0) dX9_cut_45 rfl ?_
        refine Go.istore (ls' := [some (vR 76), some (vI t), some (vI (dryF s t)), some (vI (nI (pkF s 29))), some (vI ((dryF s t) &&& ((ptF (dryF s t) (pkF s 29)) ^^^ (-1)))), some (vI (nI 0)), none]) dX9_cut_46 (by decide) rfl ?_
        refine Go.iconst (v := nI 0) dX9_cut_48 rfl ?_
        refine Go.at 49 rfl ?_
        refine Go.istore (ls' := [some (vR 76), some (vI t), some (vI (dryF s t)), some (vI (nI (pkF s 29))), some (vI ((dryF s t) &&& ((ptF (dryF s t) (pkF s 29)) ^^^ (-1)))), some (vI (nI 0)), some (vI (nI 0))]) dX9_cut_49 (by decide) rfl ?_
        rw [show (dryF s t) &&& ((ptF (dryF s t) (pkF s 29)) ^^^ (-1)) = offF s t from (by unfold offF; first | exact (if_pos ((bitM1 (by omega) _).mp h27)).symm | exact (if_neg (fun z => h27 ((bitM1 (by omega) _).mpr z))).symm)]
        exact Go.mono (m_cut_lp hs1 hH t _ _ _ (nH s) 0 (by omega)) (by rintro r m2 ⟨rfl, rfl⟩; exact ⟨rfl, k1.wide (by decide)⟩)
  · skip
    refine OpOK.q (x := (-1000000001)) hS ?_ (fun μ5 k5 => ?_)
    · show Go V (d + 6) mX8_cut 0 [some (vR 0), some (vI t)] [] μ _
      refine Go.iload_n dX8_cut_0 rfl ?_
      refine Go.callSi [vI t] [] dX8_cut_1 lkX8_138 rfl (Nat.le_of_ble_eq_true rfl) rfl (Nat.le_of_ble_eq_true rfl) (c_areHoursOn t) ?_
      refine Go.if_eqb_t (tgt := 18) dX8_cut_4 (by decide) h1 ?_
      refine Go.ldc dX8_cut_18 cnX8_76 ?_
      refine Go.ireturn .int dX8_cut_20 rfl rfl ?_
      exact ⟨rfl, Fr.rf _ _⟩
    · have hs5 : μ5 77 = s := (k5 77 (by decide)).trans hs
      show Go V (d + 6) mX9_cut 0 [some (vR 76), some (vI t), none, none, none, none, none] [] μ5 _
      refine Go.iload_n dX9_cut_0 rfl ?_
      refine Go.callSi [vI t] [] dX9_cut_1 lkX9_148 rfl (Nat.le_of_ble_eq_true rfl) rfl (Nat.le_of_ble_eq_true rfl) (m_isAhead t) ?_
      refine Go.if_neb_f (tgt := 10) dX9_cut_4 (by decide) h1 ?_
      refine Go.ldc dX9_cut_7 cnX9_98 ?_
      refine Go.ireturn .int dX9_cut_9 rfl rfl ?_
      exact ⟨rfl, Fr.rf _ _⟩
theorem op_lack {V : VV} {d : Nat} {μ : Memo} (hS : Sim μ) (t : Int32) : OpOK V (d + 6) mX8_lack mX9_lack [vI t] μ := by
  obtain ⟨⟨hT, hCo, hKd, hO, hH⟩, hI, hX, -, -, -, hTp, hWt⟩ := id hS
  generalize hs : μ 77 = s at hT hCo hKd hO hH hI hX
  by_cases h1 : nI 0 ≤ t ∧ t ≤ nI 199
  · skip
    refine OpOK.q (x := maxI (nI 0) (lkF s t (mnF s (nH s)) 30)) hS ?_ (fun μ5 k5 => ?_)
    · show Go V (d + 6) mX8_lack 0 [some (vR 0), some (vI t)] [] μ _
      refine Go.iload_n dX8_lack_0 rfl ?_
      refine Go.callSi [vI t] [] dX8_lack_1 lkX8_138 rfl (Nat.le_of_ble_eq_true rfl) rfl (Nat.le_of_ble_eq_true rfl) (c_areHoursOn t) ?_
      refine Go.if_eqb_f (tgt := 18) dX8_lack_4 (by decide) h1 ?_
      refine Go.aload_n dX8_lack_7 rfl ?_
      refine Go.getR dX8_lack_8 flX8_21 rfl ?_
      refine Go.iload_n dX8_lack_11 rfl ?_
      refine Go.at 12 rfl ?_
      refine Go.callVx 7 [vI t] [] dX8_lack_12 lkX8_185 (Or.inl ⟨_, _, _, rfl, rfl, rfl⟩) rfl (Nat.le_of_ble_eq_true rfl) rfl (Nat.le_of_ble_eq_true rfl) (c_lack isB7 hI hX hT hH t) (fun μ1 k1 => ?_)
      have hI1 : Isl 7 μ1 s := hI.fr isB7 k1
      have hX1 : Txr μ1 s := hX.fr hT.1 k1
      refine Go.goto (tgt := 20) dX8_lack_15 (by decide) ?_
      refine Go.ireturn .int dX8_lack_20 rfl rfl ?_
      exact ⟨rfl, k1⟩
    · have hs5 : μ5 77 = s := (k5 77 (by decide)).trans hs
      show Go V (d + 6) mX9_lack 0 [some (vR 76), some (vI t), none, none, none] [] μ5 _
      refine Go.iload_n dX9_lack_0 rfl ?_
      refine Go.callSi [vI t] [] dX9_lack_1 lkX9_148 rfl (Nat.le_of_ble_eq_true rfl) rfl (Nat.le_of_ble_eq_true rfl) (m_isAhead t) ?_
      refine Go.if_neb_t (tgt := 10) dX9_lack_4 (by decide) h1 ?_
      refine Go.iconst (v := nI 0) dX9_lack_10 rfl ?_
      refine Go.istore_n (ls' := [some (vR 76), some (vI t), some (vI (nI 0)), none, none]) dX9_lack_11 (by decide) rfl ?_
      refine Go.iconst (v := nI 0) dX9_lack_12 rfl ?_
      refine Go.at 13 rfl ?_
      refine Go.istore_n (ls' := [some (vR 76), some (vI t), some (vI (nI 0)), some (vI (nI 0)), none]) dX9_lack_13 (by decide) rfl ?_
      refine m_lack_l1 hs5 hH t ?_ (nH s) 0 (by omega)
      refine Go.aload_n dX9_lack_38 rfl ?_
      refine Go.iload_n dX9_lack_39 rfl ?_
      refine Go.callVx 76 [vI t] [] dX9_lack_40 lkX9_131 (Or.inl ⟨_, _, _, rfl, rfl, rfl⟩) rfl (Nat.le_of_ble_eq_true rfl) rfl (Nat.le_of_ble_eq_true rfl) (m_dry hs5 hT t) (fun μ1 k1 => ?_)
      have hs1 : μ1 77 = s := (k1 77 (by decide)).trans hs5
      refine Go.istore_n (ls' := [some (vR 76), some (vI t), some (vI (mnF s (nH s))), some (vI (dryF s t)), none]) dX9_lack_43 (by decide) rfl ?_
      refine Go.iconst (v := nI 0) dX9_lack_44 rfl ?_
      refine Go.istore (ls' := [some (vR 76), some (vI t), some (vI (mnF s (nH s))), some (vI (dryF s t)), some (vI (nI 0))]) dX9_lack_45 (by decide) rfl ?_
      refine Go.at 47 rfl ?_
      exact Go.mono (m_lack_l2 hs1 hT t _ hCo 30 0 μ1 (by omega) (Fr.rf _ _)) (fun r m2 q => ⟨q.1, (k1.trans q.2).wide (by decide)⟩)
  · skip
    refine OpOK.q (x := (-1000000001)) hS ?_ (fun μ5 k5 => ?_)
    · show Go V (d + 6) mX8_lack 0 [some (vR 0), some (vI t)] [] μ _
      refine Go.iload_n dX8_lack_0 rfl ?_
      refine Go.callSi [vI t] [] dX8_lack_1 lkX8_138 rfl (Nat.le_of_ble_eq_true rfl) rfl (Nat.le_of_ble_eq_true rfl) (c_areHoursOn t) ?_
      refine Go.if_eqb_t (tgt := 18) dX8_lack_4 (by decide) h1 ?_
      refine Go.ldc dX8_lack_18 cnX8_76 ?_
      refine Go.ireturn .int dX8_lack_20 rfl rfl ?_
      exact ⟨rfl, Fr.rf _ _⟩
    · have hs5 : μ5 77 = s := (k5 77 (by decide)).trans hs
      show Go V (d + 6) mX9_lack 0 [some (vR 76), some (vI t), none, none, none] [] μ5 _
      refine Go.iload_n dX9_lack_0 rfl ?_
      refine Go.callSi [vI t] [] dX9_lack_1 lkX9_148 rfl (Nat.le_of_ble_eq_true rfl) rfl (Nat.le_of_ble_eq_true rfl) (m_isAhead t) ?_
      refine Go.if_neb_f (tgt := 10) dX9_lack_4 (by decide) h1 ?_
      refine Go.ldc dX9_lack_7 cnX9_98 ?_
      refine Go.ireturn .int dX9_lack_9 rfl rfl ?_
      exact ⟨rfl, Fr.rf _ _⟩
theorem op_houseTold {V : VV} {d : Nat} {μ : Memo} (hS : Sim μ) (hx : Int32) (w : Int32) : OpOK V (d + 3) mX8_houseTold mX9_houseTold [vI hx, vI w] μ := by
  obtain ⟨⟨hT, hCo, hKd, hO, hH⟩, hI, hX, -, -, -, hTp, hWt⟩ := id hS
  generalize hs : μ 77 = s at hT hCo hKd hO hH hI hX
  by_cases h1 : nI 0 ≤ hx ∧ hx ≤ s 0 - nI 1
  · skip
    obtain ⟨h, hh0, rfl⟩ := hou_of hH h1
    have hh : h < nH s := hh0
    have h8 := hH.1
    by_cases hw0 : w = nI 0
    · skip
      subst hw0
      refine OpOK.q (x := s (131 + 2 * h)) hS ?_ (fun μ5 k5 => ?_)
      · show Go V (d + 3) mX8_houseTold 0 [some (vR 0), some (vI (nI h)), some (vI (nI 0))] [] μ _
        refine Go.aload_n dX8_houseTold_0 rfl ?_
        refine Go.iload_n dX8_houseTold_1 rfl ?_
        refine Go.callVi 0 [vI (nI h)] [] dX8_houseTold_2 lkX8_173 (Or.inl ⟨_, _, _, rfl, rfl, rfl⟩) rfl (Nat.le_of_ble_eq_true rfl) rfl (Nat.le_of_ble_eq_true rfl) (c_isHouse hI (nI h)) ?_
        refine Go.if_neb_t (tgt := 11) dX8_houseTold_5 (by decide) h1 ?_
        refine Go.iload_n dX8_houseTold_11 rfl ?_
        refine Go.lswV (tgt := 40) (nI 0) rfl dX8_houseTold_12 (by decide) rfl (by decide) ?_
        refine Go.aload_n dX8_houseTold_40 rfl ?_
        refine Go.getR dX8_houseTold_41 flX8_21 rfl ?_
        refine Go.getR dX8_houseTold_44 flX8_176 rfl ?_
        refine Go.iload_n dX8_houseTold_47 rfl ?_
        refine Go.iaload h dX8_houseTold_48 rfl (by omega) rfl ?_
        refine Go.topE (s (131 + 2 * h)) (hI.2.2.1 h hh).1 ?_
        refine Go.ireturn .int dX8_houseTold_49 rfl rfl ?_
        exact ⟨rfl, Fr.rf _ _⟩
      · have hs5 : μ5 77 = s := (k5 77 (by decide)).trans hs
        show Go V (d + 3) mX9_houseTold 0 [some (vR 76), some (vI (nI h)), some (vI (nI 0))] [] μ5 _
        refine Go.aload_n dX9_houseTold_0 rfl ?_
        refine Go.iload_n dX9_houseTold_1 rfl ?_
        refine Go.callVi 76 [vI (nI h)] [] dX9_houseTold_2 lkX9_165 (Or.inl ⟨_, _, _, rfl, rfl, rfl⟩) rfl (Nat.le_of_ble_eq_true rfl) rfl (Nat.le_of_ble_eq_true rfl) (m_isHouse hs5 (nI h)) ?_
        refine Go.if_eqb_f (tgt := 18) dX9_houseTold_5 (by decide) h1 ?_
        refine Go.iload_n dX9_houseTold_8 rfl ?_
        refine Go.i2l dX9_houseTold_9 ?_
        refine Go.at 10 rfl ?_
        refine Go.lconst (v := (nI 0).toInt64) dX9_houseTold_10 rfl ?_
        refine Go.lconst (v := (nI 1).toInt64) dX9_houseTold_11 rfl ?_
        refine Go.callSi [vL ((nI 0).toInt64), vL ((nI 0).toInt64), vL ((nI 1).toInt64)] [] dX9_houseTold_12 lkX9_65 rfl (Nat.le_of_ble_eq_true rfl) rfl (Nat.le_of_ble_eq_true rfl) (m_isIn (nI 0) (nI 0) (nI 1)) ?_
        refine Go.if_neb_t (tgt := 21) dX9_houseTold_15 (by decide) (by decide) ?_
        refine Go.iload_n dX9_houseTold_21 rfl ?_
        refine Go.if_ne_f (tgt := 33) dX9_houseTold_22 (by decide) (by decide) ?_
        refine Go.at 25 rfl ?_
        refine Go.aload_n dX9_houseTold_25 rfl ?_
        refine Go.iload_n dX9_houseTold_26 rfl ?_
        refine Go.callVi 76 [vI (nI h)] [] dX9_houseTold_27 lkX9_168 (Or.inl ⟨_, _, _, rfl, rfl, rfl⟩) rfl (Nat.le_of_ble_eq_true rfl) rfl (Nat.le_of_ble_eq_true rfl) (m_many hs5 h (by omega)) ?_
        refine Go.goto (tgt := 41) dX9_houseTold_30 (by decide) ?_
        refine Go.ireturn .int dX9_houseTold_41 rfl rfl ?_
        exact ⟨rfl, Fr.rf _ _⟩
    · skip
      by_cases hw1 : w = nI 1
      · skip
        subst hw1
        refine OpOK.q (x := oN (s (131 + 2 * h + 1))) hS ?_ (fun μ5 k5 => ?_)
        · show Go V (d + 3) mX8_houseTold 0 [some (vR 0), some (vI (nI h)), some (vI (nI 1))] [] μ _
          refine Go.aload_n dX8_houseTold_0 rfl ?_
          refine Go.iload_n dX8_houseTold_1 rfl ?_
          refine Go.callVi 0 [vI (nI h)] [] dX8_houseTold_2 lkX8_173 (Or.inl ⟨_, _, _, rfl, rfl, rfl⟩) rfl (Nat.le_of_ble_eq_true rfl) rfl (Nat.le_of_ble_eq_true rfl) (c_isHouse hI (nI h)) ?_
          refine Go.if_neb_t (tgt := 11) dX8_houseTold_5 (by decide) h1 ?_
          refine Go.iload_n dX8_houseTold_11 rfl ?_
          refine Go.lswV (tgt := 50) (nI 1) rfl dX8_houseTold_12 (by decide) rfl (by decide) ?_
          refine Go.aload_n dX8_houseTold_50 rfl ?_
          refine Go.getR dX8_houseTold_51 flX8_21 rfl ?_
          refine Go.getR dX8_houseTold_54 flX8_179 rfl ?_
          refine Go.iload_n dX8_houseTold_57 rfl ?_
          refine Go.iaload h dX8_houseTold_58 rfl (by omega) rfl ?_
          refine Go.topE (oN (s (131 + 2 * h + 1))) (hI.2.2.1 h hh).2 ?_
          refine Go.ireturn .int dX8_houseTold_59 rfl rfl ?_
          exact ⟨rfl, Fr.rf _ _⟩
        · have hs5 : μ5 77 = s := (k5 77 (by decide)).trans hs
          show Go V (d + 3) mX9_houseTold 0 [some (vR 76), some (vI (nI h)), some (vI (nI 1))] [] μ5 _
          refine Go.aload_n dX9_houseTold_0 rfl ?_
          refine Go.iload_n dX9_houseTold_1 rfl ?_
          refine Go.callVi 76 [vI (nI h)] [] dX9_houseTold_2 lkX9_165 (Or.inl ⟨_, _, _, rfl, rfl, rfl⟩) rfl (Nat.le_of_ble_eq_true rfl) rfl (Nat.le_of_ble_eq_true rfl) (m_isHouse hs5 (nI h)) ?_
          refine Go.if_eqb_f (tgt := 18) dX9_houseTold_5 (by decide) h1 ?_
          refine Go.iload_n dX9_houseTold_8 rfl ?_
          refine Go.i2l dX9_houseTold_9 ?_
          refine Go.at 10 rfl ?_
          refine Go.lconst (v := (nI 0).toInt64) dX9_houseTold_10 rfl ?_
          refine Go.lconst (v := (nI 1).toInt64) dX9_houseTold_11 rfl ?_
          refine Go.callSi [vL ((nI 1).toInt64), vL ((nI 0).toInt64), vL ((nI 1).toInt64)] [] dX9_houseTold_12 lkX9_65 rfl (Nat.le_of_ble_eq_true rfl) rfl (Nat.le_of_ble_eq_true rfl) (m_isIn (nI 1) (nI 0) (nI 1)) ?_
          refine Go.if_neb_t (tgt := 21) dX9_houseTold_15 (by decide) (by decide) ?_
          refine Go.iload_n dX9_houseTold_21 rfl ?_
          refine Go.if_ne_t (tgt := 33) dX9_houseTold_22 (by decide) (by decide) ?_
          refine Go.at 33 rfl ?_
          refine Go.aload_n dX9_houseTold_33 rfl ?_
          refine Go.iload_n dX9_houseTold_34 rfl ?_
          refine Go.callVi 76 [vI (nI h)] [] dX9_houseTold_35 lkX9_171 (Or.inl ⟨_, _, _, rfl, rfl, rfl⟩) rfl (Nat.le_of_ble_eq_true rfl) rfl (Nat.le_of_ble_eq_true rfl) (m_where hs5 h (by omega)) ?_
          refine Go.callSi [vI (s (131 + 2 * h + 1))] [] dX9_houseTold_38 lkX9_112 rfl (Nat.le_of_ble_eq_true rfl) rfl (Nat.le_of_ble_eq_true rfl) (m_orNone (s (131 + 2 * h + 1))) ?_
          refine Go.ireturn .int dX9_houseTold_41 rfl rfl ?_
          exact ⟨rfl, Fr.rf _ _⟩
      · skip
        refine OpOK.q (x := (-1000000001)) hS ?_ (fun μ5 k5 => ?_)
        · show Go V (d + 3) mX8_houseTold 0 [some (vR 0), some (vI (nI h)), some (vI w)] [] μ _
          refine Go.aload_n dX8_houseTold_0 rfl ?_
          refine Go.iload_n dX8_houseTold_1 rfl ?_
          refine Go.callVi 0 [vI (nI h)] [] dX8_houseTold_2 lkX8_173 (Or.inl ⟨_, _, _, rfl, rfl, rfl⟩) rfl (Nat.le_of_ble_eq_true rfl) rfl (Nat.le_of_ble_eq_true rfl) (c_isHouse hI (nI h)) ?_
          refine Go.if_neb_t (tgt := 11) dX8_houseTold_5 (by decide) h1 ?_
          refine Go.iload_n dX8_houseTold_11 rfl ?_
          refine Go.lsw (tgt := 60) (off := 48) dX8_houseTold_12 (by decide) (by show Op.lookupswitch.offset [(0, 28), (1, 38)] 48 _ = (48 : Int); rw [lv_osw (a := 0) hw0 rfl, lv_osw (a := 1) hw1 rfl]; rfl) (by decide) ?_
          refine Go.ldc dX8_houseTold_60 cnX8_76 ?_
          refine Go.ireturn .int dX8_houseTold_62 rfl rfl ?_
          exact ⟨rfl, Fr.rf _ _⟩
        · have hs5 : μ5 77 = s := (k5 77 (by decide)).trans hs
          show Go V (d + 3) mX9_houseTold 0 [some (vR 76), some (vI (nI h)), some (vI w)] [] μ5 _
          refine Go.aload_n dX9_houseTold_0 rfl ?_
          refine Go.iload_n dX9_houseTold_1 rfl ?_
          refine Go.callVi 76 [vI (nI h)] [] dX9_houseTold_2 lkX9_165 (Or.inl ⟨_, _, _, rfl, rfl, rfl⟩) rfl (Nat.le_of_ble_eq_true rfl) rfl (Nat.le_of_ble_eq_true rfl) (m_isHouse hs5 (nI h)) ?_
          refine Go.if_eqb_f (tgt := 18) dX9_houseTold_5 (by decide) h1 ?_
          refine Go.iload_n dX9_houseTold_8 rfl ?_
          refine Go.i2l dX9_houseTold_9 ?_
          refine Go.at 10 rfl ?_
          refine Go.lconst (v := (nI 0).toInt64) dX9_houseTold_10 rfl ?_
          refine Go.lconst (v := (nI 1).toInt64) dX9_houseTold_11 rfl ?_
          refine Go.callSi [vL w.toInt64, vL ((nI 0).toInt64), vL ((nI 1).toInt64)] [] dX9_houseTold_12 lkX9_65 rfl (Nat.le_of_ble_eq_true rfl) rfl (Nat.le_of_ble_eq_true rfl) (m_isIn w (nI 0) (nI 1)) ?_
          refine Go.if_neb_f (tgt := 21) dX9_houseTold_15 (by decide) (by intro z; simp only [sI_le, sI_eq, nT] at *; omega) ?_
          refine Go.ldc dX9_houseTold_18 cnX9_98 ?_
          refine Go.ireturn .int dX9_houseTold_20 rfl rfl ?_
          exact ⟨rfl, Fr.rf _ _⟩
  · skip
    refine OpOK.q (x := (-1000000001)) hS ?_ (fun μ5 k5 => ?_)
    · show Go V (d + 3) mX8_houseTold 0 [some (vR 0), some (vI hx), some (vI w)] [] μ _
      refine Go.aload_n dX8_houseTold_0 rfl ?_
      refine Go.iload_n dX8_houseTold_1 rfl ?_
      refine Go.callVi 0 [vI hx] [] dX8_houseTold_2 lkX8_173 (Or.inl ⟨_, _, _, rfl, rfl, rfl⟩) rfl (Nat.le_of_ble_eq_true rfl) rfl (Nat.le_of_ble_eq_true rfl) (c_isHouse hI hx) ?_
      refine Go.if_neb_f (tgt := 11) dX8_houseTold_5 (by decide) h1 ?_
      refine Go.ldc dX8_houseTold_8 cnX8_76 ?_
      refine Go.ireturn .int dX8_houseTold_10 rfl rfl ?_
      exact ⟨rfl, Fr.rf _ _⟩
    · have hs5 : μ5 77 = s := (k5 77 (by decide)).trans hs
      show Go V (d + 3) mX9_houseTold 0 [some (vR 76), some (vI hx), some (vI w)] [] μ5 _
      refine Go.aload_n dX9_houseTold_0 rfl ?_
      refine Go.iload_n dX9_houseTold_1 rfl ?_
      refine Go.callVi 76 [vI hx] [] dX9_houseTold_2 lkX9_165 (Or.inl ⟨_, _, _, rfl, rfl, rfl⟩) rfl (Nat.le_of_ble_eq_true rfl) rfl (Nat.le_of_ble_eq_true rfl) (m_isHouse hs5 hx) ?_
      refine Go.if_eqb_t (tgt := 18) dX9_houseTold_5 (by decide) h1 ?_
      refine Go.ldc dX9_houseTold_18 cnX9_98 ?_
      refine Go.ireturn .int dX9_houseTold_20 rfl rfl ?_
      exact ⟨rfl, Fr.rf _ _⟩
theorem op_going {V : VV} {d : Nat} {μ : Memo} (hS : Sim μ) (hx : Int32) (cell : Int32) : OpOK V (d + 6) mX8_going mX9_going [vI hx, vI cell] μ := by
  obtain ⟨⟨hT, hCo, hKd, hO, hH⟩, hI, hX, -, -, -, hTp, hWt⟩ := id hS
  generalize hs : μ 77 = s at hT hCo hKd hO hH hI hX
  by_cases h1 : nI 0 ≤ hx ∧ hx ≤ s 0 - nI 1
  · skip
    obtain ⟨h, hh0, rfl⟩ := hou_of hH h1
    have hh : h < nH s := hh0
    have h8 := hH.1
    by_cases h2 : nI 0 ≤ cell ∧ cell ≤ nI 29
    · skip
      obtain ⟨c, hc0, rfl⟩ := in_nI (by decide) h2
      have hc : c < 30 := by omega
      by_cases hnow : s (131 + 2 * h + 1) = (-1)
      · skip
        refine OpOK.q (x := (-1000000002)) hS ?_ (fun μ5 k5 => ?_)
        · show Go V (d + 6) mX8_going 0 [some (vR 0), some (vI (nI h)), some (vI (nI c)), none] [] μ _
          refine Go.aload_n dX8_going_0 rfl ?_
          refine Go.iload_n dX8_going_1 rfl ?_
          refine Go.callVi 0 [vI (nI h)] [] dX8_going_2 lkX8_173 (Or.inl ⟨_, _, _, rfl, rfl, rfl⟩) rfl (Nat.le_of_ble_eq_true rfl) rfl (Nat.le_of_ble_eq_true rfl) (c_isHouse hI (nI h)) ?_
          refine Go.if_eqb_f (tgt := 15) dX8_going_5 (by decide) h1 ?_
          refine Go.iload_n dX8_going_8 rfl ?_
          refine Go.callSi [vI (nI c)] [] dX8_going_9 lkX8_65 rfl (Nat.le_of_ble_eq_true rfl) rfl (Nat.le_of_ble_eq_true rfl) (c_isCell (nI c)) ?_
          refine Go.at 12 rfl ?_
          refine Go.if_neb_t (tgt := 18) dX8_going_12 (by decide) h2 ?_
          refine Go.aload_n dX8_going_18 rfl ?_
          refine Go.getR dX8_going_19 flX8_21 rfl ?_
          refine Go.getR dX8_going_22 flX8_179 rfl ?_
          refine Go.iload_n dX8_going_25 rfl ?_
          refine Go.iaload h dX8_going_26 rfl (by omega) rfl ?_
          refine Go.topE (y := (-1000000005)) (by rw [(hI.2.2.1 h hh).2, hnow, oN_n1]) ?_
          refine Go.at 27 rfl ?_
          refine Go.istore_n (ls' := [some (vR 0), some (vI (nI h)), some (vI (nI c)), some (vI (-1000000005))]) dX8_going_27 (by decide) rfl ?_
          refine Go.iload_n dX8_going_28 rfl ?_
          refine Go.callSi [vI (-1000000005)] [] dX8_going_29 lkX8_65 rfl (Nat.le_of_ble_eq_true rfl) rfl (Nat.le_of_ble_eq_true rfl) (c_isCell (-1000000005)) ?_
          refine Go.if_eqb_t (tgt := 47) dX8_going_32 (by decide) (by decide) ?_
          refine Go.ldc dX8_going_47 cnX8_191 ?_
          refine Go.ireturn .int dX8_going_49 rfl rfl ?_
          exact ⟨rfl, Fr.rf _ _⟩
        · have hs5 : μ5 77 = s := (k5 77 (by decide)).trans hs
          show Go V (d + 6) mX9_going 0 [some (vR 76), some (vI (nI h)), some (vI (nI c)), none, none] [] μ5 _
          refine Go.aload_n dX9_going_0 rfl ?_
          refine Go.iload_n dX9_going_1 rfl ?_
          refine Go.callVi 76 [vI (nI h)] [] dX9_going_2 lkX9_165 (Or.inl ⟨_, _, _, rfl, rfl, rfl⟩) rfl (Nat.le_of_ble_eq_true rfl) rfl (Nat.le_of_ble_eq_true rfl) (m_isHouse hs5 (nI h)) ?_
          refine Go.if_eqb_f (tgt := 15) dX9_going_5 (by decide) h1 ?_
          refine Go.iload_n dX9_going_8 rfl ?_
          refine Go.callSi [vI (nI c)] [] dX9_going_9 lkX9_90 rfl (Nat.le_of_ble_eq_true rfl) rfl (Nat.le_of_ble_eq_true rfl) (m_isCell (nI c)) ?_
          refine Go.at 12 rfl ?_
          refine Go.if_neb_t (tgt := 18) dX9_going_12 (by decide) h2 ?_
          refine Go.aload_n dX9_going_18 rfl ?_
          refine Go.iload_n dX9_going_19 rfl ?_
          refine Go.callVi 76 [vI (nI h)] [] dX9_going_20 lkX9_171 (Or.inl ⟨_, _, _, rfl, rfl, rfl⟩) rfl (Nat.le_of_ble_eq_true rfl) rfl (Nat.le_of_ble_eq_true rfl) (m_where hs5 h (by omega)) ?_
          refine Go.topE (y := (-1)) hnow ?_
          refine Go.if_ge_f (tgt := 29) dX9_going_23 (by decide) (by decide) ?_
          refine Go.ldc dX9_going_26 cnX9_177 ?_
          refine Go.at 28 rfl ?_
          refine Go.ireturn .int dX9_going_28 rfl rfl ?_
          exact ⟨rfl, Fr.rf _ _⟩
      · skip
        obtain ⟨q, hq, eq⟩ : ∃ q, q < 30 ∧ s (131 + 2 * h + 1) = nI q := (hH.2.2 h hh).resolve_left hnow
        refine OpOK.q (x := goF s c 49 0 (nI 1 <<< (nI q &&& 31))) hS ?_ (fun μ5 k5 => ?_)
        · show Go V (d + 6) mX8_going 0 [some (vR 0), some (vI (nI h)), some (vI (nI c)), none] [] μ _
          refine Go.aload_n dX8_going_0 rfl ?_
          refine Go.iload_n dX8_going_1 rfl ?_
          refine Go.callVi 0 [vI (nI h)] [] dX8_going_2 lkX8_173 (Or.inl ⟨_, _, _, rfl, rfl, rfl⟩) rfl (Nat.le_of_ble_eq_true rfl) rfl (Nat.le_of_ble_eq_true rfl) (c_isHouse hI (nI h)) ?_
          refine Go.if_eqb_f (tgt := 15) dX8_going_5 (by decide) h1 ?_
          refine Go.iload_n dX8_going_8 rfl ?_
          refine Go.callSi [vI (nI c)] [] dX8_going_9 lkX8_65 rfl (Nat.le_of_ble_eq_true rfl) rfl (Nat.le_of_ble_eq_true rfl) (c_isCell (nI c)) ?_
          refine Go.at 12 rfl ?_
          refine Go.if_neb_t (tgt := 18) dX8_going_12 (by decide) h2 ?_
          refine Go.aload_n dX8_going_18 rfl ?_
          refine Go.getR dX8_going_19 flX8_21 rfl ?_
          refine Go.getR dX8_going_22 flX8_179 rfl ?_
          refine Go.iload_n dX8_going_25 rfl ?_
          refine Go.iaload h dX8_going_26 rfl (by omega) rfl ?_
          refine Go.topE (y := nI q) (by rw [(hI.2.2.1 h hh).2, eq, oN_n (by omega)]) ?_
          refine Go.at 27 rfl ?_
          refine Go.istore_n (ls' := [some (vR 0), some (vI (nI h)), some (vI (nI c)), some (vI (nI q))]) dX8_going_27 (by decide) rfl ?_
          refine Go.iload_n dX8_going_28 rfl ?_
          refine Go.callSi [vI (nI q)] [] dX8_going_29 lkX8_65 rfl (Nat.le_of_ble_eq_true rfl) rfl (Nat.le_of_ble_eq_true rfl) (c_isCell (nI q)) ?_
          refine Go.if_eqb_f (tgt := 47) dX8_going_32 (by decide) (nI_in2 (by omega) (by decide)) ?_
          refine Go.aload_n dX8_going_35 rfl ?_
          refine Go.getR dX8_going_36 flX8_21 rfl ?_
          refine Go.at 39 rfl ?_
          refine Go.iload_n dX8_going_39 rfl ?_
          refine Go.iload_n dX8_going_40 rfl ?_
          refine Go.callVx 7 [vI (nI q), vI (nI c)] [] dX8_going_41 lkX8_188 (Or.inl ⟨_, _, _, rfl, rfl, rfl⟩) rfl (Nat.le_of_ble_eq_true rfl) rfl (Nat.le_of_ble_eq_true rfl) (c_going isB7 hI hX hT q c (by omega)) (fun μ1 k1 => ?_)
          have hI1 : Isl 7 μ1 s := hI.fr isB7 k1
          have hX1 : Txr μ1 s := hX.fr hT.1 k1
          refine Go.goto (tgt := 49) dX8_going_44 (by decide) ?_
          refine Go.ireturn .int dX8_going_49 rfl rfl ?_
          exact ⟨rfl, k1⟩
        · have hs5 : μ5 77 = s := (k5 77 (by decide)).trans hs
          show Go V (d + 6) mX9_going 0 [some (vR 76), some (vI (nI h)), some (vI (nI c)), none, none] [] μ5 _
          refine Go.aload_n dX9_going_0 rfl ?_
          refine Go.iload_n dX9_going_1 rfl ?_
          refine Go.callVi 76 [vI (nI h)] [] dX9_going_2 lkX9_165 (Or.inl ⟨_, _, _, rfl, rfl, rfl⟩) rfl (Nat.le_of_ble_eq_true rfl) rfl (Nat.le_of_ble_eq_true rfl) (m_isHouse hs5 (nI h)) ?_
          refine Go.if_eqb_f (tgt := 15) dX9_going_5 (by decide) h1 ?_
          refine Go.iload_n dX9_going_8 rfl ?_
          refine Go.callSi [vI (nI c)] [] dX9_going_9 lkX9_90 rfl (Nat.le_of_ble_eq_true rfl) rfl (Nat.le_of_ble_eq_true rfl) (m_isCell (nI c)) ?_
          refine Go.at 12 rfl ?_
          refine Go.if_neb_t (tgt := 18) dX9_going_12 (by decide) h2 ?_
          refine Go.aload_n dX9_going_18 rfl ?_
          refine Go.iload_n dX9_going_19 rfl ?_
          refine Go.callVi 76 [vI (nI h)] [] dX9_going_20 lkX9_171 (Or.inl ⟨_, _, _, rfl, rfl, rfl⟩) rfl (Nat.le_of_ble_eq_true rfl) rfl (Nat.le_of_ble_eq_true rfl) (m_where hs5 h (by omega)) ?_
          refine Go.topE (y := nI q) eq ?_
          refine Go.if_ge_t (tgt := 29) dX9_going_23 (by decide) (nI_pos' (by omega)) ?_
          refine Go.iconst (v := nI 1) dX9_going_29 rfl ?_
          refine Go.at 30 rfl ?_
          refine Go.aload_n dX9_going_30 rfl ?_
          refine Go.iload_n dX9_going_31 rfl ?_
          refine Go.callVi 76 [vI (nI h)] [vI (nI 1)] dX9_going_32 lkX9_171 (Or.inl ⟨_, _, _, rfl, rfl, rfl⟩) rfl (Nat.le_of_ble_eq_true rfl) rfl (Nat.le_of_ble_eq_true rfl) (m_where hs5 h (by omega)) ?_
          refine Go.topE (y := nI q) eq ?_
          refine Go.ishl dX9_going_35 ?_
          refine Go.aload_n dX9_going_36 rfl ?_
          refine Go.iconst (v := nI 0) dX9_going_37 rfl ?_
          refine Go.at 38 rfl ?_
          refine Go.callVx 76 [vI (nI 0)] [vI ((nI 1) <<< ((nI q) &&& 31))] dX9_going_38 lkX9_131 (Or.inl ⟨_, _, _, rfl, rfl, rfl⟩) rfl (Nat.le_of_ble_eq_true rfl) rfl (Nat.le_of_ble_eq_true rfl) (m_dry hs5 hT (nI 0)) (fun μ1 k1 => ?_)
          have hs1 : μ1 77 = s := (k1 77 (by decide)).trans hs5
          refine Go.iand dX9_going_41 ?_
          refine Go.istore_n (ls' := [some (vR 76), some (vI (nI h)), some (vI (nI c)), some (vI (((nI 1) <<< ((nI q) &&& 31)) &&& (dryF s (nI 0)))), none]) dX9_going_42 (by decide) rfl ?_
          refine Go.iconst (v := nI 0) dX9_going_43 rfl ?_
          refine Go.istore (ls' := [some (vR 76), some (vI (nI h)), some (vI (nI c)), some (vI (((nI 1) <<< ((nI q) &&& 31)) &&& (dryF s (nI 0)))), some (vI (nI 0))]) dX9_going_44 (by decide) rfl ?_
          exact Go.mono (m_going_lp hs1 hT _ c hc 49 0 _ μ1 (by omega) (Fr.rf _ _)) (fun r m2 q => ⟨q.1, (k1.trans q.2).wide (by decide)⟩)
    · skip
      refine OpOK.q (x := (-1000000001)) hS ?_ (fun μ5 k5 => ?_)
      · show Go V (d + 6) mX8_going 0 [some (vR 0), some (vI (nI h)), some (vI cell), none] [] μ _
        refine Go.aload_n dX8_going_0 rfl ?_
        refine Go.iload_n dX8_going_1 rfl ?_
        refine Go.callVi 0 [vI (nI h)] [] dX8_going_2 lkX8_173 (Or.inl ⟨_, _, _, rfl, rfl, rfl⟩) rfl (Nat.le_of_ble_eq_true rfl) rfl (Nat.le_of_ble_eq_true rfl) (c_isHouse hI (nI h)) ?_
        refine Go.if_eqb_f (tgt := 15) dX8_going_5 (by decide) h1 ?_
        refine Go.iload_n dX8_going_8 rfl ?_
        refine Go.callSi [vI cell] [] dX8_going_9 lkX8_65 rfl (Nat.le_of_ble_eq_true rfl) rfl (Nat.le_of_ble_eq_true rfl) (c_isCell cell) ?_
        refine Go.at 12 rfl ?_
        refine Go.if_neb_f (tgt := 18) dX8_going_12 (by decide) h2 ?_
        refine Go.ldc dX8_going_15 cnX8_76 ?_
        refine Go.ireturn .int dX8_going_17 rfl rfl ?_
        exact ⟨rfl, Fr.rf _ _⟩
      · have hs5 : μ5 77 = s := (k5 77 (by decide)).trans hs
        show Go V (d + 6) mX9_going 0 [some (vR 76), some (vI (nI h)), some (vI cell), none, none] [] μ5 _
        refine Go.aload_n dX9_going_0 rfl ?_
        refine Go.iload_n dX9_going_1 rfl ?_
        refine Go.callVi 76 [vI (nI h)] [] dX9_going_2 lkX9_165 (Or.inl ⟨_, _, _, rfl, rfl, rfl⟩) rfl (Nat.le_of_ble_eq_true rfl) rfl (Nat.le_of_ble_eq_true rfl) (m_isHouse hs5 (nI h)) ?_
        refine Go.if_eqb_f (tgt := 15) dX9_going_5 (by decide) h1 ?_
        refine Go.iload_n dX9_going_8 rfl ?_
        refine Go.callSi [vI cell] [] dX9_going_9 lkX9_90 rfl (Nat.le_of_ble_eq_true rfl) rfl (Nat.le_of_ble_eq_true rfl) (m_isCell cell) ?_
        refine Go.at 12 rfl ?_
        refine Go.if_neb_f (tgt := 18) dX9_going_12 (by decide) h2 ?_
        refine Go.ldc dX9_going_15 cnX9_98 ?_
        refine Go.ireturn .int dX9_going_17 rfl rfl ?_
        exact ⟨rfl, Fr.rf _ _⟩
  · skip
    refine OpOK.q (x := (-1000000001)) hS ?_ (fun μ5 k5 => ?_)
    · show Go V (d + 6) mX8_going 0 [some (vR 0), some (vI hx), some (vI cell), none] [] μ _
      refine Go.aload_n dX8_going_0 rfl ?_
      refine Go.iload_n dX8_going_1 rfl ?_
      refine Go.callVi 0 [vI hx] [] dX8_going_2 lkX8_173 (Or.inl ⟨_, _, _, rfl, rfl, rfl⟩) rfl (Nat.le_of_ble_eq_true rfl) rfl (Nat.le_of_ble_eq_true rfl) (c_isHouse hI hx) ?_
      refine Go.if_eqb_t (tgt := 15) dX8_going_5 (by decide) h1 ?_
      refine Go.ldc dX8_going_15 cnX8_76 ?_
      refine Go.ireturn .int dX8_going_17 rfl rfl ?_
      exact ⟨rfl, Fr.rf _ _⟩
    · have hs5 : μ5 77 = s := (k5 77 (by decide)).trans hs
      show Go V (d + 6) mX9_going 0 [some (vR 76), some (vI hx), some (vI cell), none, none] [] μ5 _
      refine Go.aload_n dX9_going_0 rfl ?_
      refine Go.iload_n dX9_going_1 rfl ?_
      refine Go.callVi 76 [vI hx] [] dX9_going_2 lkX9_165 (Or.inl ⟨_, _, _, rfl, rfl, rfl⟩) rfl (Nat.le_of_ble_eq_true rfl) rfl (Nat.le_of_ble_eq_true rfl) (m_isHouse hs5 hx) ?_
      refine Go.if_eqb_t (tgt := 15) dX9_going_5 (by decide) h1 ?_
      refine Go.ldc dX9_going_15 cnX9_98 ?_
      refine Go.ireturn .int dX9_going_17 rfl rfl ?_
      exact ⟨rfl, Fr.rf _ _⟩
theorem op_textTold {V : VV} {d : Nat} {μ : Memo} (hS : Sim μ) (tx : Int32) (w : Int32) : OpOK V (d + 3) mX8_textTold mX9_textTold [vI tx, vI w] μ := by
  obtain ⟨⟨hT, hCo, hKd, hO, hH⟩, hI, hX, -, -, -, hTp, hWt⟩ := id hS
  generalize hs : μ 77 = s at hT hCo hKd hO hH hI hX
  by_cases h1 : nI 0 ≤ tx ∧ tx ≤ s 1 - nI 1
  · skip
    obtain ⟨t, ht, rfl⟩ := txt_of hT h1
    have h14 := hT.1
    by_cases hw0 : w = nI 0
    · skip
      subst hw0
      refine OpOK.q (x := s (147 + 200 * t)) hS ?_ (fun μ5 k5 => ?_)
      · show Go V (d + 3) mX8_textTold 0 [some (vR 0), some (vI (nI t)), some (vI (nI 0))] [] μ _
        refine Go.iload_n dX8_textTold_0 rfl ?_
        refine Go.iconst (v := nI 0) dX8_textTold_1 rfl ?_
        refine Go.aload_n dX8_textTold_2 rfl ?_
        refine Go.getR dX8_textTold_3 flX8_21 rfl ?_
        refine Go.getI dX8_textTold_6 flX8_211 rfl ?_
        refine Go.topE (s 1) hI.2.2.2.2.2.2.2 ?_
        refine Go.iconst (v := nI 1) dX8_textTold_9 rfl ?_
        refine Go.at 10 rfl ?_
        refine Go.isub dX8_textTold_10 ?_
        refine Go.callSi [vI (nI t), vI (nI 0), vI ((s 1) - (nI 1))] [] dX8_textTold_11 lkX8_72 rfl (Nat.le_of_ble_eq_true rfl) rfl (Nat.le_of_ble_eq_true rfl) (c_within (nI t) (nI 0) ((s 1) - (nI 1))) ?_
        refine Go.if_neb_t (tgt := 20) dX8_textTold_14 (by decide) h1 ?_
        refine Go.iload_n dX8_textTold_20 rfl ?_
        refine Go.lswV (tgt := 48) (nI 0) rfl dX8_textTold_21 (by decide) rfl (by decide) ?_
        refine Go.aload_n dX8_textTold_48 rfl ?_
        refine Go.getR dX8_textTold_49 flX8_10 rfl ?_
        refine Go.getR dX8_textTold_52 flX8_218 rfl ?_
        refine Go.iload_n dX8_textTold_55 rfl ?_
        refine Go.iaload t dX8_textTold_56 rfl (by omega) rfl ?_
        refine Go.topE (y := s (147 + 200 * t)) (hX t ht).1 ?_
        refine Go.ireturn .int dX8_textTold_57 rfl rfl ?_
        exact ⟨rfl, Fr.rf _ _⟩
      · have hs5 : μ5 77 = s := (k5 77 (by decide)).trans hs
        show Go V (d + 3) mX9_textTold 0 [some (vR 76), some (vI (nI t)), some (vI (nI 0))] [] μ5 _
        refine Go.aload_n dX9_textTold_0 rfl ?_
        refine Go.iload_n dX9_textTold_1 rfl ?_
        refine Go.callVi 76 [vI (nI t)] [] dX9_textTold_2 lkX9_276 (Or.inl ⟨_, _, _, rfl, rfl, rfl⟩) rfl (Nat.le_of_ble_eq_true rfl) rfl (Nat.le_of_ble_eq_true rfl) (m_isText hs5 (nI t)) ?_
        refine Go.if_eqb_f (tgt := 18) dX9_textTold_5 (by decide) h1 ?_
        refine Go.iload_n dX9_textTold_8 rfl ?_
        refine Go.i2l dX9_textTold_9 ?_
        refine Go.at 10 rfl ?_
        refine Go.lconst (v := (nI 0).toInt64) dX9_textTold_10 rfl ?_
        refine Go.lconst (v := (nI 1).toInt64) dX9_textTold_11 rfl ?_
        refine Go.callSi [vL ((nI 0).toInt64), vL ((nI 0).toInt64), vL ((nI 1).toInt64)] [] dX9_textTold_12 lkX9_65 rfl (Nat.le_of_ble_eq_true rfl) rfl (Nat.le_of_ble_eq_true rfl) (m_isIn (nI 0) (nI 0) (nI 1)) ?_
        refine Go.if_neb_t (tgt := 21) dX9_textTold_15 (by decide) (by decide) ?_
        refine Go.aload_n dX9_textTold_21 rfl ?_
        refine Go.getR dX9_textTold_22 flX9_7 rfl ?_
        refine Go.at 25 rfl ?_
        refine Go.aload_n dX9_textTold_25 rfl ?_
        refine Go.iload_n dX9_textTold_26 rfl ?_
        refine Go.callVi 76 [vI (nI t)] [vR 77] dX9_textTold_27 lkX9_267 (Or.inl ⟨_, _, _, rfl, rfl, rfl⟩) rfl (Nat.le_of_ble_eq_true rfl) rfl (Nat.le_of_ble_eq_true rfl) (m_textAt t) ?_
        refine Go.iload_n dX9_textTold_30 rfl ?_
        refine Go.iaddN dX9_textTold_31 ?_
        refine Go.iaload ((147 + (200 * t)) + 0) dX9_textTold_32 rfl (by omega) rfl ?_
        refine Go.topE (s ((147 + (200 * t)) + 0)) (congrFun hs5 _) ?_
        refine Go.at 33 rfl ?_
        refine Go.ireturn .int dX9_textTold_33 rfl rfl ?_
        exact ⟨rfl, Fr.rf _ _⟩
    · skip
      by_cases hw1 : w = nI 1
      · skip
        subst hw1
        refine OpOK.q (x := s (147 + 200 * t + 1)) hS ?_ (fun μ5 k5 => ?_)
        · show Go V (d + 3) mX8_textTold 0 [some (vR 0), some (vI (nI t)), some (vI (nI 1))] [] μ _
          refine Go.iload_n dX8_textTold_0 rfl ?_
          refine Go.iconst (v := nI 0) dX8_textTold_1 rfl ?_
          refine Go.aload_n dX8_textTold_2 rfl ?_
          refine Go.getR dX8_textTold_3 flX8_21 rfl ?_
          refine Go.getI dX8_textTold_6 flX8_211 rfl ?_
          refine Go.topE (s 1) hI.2.2.2.2.2.2.2 ?_
          refine Go.iconst (v := nI 1) dX8_textTold_9 rfl ?_
          refine Go.at 10 rfl ?_
          refine Go.isub dX8_textTold_10 ?_
          refine Go.callSi [vI (nI t), vI (nI 0), vI ((s 1) - (nI 1))] [] dX8_textTold_11 lkX8_72 rfl (Nat.le_of_ble_eq_true rfl) rfl (Nat.le_of_ble_eq_true rfl) (c_within (nI t) (nI 0) ((s 1) - (nI 1))) ?_
          refine Go.if_neb_t (tgt := 20) dX8_textTold_14 (by decide) h1 ?_
          refine Go.iload_n dX8_textTold_20 rfl ?_
          refine Go.lswV (tgt := 58) (nI 1) rfl dX8_textTold_21 (by decide) rfl (by decide) ?_
          refine Go.aload_n dX8_textTold_58 rfl ?_
          refine Go.getR dX8_textTold_59 flX8_10 rfl ?_
          refine Go.getR dX8_textTold_62 flX8_221 rfl ?_
          refine Go.iload_n dX8_textTold_65 rfl ?_
          refine Go.iaload t dX8_textTold_66 rfl (by omega) rfl ?_
          refine Go.topE (y := s (147 + 200 * t + 1)) (hX t ht).2.1 ?_
          refine Go.ireturn .int dX8_textTold_67 rfl rfl ?_
          exact ⟨rfl, Fr.rf _ _⟩
        · have hs5 : μ5 77 = s := (k5 77 (by decide)).trans hs
          show Go V (d + 3) mX9_textTold 0 [some (vR 76), some (vI (nI t)), some (vI (nI 1))] [] μ5 _
          refine Go.aload_n dX9_textTold_0 rfl ?_
          refine Go.iload_n dX9_textTold_1 rfl ?_
          refine Go.callVi 76 [vI (nI t)] [] dX9_textTold_2 lkX9_276 (Or.inl ⟨_, _, _, rfl, rfl, rfl⟩) rfl (Nat.le_of_ble_eq_true rfl) rfl (Nat.le_of_ble_eq_true rfl) (m_isText hs5 (nI t)) ?_
          refine Go.if_eqb_f (tgt := 18) dX9_textTold_5 (by decide) h1 ?_
          refine Go.iload_n dX9_textTold_8 rfl ?_
          refine Go.i2l dX9_textTold_9 ?_
          refine Go.at 10 rfl ?_
          refine Go.lconst (v := (nI 0).toInt64) dX9_textTold_10 rfl ?_
          refine Go.lconst (v := (nI 1).toInt64) dX9_textTold_11 rfl ?_
          refine Go.callSi [vL ((nI 1).toInt64), vL ((nI 0).toInt64), vL ((nI 1).toInt64)] [] dX9_textTold_12 lkX9_65 rfl (Nat.le_of_ble_eq_true rfl) rfl (Nat.le_of_ble_eq_true rfl) (m_isIn (nI 1) (nI 0) (nI 1)) ?_
          refine Go.if_neb_t (tgt := 21) dX9_textTold_15 (by decide) (by decide) ?_
          refine Go.aload_n dX9_textTold_21 rfl ?_
          refine Go.getR dX9_textTold_22 flX9_7 rfl ?_
          refine Go.at 25 rfl ?_
          refine Go.aload_n dX9_textTold_25 rfl ?_
          refine Go.iload_n dX9_textTold_26 rfl ?_
          refine Go.callVi 76 [vI (nI t)] [vR 77] dX9_textTold_27 lkX9_267 (Or.inl ⟨_, _, _, rfl, rfl, rfl⟩) rfl (Nat.le_of_ble_eq_true rfl) rfl (Nat.le_of_ble_eq_true rfl) (m_textAt t) ?_
          refine Go.iload_n dX9_textTold_30 rfl ?_
          refine Go.iaddN dX9_textTold_31 ?_
          refine Go.iaload ((147 + (200 * t)) + 1) dX9_textTold_32 rfl (by omega) rfl ?_
          refine Go.topE (s ((147 + (200 * t)) + 1)) (congrFun hs5 _) ?_
          refine Go.at 33 rfl ?_
          refine Go.ireturn .int dX9_textTold_33 rfl rfl ?_
          exact ⟨rfl, Fr.rf _ _⟩
      · skip
        refine OpOK.q (x := (-1000000001)) hS ?_ (fun μ5 k5 => ?_)
        · show Go V (d + 3) mX8_textTold 0 [some (vR 0), some (vI (nI t)), some (vI w)] [] μ _
          refine Go.iload_n dX8_textTold_0 rfl ?_
          refine Go.iconst (v := nI 0) dX8_textTold_1 rfl ?_
          refine Go.aload_n dX8_textTold_2 rfl ?_
          refine Go.getR dX8_textTold_3 flX8_21 rfl ?_
          refine Go.getI dX8_textTold_6 flX8_211 rfl ?_
          refine Go.topE (s 1) hI.2.2.2.2.2.2.2 ?_
          refine Go.iconst (v := nI 1) dX8_textTold_9 rfl ?_
          refine Go.at 10 rfl ?_
          refine Go.isub dX8_textTold_10 ?_
          refine Go.callSi [vI (nI t), vI (nI 0), vI ((s 1) - (nI 1))] [] dX8_textTold_11 lkX8_72 rfl (Nat.le_of_ble_eq_true rfl) rfl (Nat.le_of_ble_eq_true rfl) (c_within (nI t) (nI 0) ((s 1) - (nI 1))) ?_
          refine Go.if_neb_t (tgt := 20) dX8_textTold_14 (by decide) h1 ?_
          refine Go.iload_n dX8_textTold_20 rfl ?_
          refine Go.lsw (tgt := 68) (off := 47) dX8_textTold_21 (by decide) (by show Op.lookupswitch.offset [(0, 27), (1, 37)] 47 _ = (47 : Int); rw [lv_osw (a := 0) hw0 rfl, lv_osw (a := 1) hw1 rfl]; rfl) (by decide) ?_
          refine Go.ldc dX8_textTold_68 cnX8_76 ?_
          refine Go.ireturn .int dX8_textTold_70 rfl rfl ?_
          exact ⟨rfl, Fr.rf _ _⟩
        · have hs5 : μ5 77 = s := (k5 77 (by decide)).trans hs
          show Go V (d + 3) mX9_textTold 0 [some (vR 76), some (vI (nI t)), some (vI w)] [] μ5 _
          refine Go.aload_n dX9_textTold_0 rfl ?_
          refine Go.iload_n dX9_textTold_1 rfl ?_
          refine Go.callVi 76 [vI (nI t)] [] dX9_textTold_2 lkX9_276 (Or.inl ⟨_, _, _, rfl, rfl, rfl⟩) rfl (Nat.le_of_ble_eq_true rfl) rfl (Nat.le_of_ble_eq_true rfl) (m_isText hs5 (nI t)) ?_
          refine Go.if_eqb_f (tgt := 18) dX9_textTold_5 (by decide) h1 ?_
          refine Go.iload_n dX9_textTold_8 rfl ?_
          refine Go.i2l dX9_textTold_9 ?_
          refine Go.at 10 rfl ?_
          refine Go.lconst (v := (nI 0).toInt64) dX9_textTold_10 rfl ?_
          refine Go.lconst (v := (nI 1).toInt64) dX9_textTold_11 rfl ?_
          refine Go.callSi [vL w.toInt64, vL ((nI 0).toInt64), vL ((nI 1).toInt64)] [] dX9_textTold_12 lkX9_65 rfl (Nat.le_of_ble_eq_true rfl) rfl (Nat.le_of_ble_eq_true rfl) (m_isIn w (nI 0) (nI 1)) ?_
          refine Go.if_neb_f (tgt := 21) dX9_textTold_15 (by decide) (by intro z; simp only [sI_le, sI_eq, nT] at *; omega) ?_
          refine Go.ldc dX9_textTold_18 cnX9_98 ?_
          refine Go.ireturn .int dX9_textTold_20 rfl rfl ?_
          exact ⟨rfl, Fr.rf _ _⟩
  · skip
    refine OpOK.q (x := (-1000000001)) hS ?_ (fun μ5 k5 => ?_)
    · show Go V (d + 3) mX8_textTold 0 [some (vR 0), some (vI tx), some (vI w)] [] μ _
      refine Go.iload_n dX8_textTold_0 rfl ?_
      refine Go.iconst (v := nI 0) dX8_textTold_1 rfl ?_
      refine Go.aload_n dX8_textTold_2 rfl ?_
      refine Go.getR dX8_textTold_3 flX8_21 rfl ?_
      refine Go.getI dX8_textTold_6 flX8_211 rfl ?_
      refine Go.topE (s 1) hI.2.2.2.2.2.2.2 ?_
      refine Go.iconst (v := nI 1) dX8_textTold_9 rfl ?_
      refine Go.at 10 rfl ?_
      refine Go.isub dX8_textTold_10 ?_
      refine Go.callSi [vI tx, vI (nI 0), vI ((s 1) - (nI 1))] [] dX8_textTold_11 lkX8_72 rfl (Nat.le_of_ble_eq_true rfl) rfl (Nat.le_of_ble_eq_true rfl) (c_within tx (nI 0) ((s 1) - (nI 1))) ?_
      refine Go.if_neb_f (tgt := 20) dX8_textTold_14 (by decide) h1 ?_
      refine Go.ldc dX8_textTold_17 cnX8_76 ?_
      refine Go.ireturn .int dX8_textTold_19 rfl rfl ?_
      exact ⟨rfl, Fr.rf _ _⟩
    · have hs5 : μ5 77 = s := (k5 77 (by decide)).trans hs
      show Go V (d + 3) mX9_textTold 0 [some (vR 76), some (vI tx), some (vI w)] [] μ5 _
      refine Go.aload_n dX9_textTold_0 rfl ?_
      refine Go.iload_n dX9_textTold_1 rfl ?_
      refine Go.callVi 76 [vI tx] [] dX9_textTold_2 lkX9_276 (Or.inl ⟨_, _, _, rfl, rfl, rfl⟩) rfl (Nat.le_of_ble_eq_true rfl) rfl (Nat.le_of_ble_eq_true rfl) (m_isText hs5 tx) ?_
      refine Go.if_eqb_t (tgt := 18) dX9_textTold_5 (by decide) h1 ?_
      refine Go.ldc dX9_textTold_18 cnX9_98 ?_
      refine Go.ireturn .int dX9_textTold_20 rfl rfl ?_
      exact ⟨rfl, Fr.rf _ _⟩
theorem op_why {V : VV} {d : Nat} {μ : Memo} (hS : Sim μ) (k : Int32) : OpOK V (d + 3) mX8_why mX9_why [vI k] μ := by
  obtain ⟨⟨hT, hCo, hKd, hO, hH⟩, hI, hX, -, -, -, hTp, hWt⟩ := id hS
  generalize hs : μ 77 = s at hT hCo hKd hO hH hI hX
  by_cases h1 : nI 0 ≤ k ∧ k ≤ nI 2
  · skip
    refine OpOK.q (x := oN (oI (lawN s k (nX s)))) hS ?_ (fun μ5 k5 => ?_)
    · show Go V (d + 3) mX8_why 0 [some (vR 0), some (vI k)] [] μ _
      refine Go.iload_n dX8_why_0 rfl ?_
      refine Go.iconst (v := nI 0) dX8_why_1 rfl ?_
      refine Go.iconst (v := nI 2) dX8_why_2 rfl ?_
      refine Go.callSi [vI k, vI (nI 0), vI (nI 2)] [] dX8_why_3 lkX8_72 rfl (Nat.le_of_ble_eq_true rfl) rfl (Nat.le_of_ble_eq_true rfl) (c_within k (nI 0) (nI 2)) ?_
      refine Go.if_eqb_f (tgt := 27) dX8_why_6 (by decide) h1 ?_
      refine Go.aload_n dX8_why_9 rfl ?_
      refine Go.at 10 rfl ?_
      refine Go.getR dX8_why_10 flX8_10 rfl ?_
      refine Go.iload_n dX8_why_13 rfl ?_
      refine Go.aload_n dX8_why_14 rfl ?_
      refine Go.getR dX8_why_15 flX8_21 rfl ?_
      refine Go.getI dX8_why_18 flX8_211 rfl ?_
      refine Go.topE (y := nI (nX s)) (hI.2.2.2.2.2.2.2.trans hT.2.1) ?_
      refine Go.callVi 1 [vI k, vI (nI (nX s))] [] dX8_why_21 lkX8_224 (Or.inl ⟨_, _, _, rfl, rfl, rfl⟩) rfl (Nat.le_of_ble_eq_true rfl) rfl (Nat.le_of_ble_eq_true rfl) (c_lastOf k (nX s) hT.1 (fun t ht => (hX t ht).1)) ?_
      refine Go.at 24 rfl ?_
      refine Go.goto (tgt := 29) dX8_why_24 (by decide) ?_
      refine Go.ireturn .int dX8_why_29 rfl rfl ?_
      exact ⟨rfl, Fr.rf _ _⟩
    · have hs5 : μ5 77 = s := (k5 77 (by decide)).trans hs
      show Go V (d + 3) mX9_why 0 [some (vR 76), some (vI k)] [] μ5 _
      refine Go.iload_n dX9_why_0 rfl ?_
      refine Go.i2l dX9_why_1 ?_
      refine Go.lconst (v := (nI 0).toInt64) dX9_why_2 rfl ?_
      refine Go.ldc2 (v := (nI 2).toInt64) dX9_why_3 clX9_151 ?_
      refine Go.callSi [vL k.toInt64, vL ((nI 0).toInt64), vL ((nI 2).toInt64)] [] dX9_why_6 lkX9_65 rfl (Nat.le_of_ble_eq_true rfl) rfl (Nat.le_of_ble_eq_true rfl) (m_isIn k (nI 0) (nI 2)) ?_
      refine Go.if_eqb_f (tgt := 23) dX9_why_9 (by decide) h1 ?_
      refine Go.at 12 rfl ?_
      refine Go.aload_n dX9_why_12 rfl ?_
      refine Go.iload_n dX9_why_13 rfl ?_
      refine Go.callVi 76 [vI k] [] dX9_why_14 lkX9_74 (Or.inl ⟨_, _, _, rfl, rfl, rfl⟩) rfl (Nat.le_of_ble_eq_true rfl) rfl (Nat.le_of_ble_eq_true rfl) (m_counts hs5 hT.2.1 hT.1 k) ?_
      refine Go.callSi [vI (oI (lawN s k (nX s)))] [] dX9_why_17 lkX9_112 rfl (Nat.le_of_ble_eq_true rfl) rfl (Nat.le_of_ble_eq_true rfl) (m_orNone (oI (lawN s k (nX s)))) ?_
      refine Go.goto (tgt := 25) dX9_why_20 (by decide) ?_
      refine Go.ireturn .int dX9_why_25 rfl rfl ?_
      exact ⟨rfl, Fr.rf _ _⟩
  · skip
    refine OpOK.q (x := (-1000000001)) hS ?_ (fun μ5 k5 => ?_)
    · show Go V (d + 3) mX8_why 0 [some (vR 0), some (vI k)] [] μ _
      refine Go.iload_n dX8_why_0 rfl ?_
      refine Go.iconst (v := nI 0) dX8_why_1 rfl ?_
      refine Go.iconst (v := nI 2) dX8_why_2 rfl ?_
      refine Go.callSi [vI k, vI (nI 0), vI (nI 2)] [] dX8_why_3 lkX8_72 rfl (Nat.le_of_ble_eq_true rfl) rfl (Nat.le_of_ble_eq_true rfl) (c_within k (nI 0) (nI 2)) ?_
      refine Go.if_eqb_t (tgt := 27) dX8_why_6 (by decide) h1 ?_
      refine Go.ldc dX8_why_27 cnX8_76 ?_
      refine Go.at 29 rfl ?_
      refine Go.ireturn .int dX8_why_29 rfl rfl ?_
      exact ⟨rfl, Fr.rf _ _⟩
    · have hs5 : μ5 77 = s := (k5 77 (by decide)).trans hs
      show Go V (d + 3) mX9_why 0 [some (vR 76), some (vI k)] [] μ5 _
      refine Go.iload_n dX9_why_0 rfl ?_
      refine Go.i2l dX9_why_1 ?_
      refine Go.lconst (v := (nI 0).toInt64) dX9_why_2 rfl ?_
      refine Go.ldc2 (v := (nI 2).toInt64) dX9_why_3 clX9_151 ?_
      refine Go.callSi [vL k.toInt64, vL ((nI 0).toInt64), vL ((nI 2).toInt64)] [] dX9_why_6 lkX9_65 rfl (Nat.le_of_ble_eq_true rfl) rfl (Nat.le_of_ble_eq_true rfl) (m_isIn k (nI 0) (nI 2)) ?_
      refine Go.if_eqb_t (tgt := 23) dX9_why_9 (by decide) h1 ?_
      refine Go.at 23 rfl ?_
      refine Go.ldc dX9_why_23 cnX9_98 ?_
      refine Go.ireturn .int dX9_why_25 rfl rfl ?_
      exact ⟨rfl, Fr.rf _ _⟩
theorem op_count {V : VV} {d : Nat} {μ : Memo} (hS : Sim μ) (w : Int32) : OpOK V (d + 3) mX8_count mX9_count [vI w] μ := by
  obtain ⟨⟨hT, hCo, hKd, hO, hH⟩, hI, hX, -, -, -, hTp, hWt⟩ := id hS
  generalize hs : μ 77 = s at hT hCo hKd hO hH hI hX
  obtain ⟨nt, -, t1, t2, -⟩ := hTp
  obtain ⟨nw, -, w1, w2, -⟩ := hWt
  by_cases hw0 : w = nI 0
  · skip
    subst hw0
    refine OpOK.q (x := s 2) hS ?_ (fun μ5 k5 => ?_)
    · show Go V (d + 3) mX8_count 0 [some (vR 0), some (vI (nI 0))] [] μ _
      refine Go.iload_n dX8_count_0 rfl ?_
      refine Go.tsw (tgt := 56) (nI 0) rfl dX8_count_1 (by decide) (by decide) rfl (by decide) ?_
      refine Go.aload_n dX8_count_56 rfl ?_
      refine Go.getR dX8_count_57 flX8_21 rfl ?_
      refine Go.getI dX8_count_60 flX8_192 rfl ?_
      refine Go.topE (s 2) hI.2.2.2.2.1 ?_
      refine Go.ireturn .int dX8_count_63 rfl rfl ?_
      exact ⟨rfl, Fr.rf _ _⟩
    · have hs5 : μ5 77 = s := (k5 77 (by decide)).trans hs
      show Go V (d + 3) mX9_count 0 [some (vR 76), some (vI (nI 0))] [] μ5 _
      refine Go.iload_n dX9_count_0 rfl ?_
      refine Go.tsw (tgt := 56) (nI 0) rfl dX9_count_1 (by decide) (by decide) rfl (by decide) ?_
      refine Go.aload_n dX9_count_56 rfl ?_
      refine Go.getR dX9_count_57 flX9_7 rfl ?_
      refine Go.iconst (v := nI 2) dX9_count_60 rfl ?_
      refine Go.iaload 2 dX9_count_61 rfl (by omega) rfl ?_
      refine Go.topE (s 2) (congrFun hs5 _) ?_
      refine Go.ireturn .int dX9_count_62 rfl rfl ?_
      exact ⟨rfl, Fr.rf _ _⟩
  · skip
    by_cases hw1 : w = nI 1
    · skip
      subst hw1
      refine OpOK.q (x := s 0) hS ?_ (fun μ5 k5 => ?_)
      · show Go V (d + 3) mX8_count 0 [some (vR 0), some (vI (nI 1))] [] μ _
        refine Go.iload_n dX8_count_0 rfl ?_
        refine Go.tsw (tgt := 64) (nI 1) rfl dX8_count_1 (by decide) (by decide) rfl (by decide) ?_
        refine Go.aload_n dX8_count_64 rfl ?_
        refine Go.getR dX8_count_65 flX8_21 rfl ?_
        refine Go.getI dX8_count_68 flX8_166 rfl ?_
        refine Go.topE (s 0) hI.2.2.2.1 ?_
        refine Go.ireturn .int dX8_count_71 rfl rfl ?_
        exact ⟨rfl, Fr.rf _ _⟩
      · have hs5 : μ5 77 = s := (k5 77 (by decide)).trans hs
        show Go V (d + 3) mX9_count 0 [some (vR 76), some (vI (nI 1))] [] μ5 _
        refine Go.iload_n dX9_count_0 rfl ?_
        refine Go.tsw (tgt := 63) (nI 1) rfl dX9_count_1 (by decide) (by decide) rfl (by decide) ?_
        refine Go.aload_n dX9_count_63 rfl ?_
        refine Go.getR dX9_count_64 flX9_7 rfl ?_
        refine Go.iconst (v := nI 0) dX9_count_67 rfl ?_
        refine Go.iaload 0 dX9_count_68 rfl (by omega) rfl ?_
        refine Go.topE (s 0) (congrFun hs5 _) ?_
        refine Go.ireturn .int dX9_count_69 rfl rfl ?_
        exact ⟨rfl, Fr.rf _ _⟩
    · skip
      by_cases hw2 : w = nI 2
      · skip
        subst hw2
        refine OpOK.q (x := acF s 30) hS ?_ (fun μ5 k5 => ?_)
        · show Go V (d + 3) mX8_count 0 [some (vR 0), some (vI (nI 2))] [] μ _
          refine Go.iload_n dX8_count_0 rfl ?_
          refine Go.tsw (tgt := 72) (nI 2) rfl dX8_count_1 (by decide) (by decide) rfl (by decide) ?_
          refine Go.aload_n dX8_count_72 rfl ?_
          refine Go.getR dX8_count_73 flX8_21 rfl ?_
          refine Go.callVi 7 [] [] dX8_count_76 lkX8_304 (Or.inl ⟨_, _, _, rfl, rfl, rfl⟩) rfl (Nat.le_of_ble_eq_true rfl) rfl (Nat.le_of_ble_eq_true rfl) (c_allCorn isB7 hI) ?_
          refine Go.ireturn .int dX8_count_79 rfl rfl ?_
          exact ⟨rfl, Fr.rf _ _⟩
        · have hs5 : μ5 77 = s := (k5 77 (by decide)).trans hs
          show Go V (d + 3) mX9_count 0 [some (vR 76), some (vI (nI 2))] [] μ5 _
          refine Go.iload_n dX9_count_0 rfl ?_
          refine Go.tsw (tgt := 70) (nI 2) rfl dX9_count_1 (by decide) (by decide) rfl (by decide) ?_
          refine Go.aload_n dX9_count_70 rfl ?_
          refine Go.callVi 76 [] [] dX9_count_71 lkX9_315 (Or.inl ⟨_, _, _, rfl, rfl, rfl⟩) rfl (Nat.le_of_ble_eq_true rfl) rfl (Nat.le_of_ble_eq_true rfl) (m_allCorn hs5) ?_
          refine Go.ireturn .int dX9_count_74 rfl rfl ?_
          exact ⟨rfl, Fr.rf _ _⟩
      · skip
        by_cases hw3 : w = nI 3
        · skip
          subst hw3
          refine OpOK.q (x := s 3) hS ?_ (fun μ5 k5 => ?_)
          · show Go V (d + 3) mX8_count 0 [some (vR 0), some (vI (nI 3))] [] μ _
            refine Go.iload_n dX8_count_0 rfl ?_
            refine Go.tsw (tgt := 80) (nI 3) rfl dX8_count_1 (by decide) (by decide) rfl (by decide) ?_
            refine Go.aload_n dX8_count_80 rfl ?_
            refine Go.getR dX8_count_81 flX8_21 rfl ?_
            refine Go.getI dX8_count_84 flX8_198 rfl ?_
            refine Go.topE (s 3) hI.2.2.2.2.2.1 ?_
            refine Go.ireturn .int dX8_count_87 rfl rfl ?_
            exact ⟨rfl, Fr.rf _ _⟩
          · have hs5 : μ5 77 = s := (k5 77 (by decide)).trans hs
            show Go V (d + 3) mX9_count 0 [some (vR 76), some (vI (nI 3))] [] μ5 _
            refine Go.iload_n dX9_count_0 rfl ?_
            refine Go.tsw (tgt := 75) (nI 3) rfl dX9_count_1 (by decide) (by decide) rfl (by decide) ?_
            refine Go.aload_n dX9_count_75 rfl ?_
            refine Go.getR dX9_count_76 flX9_7 rfl ?_
            refine Go.iconst (v := nI 3) dX9_count_79 rfl ?_
            refine Go.iaload 3 dX9_count_80 rfl (by omega) rfl ?_
            refine Go.topE (s 3) (congrFun hs5 _) ?_
            refine Go.ireturn .int dX9_count_81 rfl rfl ?_
            exact ⟨rfl, Fr.rf _ _⟩
        · skip
          by_cases hw4 : w = nI 4
          · skip
            subst hw4
            refine OpOK.q (x := s 8) hS ?_ (fun μ5 k5 => ?_)
            · show Go V (d + 3) mX8_count 0 [some (vR 0), some (vI (nI 4))] [] μ _
              refine Go.iload_n dX8_count_0 rfl ?_
              refine Go.tsw (tgt := 88) (nI 4) rfl dX8_count_1 (by decide) (by decide) rfl (by decide) ?_
              refine Go.aload_n dX8_count_88 rfl ?_
              refine Go.getR dX8_count_89 flX8_21 rfl ?_
              refine Go.getR dX8_count_92 flX8_125 rfl ?_
              refine Go.iconst (v := nI 3) dX8_count_95 rfl ?_
              refine Go.iaload 3 dX8_count_96 rfl (by omega) rfl ?_
              refine Go.topE (s 8) (hI.2.1 3 (by decide)) ?_
              refine Go.ireturn .int dX8_count_97 rfl rfl ?_
              exact ⟨rfl, Fr.rf _ _⟩
            · have hs5 : μ5 77 = s := (k5 77 (by decide)).trans hs
              show Go V (d + 3) mX9_count 0 [some (vR 76), some (vI (nI 4))] [] μ5 _
              refine Go.iload_n dX9_count_0 rfl ?_
              refine Go.tsw (tgt := 82) (nI 4) rfl dX9_count_1 (by decide) (by decide) rfl (by decide) ?_
              refine Go.aload_n dX9_count_82 rfl ?_
              refine Go.getR dX9_count_83 flX9_7 rfl ?_
              refine Go.bipush (v := nI 8) dX9_count_86 rfl ?_
              refine Go.iaload 8 dX9_count_88 rfl (by omega) rfl ?_
              refine Go.topE (s 8) (congrFun hs5 _) ?_
              refine Go.ireturn .int dX9_count_89 rfl rfl ?_
              exact ⟨rfl, Fr.rf _ _⟩
          · skip
            by_cases hw5 : w = nI 5
            · skip
              subst hw5
              refine OpOK.q (x := nI (pkF s 29)) hS ?_ (fun μ5 k5 => ?_)
              · show Go V (d + 3) mX8_count 0 [some (vR 0), some (vI (nI 5))] [] μ _
                refine Go.iload_n dX8_count_0 rfl ?_
                refine Go.tsw (tgt := 98) (nI 5) rfl dX8_count_1 (by decide) (by decide) rfl (by decide) ?_
                refine Go.aload_n dX8_count_98 rfl ?_
                refine Go.getR dX8_count_99 flX8_21 rfl ?_
                refine Go.callVi 7 [] [] dX8_count_102 lkX8_307 (Or.inl ⟨_, _, _, rfl, rfl, rfl⟩) rfl (Nat.le_of_ble_eq_true rfl) rfl (Nat.le_of_ble_eq_true rfl) (c_peak isB7 hI) ?_
                refine Go.ireturn .int dX8_count_105 rfl rfl ?_
                exact ⟨rfl, Fr.rf _ _⟩
              · have hs5 : μ5 77 = s := (k5 77 (by decide)).trans hs
                show Go V (d + 3) mX9_count 0 [some (vR 76), some (vI (nI 5))] [] μ5 _
                refine Go.iload_n dX9_count_0 rfl ?_
                refine Go.tsw (tgt := 90) (nI 5) rfl dX9_count_1 (by decide) (by decide) rfl (by decide) ?_
                refine Go.aload_n dX9_count_90 rfl ?_
                refine Go.callVi 76 [] [] dX9_count_91 lkX9_174 (Or.inl ⟨_, _, _, rfl, rfl, rfl⟩) rfl (Nat.le_of_ble_eq_true rfl) rfl (Nat.le_of_ble_eq_true rfl) (m_peak hs5) ?_
                refine Go.ireturn .int dX9_count_94 rfl rfl ?_
                exact ⟨rfl, Fr.rf _ _⟩
            · skip
              by_cases hw6 : w = nI 6
              · skip
                subst hw6
                refine OpOK.q (x := s 1) hS ?_ (fun μ5 k5 => ?_)
                · show Go V (d + 3) mX8_count 0 [some (vR 0), some (vI (nI 6))] [] μ _
                  refine Go.iload_n dX8_count_0 rfl ?_
                  refine Go.tsw (tgt := 106) (nI 6) rfl dX8_count_1 (by decide) (by decide) rfl (by decide) ?_
                  refine Go.aload_n dX8_count_106 rfl ?_
                  refine Go.getR dX8_count_107 flX8_21 rfl ?_
                  refine Go.getI dX8_count_110 flX8_211 rfl ?_
                  refine Go.topE (s 1) hI.2.2.2.2.2.2.2 ?_
                  refine Go.ireturn .int dX8_count_113 rfl rfl ?_
                  exact ⟨rfl, Fr.rf _ _⟩
                · have hs5 : μ5 77 = s := (k5 77 (by decide)).trans hs
                  show Go V (d + 3) mX9_count 0 [some (vR 76), some (vI (nI 6))] [] μ5 _
                  refine Go.iload_n dX9_count_0 rfl ?_
                  refine Go.tsw (tgt := 95) (nI 6) rfl dX9_count_1 (by decide) (by decide) rfl (by decide) ?_
                  refine Go.aload_n dX9_count_95 rfl ?_
                  refine Go.getR dX9_count_96 flX9_7 rfl ?_
                  refine Go.iconst (v := nI 1) dX9_count_99 rfl ?_
                  refine Go.iaload 1 dX9_count_100 rfl (by omega) rfl ?_
                  refine Go.topE (s 1) (congrFun hs5 _) ?_
                  refine Go.ireturn .int dX9_count_101 rfl rfl ?_
                  exact ⟨rfl, Fr.rf _ _⟩
              · skip
                by_cases hw7 : w = nI 7
                · skip
                  subst hw7
                  refine OpOK.q (x := nI nw) hS ?_ (fun μ5 k5 => ?_)
                  · show Go V (d + 3) mX8_count 0 [some (vR 0), some (vI (nI 7))] [] μ _
                    refine Go.iload_n dX8_count_0 rfl ?_
                    refine Go.tsw (tgt := 114) (nI 7) rfl dX8_count_1 (by decide) (by decide) rfl (by decide) ?_
                    refine Go.aload_n dX8_count_114 rfl ?_
                    refine Go.getI dX8_count_115 flX8_291 rfl ?_
                    refine Go.topE (y := nI nw) w1 ?_
                    refine Go.ireturn .int dX8_count_118 rfl rfl ?_
                    exact ⟨rfl, Fr.rf _ _⟩
                  · have hs5 : μ5 77 = s := (k5 77 (by decide)).trans hs
                    show Go V (d + 3) mX9_count 0 [some (vR 76), some (vI (nI 7))] [] μ5 _
                    refine Go.iload_n dX9_count_0 rfl ?_
                    refine Go.tsw (tgt := 102) (nI 7) rfl dX9_count_1 (by decide) (by decide) rfl (by decide) ?_
                    refine Go.aload_n dX9_count_102 rfl ?_
                    refine Go.getI dX9_count_103 flX9_302 rfl ?_
                    refine Go.topE (y := nI nw) ((congrFun (k5 76 (by decide)) _).trans w2) ?_
                    refine Go.ireturn .int dX9_count_106 rfl rfl ?_
                    exact ⟨rfl, Fr.rf _ _⟩
                · skip
                  by_cases hw8 : w = nI 8
                  · skip
                    subst hw8
                    refine OpOK.q (x := nI nt) hS ?_ (fun μ5 k5 => ?_)
                    · show Go V (d + 3) mX8_count 0 [some (vR 0), some (vI (nI 8))] [] μ _
                      refine Go.iload_n dX8_count_0 rfl ?_
                      refine Go.tsw (tgt := 119) (nI 8) rfl dX8_count_1 (by decide) (by decide) rfl (by decide) ?_
                      refine Go.aload_n dX8_count_119 rfl ?_
                      refine Go.getR dX8_count_120 flX8_34 rfl ?_
                      refine Go.getI dX8_count_123 flX8_201 rfl ?_
                      refine Go.topE (y := nI nt) t1 ?_
                      refine Go.ireturn .int dX8_count_126 rfl rfl ?_
                      exact ⟨rfl, Fr.rf _ _⟩
                    · have hs5 : μ5 77 = s := (k5 77 (by decide)).trans hs
                      show Go V (d + 3) mX9_count 0 [some (vR 76), some (vI (nI 8))] [] μ5 _
                      refine Go.iload_n dX9_count_0 rfl ?_
                      refine Go.tsw (tgt := 107) (nI 8) rfl dX9_count_1 (by decide) (by decide) rfl (by decide) ?_
                      refine Go.aload_n dX9_count_107 rfl ?_
                      refine Go.getI dX9_count_108 flX9_184 rfl ?_
                      refine Go.topE (y := nI nt) ((congrFun (k5 76 (by decide)) _).trans t2) ?_
                      refine Go.ireturn .int dX9_count_111 rfl rfl ?_
                      exact ⟨rfl, Fr.rf _ _⟩
                  · skip
                    by_cases hw9 : w = nI 9
                    · skip
                      subst hw9
                      refine OpOK.q (x := s 4) hS ?_ (fun μ5 k5 => ?_)
                      · show Go V (d + 3) mX8_count 0 [some (vR 0), some (vI (nI 9))] [] μ _
                        refine Go.iload_n dX8_count_0 rfl ?_
                        refine Go.tsw (tgt := 127) (nI 9) rfl dX8_count_1 (by decide) (by decide) rfl (by decide) ?_
                        refine Go.aload_n dX8_count_127 rfl ?_
                        refine Go.getR dX8_count_128 flX8_21 rfl ?_
                        refine Go.getI dX8_count_131 flX8_134 rfl ?_
                        refine Go.topE (s 4) hI.2.2.2.2.2.2.1 ?_
                        refine Go.ireturn .int dX8_count_134 rfl rfl ?_
                        exact ⟨rfl, Fr.rf _ _⟩
                      · have hs5 : μ5 77 = s := (k5 77 (by decide)).trans hs
                        show Go V (d + 3) mX9_count 0 [some (vR 76), some (vI (nI 9))] [] μ5 _
                        refine Go.iload_n dX9_count_0 rfl ?_
                        refine Go.tsw (tgt := 112) (nI 9) rfl dX9_count_1 (by decide) (by decide) rfl (by decide) ?_
                        refine Go.aload_n dX9_count_112 rfl ?_
                        refine Go.getR dX9_count_113 flX9_7 rfl ?_
                        refine Go.iconst (v := nI 4) dX9_count_116 rfl ?_
                        refine Go.iaload 4 dX9_count_117 rfl (by omega) rfl ?_
                        refine Go.topE (s 4) (congrFun hs5 _) ?_
                        refine Go.ireturn .int dX9_count_118 rfl rfl ?_
                        exact ⟨rfl, Fr.rf _ _⟩
                    · skip
                      refine OpOK.q (x := (-1000000001)) hS ?_ (fun μ5 k5 => ?_)
                      · show Go V (d + 3) mX8_count 0 [some (vR 0), some (vI w)] [] μ _
                        refine Go.iload_n dX8_count_0 rfl ?_
                        refine Go.tswD (tgt := 135) dX8_count_1 (by have a0 := lv_neT hw0 (a := 0) rfl; have a1 := lv_neT hw1 (a := 1) rfl; have a2 := lv_neT hw2 (a := 2) rfl; have a3 := lv_neT hw3 (a := 3) rfl; have a4 := lv_neT hw4 (a := 4) rfl; have a5 := lv_neT hw5 (a := 5) rfl; have a6 := lv_neT hw6 (a := 6) rfl; have a7 := lv_neT hw7 (a := 7) rfl; have a8 := lv_neT hw8 (a := 8) rfl; have a9 := lv_neT hw9 (a := 9) rfl; omega) (by decide) ?_
                        refine Go.ldc dX8_count_135 cnX8_76 ?_
                        refine Go.ireturn .int dX8_count_137 rfl rfl ?_
                        exact ⟨rfl, Fr.rf _ _⟩
                      · have hs5 : μ5 77 = s := (k5 77 (by decide)).trans hs
                        show Go V (d + 3) mX9_count 0 [some (vR 76), some (vI w)] [] μ5 _
                        refine Go.iload_n dX9_count_0 rfl ?_
                        refine Go.tswD (tgt := 119) dX9_count_1 (by have a0 := lv_neT hw0 (a := 0) rfl; have a1 := lv_neT hw1 (a := 1) rfl; have a2 := lv_neT hw2 (a := 2) rfl; have a3 := lv_neT hw3 (a := 3) rfl; have a4 := lv_neT hw4 (a := 4) rfl; have a5 := lv_neT hw5 (a := 5) rfl; have a6 := lv_neT hw6 (a := 6) rfl; have a7 := lv_neT hw7 (a := 7) rfl; have a8 := lv_neT hw8 (a := 8) rfl; have a9 := lv_neT hw9 (a := 9) rfl; omega) (by decide) ?_
                        refine Go.ldc dX9_count_119 cnX9_98 ?_
                        refine Go.ireturn .int dX9_count_121 rfl rfl ?_
                        exact ⟨rfl, Fr.rf _ _⟩
