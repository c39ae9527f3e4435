theorem oN_pos {x : Int32} (h : 0 ≤ x.toInt) : oN x = x := if_neg (by rw [sI_lt, Int32.toInt_zero]; omega)
theorem c_changeKind {V : VV} {d : Nat} {μ : Memo} {B : Nat} (hB : isB B) (c : Nat) (hc : c < 30) (x : Int32) : Ret V (d) mX1_changeKind [vR B, vI (nI c), vI x] μ (some (vI (μ (B + 1) c))) (ms μ (B + 1) c x) := by
  show Go V (d) mX1_changeKind 0 [some (vR B), some (vI (nI c)), some (vI x), none] [] μ _
  refine Go.aload_n dX1_changeKind_0 rfl ?_
  refine Go.getR dX1_changeKind_1 flX1_9 (fBr hB 0 (by decide)) ?_
  refine Go.iload_n dX1_changeKind_4 rfl ?_
  refine Go.iaload c dX1_changeKind_5 (alB1 hB) (by omega) rfl ?_
  refine Go.istore_n (ls' := [some (vR B), some (vI (nI c)), some (vI x), some (vI (μ (B + 1) c))]) dX1_changeKind_6 (by decide) rfl ?_
  refine Go.aload_n dX1_changeKind_7 rfl ?_
  refine Go.at 8 rfl ?_
  refine Go.getR dX1_changeKind_8 flX1_9 (fBr hB 0 (by decide)) ?_
  refine Go.iload_n dX1_changeKind_11 rfl ?_
  refine Go.iload_n dX1_changeKind_12 rfl ?_
  refine Go.iastore c dX1_changeKind_13 (alB1 hB) (by omega) rfl ?_
  refine Go.iload_n dX1_changeKind_14 rfl ?_
  refine Go.ireturn .int dX1_changeKind_15 rfl rfl ?_
  exact ⟨rfl, rfl⟩
theorem m_becomes {V : VV} {d : Nat} {μ : Memo} (a : Nat) (ha : a < 3147) (x : Int32) : Ret V (d) mX9_becomes [vR 76, vI (nI a), vI x] μ (some (vI (μ 77 a))) (ms μ 77 a x) := by
  show Go V (d) mX9_becomes 0 [some (vR 76), some (vI (nI a)), some (vI x), none] [] μ _
  refine Go.aload_n dX9_becomes_0 rfl ?_
  refine Go.getR dX9_becomes_1 flX9_7 rfl ?_
  refine Go.iload_n dX9_becomes_4 rfl ?_
  refine Go.iaload a dX9_becomes_5 rfl (by omega) rfl ?_
  refine Go.istore_n (ls' := [some (vR 76), some (vI (nI a)), some (vI x), some (vI (μ 77 a))]) dX9_becomes_6 (by decide) rfl ?_
  refine Go.aload_n dX9_becomes_7 rfl ?_
  refine Go.at 8 rfl ?_
  refine Go.getR dX9_becomes_8 flX9_7 rfl ?_
  refine Go.iload_n dX9_becomes_11 rfl ?_
  refine Go.iload_n dX9_becomes_12 rfl ?_
  refine Go.iastore a dX9_becomes_13 rfl (by omega) rfl ?_
  refine Go.iload_n dX9_becomes_14 rfl ?_
  refine Go.ireturn .int dX9_becomes_15 rfl rfl ?_
  exact ⟨rfl, rfl⟩
theorem m_sets {V : VV} {d : Nat} {μ : Memo} (c k : Nat) (hc : c < 30) (hk : k < 4) (x : Int32) : Ret V (d) mX9_sets [vR 76, vI (nI c), vI (nI k), vI x] μ none (ms μ 77 (11 + 4 * c + k) x) := by
  show Go V (d) mX9_sets 0 [some (vR 76), some (vI (nI c)), some (vI (nI k)), some (vI x)] [] μ _
  refine Go.aload_n dX9_sets_0 rfl ?_
  refine Go.getR dX9_sets_1 flX9_7 rfl ?_
  refine Go.bipush (v := nI 11) dX9_sets_4 rfl ?_
  refine Go.iconst (v := nI 4) dX9_sets_6 rfl ?_
  refine Go.iload_n dX9_sets_7 rfl ?_
  refine Go.imulN dX9_sets_8 ?_
  refine Go.at 9 rfl ?_
  refine Go.iaddN dX9_sets_9 ?_
  refine Go.iload_n dX9_sets_10 rfl ?_
  refine Go.iaddN dX9_sets_11 ?_
  refine Go.iload_n dX9_sets_12 rfl ?_
  refine Go.iastore ((11 + (4 * c)) + k) dX9_sets_13 rfl (by omega) rfl ?_
  refine Go.vreturn dX9_sets_14 rfl ?_
  exact ⟨rfl, rfl⟩
theorem m_mostOf_0 {V : VV} {d : Nat} {μ : Memo} : Ret V (d) mX9_mostOf [vI (nI 0)] μ (some (vI (seaC 0))) μ := by
  show Go V (d) mX9_mostOf 0 [some (vI (nI 0))] [] μ _
  refine Go.iload_n dX9_mostOf_0 rfl ?_
  refine Go.iconst (v := nI 2) dX9_mostOf_1 rfl ?_
  refine Go.icmp_eq_f (tgt := 10) dX9_mostOf_2 (by decide) (by decide) ?_
  refine Go.iload_n dX9_mostOf_5 rfl ?_
  refine Go.iconst (v := nI 3) dX9_mostOf_6 rfl ?_
  refine Go.icmp_ne_t (tgt := 15) dX9_mostOf_7 (by decide) (by decide) ?_
  refine Go.at 15 rfl ?_
  refine Go.iload_n dX9_mostOf_15 rfl ?_
  refine Go.iconst (v := nI 4) dX9_mostOf_16 rfl ?_
  refine Go.icmp_ne_t (tgt := 25) dX9_mostOf_17 (by decide) (by decide) ?_
  refine Go.bipush (v := nI 20) dX9_mostOf_25 rfl ?_
  refine Go.ireturn .int dX9_mostOf_27 rfl rfl ?_
  exact ⟨rfl, rfl⟩
theorem m_mostOf_1 {V : VV} {d : Nat} {μ : Memo} : Ret V (d) mX9_mostOf [vI (nI 1)] μ (some (vI (seaC 1))) μ := by
  show Go V (d) mX9_mostOf 0 [some (vI (nI 1))] [] μ _
  refine Go.iload_n dX9_mostOf_0 rfl ?_
  refine Go.iconst (v := nI 2) dX9_mostOf_1 rfl ?_
  refine Go.icmp_eq_f (tgt := 10) dX9_mostOf_2 (by decide) (by decide) ?_
  refine Go.iload_n dX9_mostOf_5 rfl ?_
  refine Go.iconst (v := nI 3) dX9_mostOf_6 rfl ?_
  refine Go.icmp_ne_t (tgt := 15) dX9_mostOf_7 (by decide) (by decide) ?_
  refine Go.at 15 rfl ?_
  refine Go.iload_n dX9_mostOf_15 rfl ?_
  refine Go.iconst (v := nI 4) dX9_mostOf_16 rfl ?_
  refine Go.icmp_ne_t (tgt := 25) dX9_mostOf_17 (by decide) (by decide) ?_
  refine Go.bipush (v := nI 20) dX9_mostOf_25 rfl ?_
  refine Go.ireturn .int dX9_mostOf_27 rfl rfl ?_
  exact ⟨rfl, rfl⟩
theorem m_mostOf_2 {V : VV} {d : Nat} {μ : Memo} : Ret V (d) mX9_mostOf [vI (nI 2)] μ (some (vI (seaC 2))) μ := by
  show Go V (d) mX9_mostOf 0 [some (vI (nI 2))] [] μ _
  refine Go.iload_n dX9_mostOf_0 rfl ?_
  refine Go.iconst (v := nI 2) dX9_mostOf_1 rfl ?_
  refine Go.icmp_eq_t (tgt := 10) dX9_mostOf_2 (by decide) (by decide) ?_
  refine Go.bipush (v := nI 9) dX9_mostOf_10 rfl ?_
  refine Go.goto (tgt := 27) dX9_mostOf_12 (by decide) ?_
  refine Go.ireturn .int dX9_mostOf_27 rfl rfl ?_
  exact ⟨rfl, rfl⟩
theorem m_mostOf_3 {V : VV} {d : Nat} {μ : Memo} : Ret V (d) mX9_mostOf [vI (nI 3)] μ (some (vI (seaC 3))) μ := by
  show Go V (d) mX9_mostOf 0 [some (vI (nI 3))] [] μ _
  refine Go.iload_n dX9_mostOf_0 rfl ?_
  refine Go.iconst (v := nI 2) dX9_mostOf_1 rfl ?_
  refine Go.icmp_eq_f (tgt := 10) dX9_mostOf_2 (by decide) (by decide) ?_
  refine Go.iload_n dX9_mostOf_5 rfl ?_
  refine Go.iconst (v := nI 3) dX9_mostOf_6 rfl ?_
  refine Go.icmp_ne_f (tgt := 15) dX9_mostOf_7 (by decide) (by decide) ?_
  refine Go.at 10 rfl ?_
  refine Go.bipush (v := nI 9) dX9_mostOf_10 rfl ?_
  refine Go.goto (tgt := 27) dX9_mostOf_12 (by decide) ?_
  refine Go.ireturn .int dX9_mostOf_27 rfl rfl ?_
  exact ⟨rfl, rfl⟩
theorem m_mostOf_4 {V : VV} {d : Nat} {μ : Memo} : Ret V (d) mX9_mostOf [vI (nI 4)] μ (some (vI (seaC 4))) μ := by
  show Go V (d) mX9_mostOf 0 [some (vI (nI 4))] [] μ _
  refine Go.iload_n dX9_mostOf_0 rfl ?_
  refine Go.iconst (v := nI 2) dX9_mostOf_1 rfl ?_
  refine Go.icmp_eq_f (tgt := 10) dX9_mostOf_2 (by decide) (by decide) ?_
  refine Go.iload_n dX9_mostOf_5 rfl ?_
  refine Go.iconst (v := nI 3) dX9_mostOf_6 rfl ?_
  refine Go.icmp_ne_t (tgt := 15) dX9_mostOf_7 (by decide) (by decide) ?_
  refine Go.at 15 rfl ?_
  refine Go.iload_n dX9_mostOf_15 rfl ?_
  refine Go.iconst (v := nI 4) dX9_mostOf_16 rfl ?_
  refine Go.icmp_ne_f (tgt := 25) dX9_mostOf_17 (by decide) (by decide) ?_
  refine Go.bipush (v := nI 100) dX9_mostOf_20 rfl ?_
  refine Go.goto (tgt := 27) dX9_mostOf_22 (by decide) ?_
  refine Go.ireturn .int dX9_mostOf_27 rfl rfl ?_
  exact ⟨rfl, rfl⟩
theorem m_mostOf_5 {V : VV} {d : Nat} {μ : Memo} : Ret V (d) mX9_mostOf [vI (nI 5)] μ (some (vI (seaC 5))) μ := by
  show Go V (d) mX9_mostOf 0 [some (vI (nI 5))] [] μ _
  refine Go.iload_n dX9_mostOf_0 rfl ?_
  refine Go.iconst (v := nI 2) dX9_mostOf_1 rfl ?_
  refine Go.icmp_eq_f (tgt := 10) dX9_mostOf_2 (by decide) (by decide) ?_
  refine Go.iload_n dX9_mostOf_5 rfl ?_
  refine Go.iconst (v := nI 3) dX9_mostOf_6 rfl ?_
  refine Go.icmp_ne_t (tgt := 15) dX9_mostOf_7 (by decide) (by decide) ?_
  refine Go.at 15 rfl ?_
  refine Go.iload_n dX9_mostOf_15 rfl ?_
  refine Go.iconst (v := nI 4) dX9_mostOf_16 rfl ?_
  refine Go.icmp_ne_t (tgt := 25) dX9_mostOf_17 (by decide) (by decide) ?_
  refine Go.bipush (v := nI 20) dX9_mostOf_25 rfl ?_
  refine Go.ireturn .int dX9_mostOf_27 rfl rfl ?_
  exact ⟨rfl, rfl⟩
theorem op_land {V : VV} {d : Nat} {μ : Memo} (hS : Sim μ) (cell : Int32) (kind : Int32) (height : Int32) : OpOK V (d + 3) mX8_land mX9_land [vI cell, vI kind, vI height] μ := by
  obtain ⟨⟨hT, hCo, hKd, hO, hH⟩, hI, hX, hIm, hSh, hSl, hTp, hWt⟩ := id hS
  have hIs : IsOK (μ 77) := hS.1.is
  generalize hs : μ 77 = s at hT hCo hKd hO hH hI hX hIs
  have hH8 : nH s ≤ 8 := hH.1
  by_cases h1 : nI 0 ≤ cell ∧ cell ≤ nI 29
  · skip
    obtain ⟨c, hc0, rfl⟩ := in_nI (by decide) h1
    have hc : c < 30 := by omega
    by_cases h2 : nI 0 ≤ kind ∧ kind ≤ nI 5
    · skip
      obtain ⟨q, hq0, rfl⟩ := in_nI (by decide) h2
      have hq : q < 6 := by omega
      by_cases h3 : nI 0 ≤ height ∧ height ≤ nI 20
      · skip
        refine OpOK.m (x := s (11 + 4 * c)) (upd (upd s (11 + 4 * c + 1) height) (11 + 4 * c) (nI q)) hS ((hIs.height hc _).kind hc hq) (by simp (disch := omega) only [upd_ne, hs]) (fun j hj => by simp (disch := omega) only [upd_ne, hs]) ?_ (fun μ5 k5 => ?_)
        · show Go V (d + 3) mX8_land 0 [some (vR 0), some (vI (nI c)), some (vI (nI q)), some (vI height)] [] μ _
          refine Go.iload_n dX8_land_0 rfl ?_
          refine Go.callSi [vI (nI c)] [] dX8_land_1 lkX8_65 rfl (Nat.le_of_ble_eq_true rfl) rfl (Nat.le_of_ble_eq_true rfl) (c_isCell (nI c)) ?_
          refine Go.if_eqb_f (tgt := 24) dX8_land_4 (by decide) h1 ?_
          refine Go.iload_n dX8_land_7 rfl ?_
          refine Go.callSi [vI (nI q)] [] dX8_land_8 lkX8_69 rfl (Nat.le_of_ble_eq_true rfl) rfl (Nat.le_of_ble_eq_true rfl) (c_isKind (nI q)) ?_
          refine Go.if_eqb_f (tgt := 24) dX8_land_11 (by decide) h2 ?_
          refine Go.at 14 rfl ?_
          refine Go.iload_n dX8_land_14 rfl ?_
          refine Go.iconst (v := nI 0) dX8_land_15 rfl ?_
          refine Go.bipush (v := nI 20) dX8_land_16 rfl ?_
          refine Go.callSi [vI height, vI (nI 0), vI (nI 20)] [] dX8_land_18 lkX8_72 rfl (Nat.le_of_ble_eq_true rfl) rfl (Nat.le_of_ble_eq_true rfl) (c_within height (nI 0) (nI 20)) ?_
          refine Go.if_neb_t (tgt := 27) dX8_land_21 (by decide) h3 ?_
          refine Go.aload_n dX8_land_27 rfl ?_
          refine Go.at 28 rfl ?_
          refine Go.getR dX8_land_28 flX8_21 rfl ?_
          refine Go.getR dX8_land_31 flX8_77 rfl ?_
          refine Go.iload_n dX8_land_34 rfl ?_
          refine Go.iload_n dX8_land_35 rfl ?_
          refine Go.iastore c dX8_land_36 rfl (by omega) rfl ?_
          refine Go.aload_n dX8_land_37 rfl ?_
          refine Go.at 38 rfl ?_
          refine Go.getR dX8_land_38 flX8_21 rfl ?_
          refine Go.iload_n dX8_land_41 rfl ?_
          refine Go.iload_n dX8_land_42 rfl ?_
          refine Go.callVi 7 [vI (nI c), vI (nI q)] [] dX8_land_43 lkX8_80 (Or.inl ⟨_, _, _, rfl, rfl, rfl⟩) rfl (Nat.le_of_ble_eq_true rfl) rfl (Nat.le_of_ble_eq_true rfl) (c_changeKind isB7 c (by omega) (nI q)) ?_
          refine Go.ireturn .int dX8_land_46 rfl rfl ?_
          exact ⟨congrArg (fun z => some (vI z)) (by simp (disch := omega) only [ms_self, ms_ne, upd_self, upd_ne, hI.1 c hc]), ((hI.height hc hH8 _).kind hc (by rw [nH_same (upd_ne _ _ (by omega))]; exact hH8) _), (((Fr.rf _ _).ms _ _ (by decide)).ms _ _ (by decide))⟩
        · have hs5 : μ5 77 = s := (k5 77 (by decide)).trans hs
          show Go V (d + 3) mX9_land 0 [some (vR 76), some (vI (nI c)), some (vI (nI q)), some (vI height)] [] μ5 _
          refine Go.iload_n dX9_land_0 rfl ?_
          refine Go.callSi [vI (nI c)] [] dX9_land_1 lkX9_90 rfl (Nat.le_of_ble_eq_true rfl) rfl (Nat.le_of_ble_eq_true rfl) (m_isCell (nI c)) ?_
          refine Go.if_eqb_f (tgt := 31) dX9_land_4 (by decide) h1 ?_
          refine Go.iload_n dX9_land_7 rfl ?_
          refine Go.i2l dX9_land_8 ?_
          refine Go.lconst (v := (nI 0).toInt64) dX9_land_9 rfl ?_
          refine Go.at 10 rfl ?_
          refine Go.ldc2 (v := (nI 5).toInt64) dX9_land_10 clX9_94 ?_
          refine Go.callSi [vL ((nI q).toInt64), vL ((nI 0).toInt64), vL ((nI 5).toInt64)] [] dX9_land_13 lkX9_65 rfl (Nat.le_of_ble_eq_true rfl) rfl (Nat.le_of_ble_eq_true rfl) (m_isIn (nI q) (nI 0) (nI 5)) ?_
          refine Go.if_eqb_f (tgt := 31) dX9_land_16 (by decide) h2 ?_
          refine Go.iload_n dX9_land_19 rfl ?_
          refine Go.i2l dX9_land_20 ?_
          refine Go.lconst (v := (nI 0).toInt64) dX9_land_21 rfl ?_
          refine Go.at 22 rfl ?_
          refine Go.ldc2 (v := (nI 20).toInt64) dX9_land_22 clX9_96 ?_
          refine Go.callSi [vL height.toInt64, vL ((nI 0).toInt64), vL ((nI 20).toInt64)] [] dX9_land_25 lkX9_65 rfl (Nat.le_of_ble_eq_true rfl) rfl (Nat.le_of_ble_eq_true rfl) (m_isIn height (nI 0) (nI 20)) ?_
          refine Go.if_neb_t (tgt := 34) dX9_land_28 (by decide) h3 ?_
          refine Go.aload_n dX9_land_34 rfl ?_
          refine Go.iload_n dX9_land_35 rfl ?_
          refine Go.iconst (v := nI 1) dX9_land_36 rfl ?_
          refine Go.at 37 rfl ?_
          refine Go.iload_n dX9_land_37 rfl ?_
          refine Go.callVv 76 [vI (nI c), vI (nI 1), vI height] [] dX9_land_38 lkX9_99 (Or.inl ⟨_, _, _, rfl, rfl, rfl⟩) rfl (Nat.le_of_ble_eq_true rfl) rfl (Nat.le_of_ble_eq_true rfl) (m_sets c 1 (by omega) (by decide) height) ?_
          refine Go.aload_n dX9_land_41 rfl ?_
          refine Go.bipush (v := nI 11) dX9_land_42 rfl ?_
          refine Go.iconst (v := nI 4) dX9_land_44 rfl ?_
          refine Go.iload_n dX9_land_45 rfl ?_
          refine Go.at 46 rfl ?_
          refine Go.imulN dX9_land_46 ?_
          refine Go.iaddN dX9_land_47 ?_
          refine Go.iload_n dX9_land_48 rfl ?_
          refine Go.callVi 76 [vI (nI (11 + (4 * c))), vI (nI q)] [] dX9_land_49 lkX9_103 (Or.inl ⟨_, _, _, rfl, rfl, rfl⟩) rfl (Nat.le_of_ble_eq_true rfl) rfl (Nat.le_of_ble_eq_true rfl) (m_becomes (11 + (4 * c)) (by omega) (nI q)) ?_
          refine Go.ireturn .int dX9_land_52 rfl rfl ?_
          exact ⟨congrArg (fun z => some (vI z)) (by simp (disch := omega) only [ms_self, ms_ne, upd_self, upd_ne, hs5]), by simp only [ms_self, hs5], (((Fr.rf _ _).ms _ _ (by decide)).ms _ _ (by decide))⟩
      · skip
        refine OpOK.q (x := (-1000000001)) hS ?_ (fun μ5 k5 => ?_)
        · show Go V (d + 3) mX8_land 0 [some (vR 0), some (vI (nI c)), some (vI (nI q)), some (vI height)] [] μ _
          refine Go.iload_n dX8_land_0 rfl ?_
          refine Go.callSi [vI (nI c)] [] dX8_land_1 lkX8_65 rfl (Nat.le_of_ble_eq_true rfl) rfl (Nat.le_of_ble_eq_true rfl) (c_isCell (nI c)) ?_
          refine Go.if_eqb_f (tgt := 24) dX8_land_4 (by decide) h1 ?_
          refine Go.iload_n dX8_land_7 rfl ?_
          refine Go.callSi [vI (nI q)] [] dX8_land_8 lkX8_69 rfl (Nat.le_of_ble_eq_true rfl) rfl (Nat.le_of_ble_eq_true rfl) (c_isKind (nI q)) ?_
          refine Go.if_eqb_f (tgt := 24) dX8_land_11 (by decide) h2 ?_
          refine Go.at 14 rfl ?_
          refine Go.iload_n dX8_land_14 rfl ?_
          refine Go.iconst (v := nI 0) dX8_land_15 rfl ?_
          refine Go.bipush (v := nI 20) dX8_land_16 rfl ?_
          refine Go.callSi [vI height, vI (nI 0), vI (nI 20)] [] dX8_land_18 lkX8_72 rfl (Nat.le_of_ble_eq_true rfl) rfl (Nat.le_of_ble_eq_true rfl) (c_within height (nI 0) (nI 20)) ?_
          refine Go.if_neb_f (tgt := 27) dX8_land_21 (by decide) h3 ?_
          refine Go.ldc dX8_land_24 cnX8_76 ?_
          refine Go.at 26 rfl ?_
          refine Go.ireturn .int dX8_land_26 rfl rfl ?_
          exact ⟨rfl, Fr.rf _ _⟩
        · have hs5 : μ5 77 = s := (k5 77 (by decide)).trans hs
          show Go V (d + 3) mX9_land 0 [some (vR 76), some (vI (nI c)), some (vI (nI q)), some (vI height)] [] μ5 _
          refine Go.iload_n dX9_land_0 rfl ?_
          refine Go.callSi [vI (nI c)] [] dX9_land_1 lkX9_90 rfl (Nat.le_of_ble_eq_true rfl) rfl (Nat.le_of_ble_eq_true rfl) (m_isCell (nI c)) ?_
          refine Go.if_eqb_f (tgt := 31) dX9_land_4 (by decide) h1 ?_
          refine Go.iload_n dX9_land_7 rfl ?_
          refine Go.i2l dX9_land_8 ?_
          refine Go.lconst (v := (nI 0).toInt64) dX9_land_9 rfl ?_
          refine Go.at 10 rfl ?_
          refine Go.ldc2 (v := (nI 5).toInt64) dX9_land_10 clX9_94 ?_
          refine Go.callSi [vL ((nI q).toInt64), vL ((nI 0).toInt64), vL ((nI 5).toInt64)] [] dX9_land_13 lkX9_65 rfl (Nat.le_of_ble_eq_true rfl) rfl (Nat.le_of_ble_eq_true rfl) (m_isIn (nI q) (nI 0) (nI 5)) ?_
          refine Go.if_eqb_f (tgt := 31) dX9_land_16 (by decide) h2 ?_
          refine Go.iload_n dX9_land_19 rfl ?_
          refine Go.i2l dX9_land_20 ?_
          refine Go.lconst (v := (nI 0).toInt64) dX9_land_21 rfl ?_
          refine Go.at 22 rfl ?_
          refine Go.ldc2 (v := (nI 20).toInt64) dX9_land_22 clX9_96 ?_
          refine Go.callSi [vL height.toInt64, vL ((nI 0).toInt64), vL ((nI 20).toInt64)] [] dX9_land_25 lkX9_65 rfl (Nat.le_of_ble_eq_true rfl) rfl (Nat.le_of_ble_eq_true rfl) (m_isIn height (nI 0) (nI 20)) ?_
          refine Go.if_neb_f (tgt := 34) dX9_land_28 (by decide) h3 ?_
          refine Go.ldc dX9_land_31 cnX9_98 ?_
          refine Go.ireturn .int dX9_land_33 rfl rfl ?_
          exact ⟨rfl, Fr.rf _ _⟩
    · skip
      refine OpOK.q (x := (-1000000001)) hS ?_ (fun μ5 k5 => ?_)
      · show Go V (d + 3) mX8_land 0 [some (vR 0), some (vI (nI c)), some (vI kind), some (vI height)] [] μ _
        refine Go.iload_n dX8_land_0 rfl ?_
        refine Go.callSi [vI (nI c)] [] dX8_land_1 lkX8_65 rfl (Nat.le_of_ble_eq_true rfl) rfl (Nat.le_of_ble_eq_true rfl) (c_isCell (nI c)) ?_
        refine Go.if_eqb_f (tgt := 24) dX8_land_4 (by decide) h1 ?_
        refine Go.iload_n dX8_land_7 rfl ?_
        refine Go.callSi [vI kind] [] dX8_land_8 lkX8_69 rfl (Nat.le_of_ble_eq_true rfl) rfl (Nat.le_of_ble_eq_true rfl) (c_isKind kind) ?_
        refine Go.if_eqb_t (tgt := 24) dX8_land_11 (by decide) h2 ?_
        refine Go.at 24 rfl ?_
        refine Go.ldc dX8_land_24 cnX8_76 ?_
        refine Go.ireturn .int dX8_land_26 rfl rfl ?_
        exact ⟨rfl, Fr.rf _ _⟩
      · have hs5 : μ5 77 = s := (k5 77 (by decide)).trans hs
        show Go V (d + 3) mX9_land 0 [some (vR 76), some (vI (nI c)), some (vI kind), some (vI height)] [] μ5 _
        refine Go.iload_n dX9_land_0 rfl ?_
        refine Go.callSi [vI (nI c)] [] dX9_land_1 lkX9_90 rfl (Nat.le_of_ble_eq_true rfl) rfl (Nat.le_of_ble_eq_true rfl) (m_isCell (nI c)) ?_
        refine Go.if_eqb_f (tgt := 31) dX9_land_4 (by decide) h1 ?_
        refine Go.iload_n dX9_land_7 rfl ?_
        refine Go.i2l dX9_land_8 ?_
        refine Go.lconst (v := (nI 0).toInt64) dX9_land_9 rfl ?_
        refine Go.at 10 rfl ?_
        refine Go.ldc2 (v := (nI 5).toInt64) dX9_land_10 clX9_94 ?_
        refine Go.callSi [vL kind.toInt64, vL ((nI 0).toInt64), vL ((nI 5).toInt64)] [] dX9_land_13 lkX9_65 rfl (Nat.le_of_ble_eq_true rfl) rfl (Nat.le_of_ble_eq_true rfl) (m_isIn kind (nI 0) (nI 5)) ?_
        refine Go.if_eqb_t (tgt := 31) dX9_land_16 (by decide) h2 ?_
        refine Go.ldc dX9_land_31 cnX9_98 ?_
        refine Go.ireturn .int dX9_land_33 rfl rfl ?_
        exact ⟨rfl, Fr.rf _ _⟩
  · skip
    refine OpOK.q (x := (-1000000001)) hS ?_ (fun μ5 k5 => ?_)
    · show Go V (d + 3) mX8_land 0 [some (vR 0), some (vI cell), some (vI kind), some (vI height)] [] μ _
      refine Go.iload_n dX8_land_0 rfl ?_
      refine Go.callSi [vI cell] [] dX8_land_1 lkX8_65 rfl (Nat.le_of_ble_eq_true rfl) rfl (Nat.le_of_ble_eq_true rfl) (c_isCell cell) ?_
      refine Go.if_eqb_t (tgt := 24) dX8_land_4 (by decide) h1 ?_
      refine Go.ldc dX8_land_24 cnX8_76 ?_
      refine Go.ireturn .int dX8_land_26 rfl rfl ?_
      exact ⟨rfl, Fr.rf _ _⟩
    · have hs5 : μ5 77 = s := (k5 77 (by decide)).trans hs
      show Go V (d + 3) mX9_land 0 [some (vR 76), some (vI cell), some (vI kind), some (vI height)] [] μ5 _
      refine Go.iload_n dX9_land_0 rfl ?_
      refine Go.callSi [vI cell] [] dX9_land_1 lkX9_90 rfl (Nat.le_of_ble_eq_true rfl) rfl (Nat.le_of_ble_eq_true rfl) (m_isCell cell) ?_
      refine Go.if_eqb_t (tgt := 31) dX9_land_4 (by decide) h1 ?_
      refine Go.ldc dX9_land_31 cnX9_98 ?_
      refine Go.ireturn .int dX9_land_33 rfl rfl ?_
      exact ⟨rfl, Fr.rf _ _⟩
theorem op_turns {V : VV} {d : Nat} {μ : Memo} (hS : Sim μ) (cell : Int32) (kind : Int32) : OpOK V (d + 3) mX8_turns mX9_turns [vI cell, vI kind] μ := by
  obtain ⟨⟨hT, hCo, hKd, hO, hH⟩, hI, hX, hIm, hSh, hSl, hTp, hWt⟩ := id hS
  have hIs : IsOK (μ 77) := hS.1.is
  generalize hs : μ 77 = s at hT hCo hKd hO hH hI hX hIs
  have hH8 : nH s ≤ 8 := hH.1
  by_cases h1 : nI 0 ≤ cell ∧ cell ≤ nI 29
  · skip
    obtain ⟨c, hc0, rfl⟩ := in_nI (by decide) h1
    have hc : c < 30 := by omega
    by_cases h2 : nI 0 ≤ kind ∧ kind ≤ nI 5
    · skip
      obtain ⟨q, hq0, rfl⟩ := in_nI (by decide) h2
      have hq : q < 6 := by omega
      refine OpOK.m (x := s (11 + 4 * c)) (upd s (11 + 4 * c) (nI q)) hS (hIs.kind hc hq) (by simp (disch := omega) only [upd_ne, hs]) (fun j hj => by simp (disch := omega) only [upd_ne, hs]) ?_ (fun μ5 k5 => ?_)
      · show Go V (d + 3) mX8_turns 0 [some (vR 0), some (vI (nI c)), some (vI (nI q))] [] μ _
        refine Go.iload_n dX8_turns_0 rfl ?_
        refine Go.callSi [vI (nI c)] [] dX8_turns_1 lkX8_65 rfl (Nat.le_of_ble_eq_true rfl) rfl (Nat.le_of_ble_eq_true rfl) (c_isCell (nI c)) ?_
        refine Go.if_eqb_f (tgt := 14) dX8_turns_4 (by decide) h1 ?_
        refine Go.iload_n dX8_turns_7 rfl ?_
        refine Go.callSi [vI (nI q)] [] dX8_turns_8 lkX8_69 rfl (Nat.le_of_ble_eq_true rfl) rfl (Nat.le_of_ble_eq_true rfl) (c_isKind (nI q)) ?_
        refine Go.if_neb_t (tgt := 17) dX8_turns_11 (by decide) h2 ?_
        refine Go.at 17 rfl ?_
        refine Go.aload_n dX8_turns_17 rfl ?_
        refine Go.getR dX8_turns_18 flX8_21 rfl ?_
        refine Go.iload_n dX8_turns_21 rfl ?_
        refine Go.iload_n dX8_turns_22 rfl ?_
        refine Go.callVi 7 [vI (nI c), vI (nI q)] [] dX8_turns_23 lkX8_80 (Or.inl ⟨_, _, _, rfl, rfl, rfl⟩) rfl (Nat.le_of_ble_eq_true rfl) rfl (Nat.le_of_ble_eq_true rfl) (c_changeKind isB7 c (by omega) (nI q)) ?_
        refine Go.ireturn .int dX8_turns_26 rfl rfl ?_
        exact ⟨congrArg (fun z => some (vI z)) (by simp (disch := omega) only [ms_self, ms_ne, upd_self, upd_ne, hI.1 c hc]), (hI.kind hc hH8 _), ((Fr.rf _ _).ms _ _ (by decide))⟩
      · have hs5 : μ5 77 = s := (k5 77 (by decide)).trans hs
        show Go V (d + 3) mX9_turns 0 [some (vR 76), some (vI (nI c)), some (vI (nI q))] [] μ5 _
        refine Go.iload_n dX9_turns_0 rfl ?_
        refine Go.callSi [vI (nI c)] [] dX9_turns_1 lkX9_90 rfl (Nat.le_of_ble_eq_true rfl) rfl (Nat.le_of_ble_eq_true rfl) (m_isCell (nI c)) ?_
        refine Go.if_eqb_f (tgt := 33) dX9_turns_4 (by decide) h1 ?_
        refine Go.iload_n dX9_turns_7 rfl ?_
        refine Go.i2l dX9_turns_8 ?_
        refine Go.lconst (v := (nI 0).toInt64) dX9_turns_9 rfl ?_
        refine Go.at 10 rfl ?_
        refine Go.ldc2 (v := (nI 5).toInt64) dX9_turns_10 clX9_94 ?_
        refine Go.callSi [vL ((nI q).toInt64), vL ((nI 0).toInt64), vL ((nI 5).toInt64)] [] dX9_turns_13 lkX9_65 rfl (Nat.le_of_ble_eq_true rfl) rfl (Nat.le_of_ble_eq_true rfl) (m_isIn (nI q) (nI 0) (nI 5)) ?_
        refine Go.if_eqb_f (tgt := 33) dX9_turns_16 (by decide) h2 ?_
        refine Go.aload_n dX9_turns_19 rfl ?_
        refine Go.bipush (v := nI 11) dX9_turns_20 rfl ?_
        refine Go.iconst (v := nI 4) dX9_turns_22 rfl ?_
        refine Go.at 23 rfl ?_
        refine Go.iload_n dX9_turns_23 rfl ?_
        refine Go.imulN dX9_turns_24 ?_
        refine Go.iaddN dX9_turns_25 ?_
        refine Go.iload_n dX9_turns_26 rfl ?_
        refine Go.callVi 76 [vI (nI (11 + (4 * c))), vI (nI q)] [] dX9_turns_27 lkX9_103 (Or.inl ⟨_, _, _, rfl, rfl, rfl⟩) rfl (Nat.le_of_ble_eq_true rfl) rfl (Nat.le_of_ble_eq_true rfl) (m_becomes (11 + (4 * c)) (by omega) (nI q)) ?_
        refine Go.goto (tgt := 35) dX9_turns_30 (by decide) ?_
        refine Go.at 35 rfl ?_
        refine Go.ireturn .int dX9_turns_35 rfl rfl ?_
        exact ⟨congrArg (fun z => some (vI z)) (by simp (disch := omega) only [ms_self, ms_ne, upd_self, upd_ne, hs5]), by simp only [ms_self, hs5], ((Fr.rf _ _).ms _ _ (by decide))⟩
    · skip
      refine OpOK.q (x := (-1000000001)) hS ?_ (fun μ5 k5 => ?_)
      · show Go V (d + 3) mX8_turns 0 [some (vR 0), some (vI (nI c)), some (vI kind)] [] μ _
        refine Go.iload_n dX8_turns_0 rfl ?_
        refine Go.callSi [vI (nI c)] [] dX8_turns_1 lkX8_65 rfl (Nat.le_of_ble_eq_true rfl) rfl (Nat.le_of_ble_eq_true rfl) (c_isCell (nI c)) ?_
        refine Go.if_eqb_f (tgt := 14) dX8_turns_4 (by decide) h1 ?_
        refine Go.iload_n dX8_turns_7 rfl ?_
        refine Go.callSi [vI kind] [] dX8_turns_8 lkX8_69 rfl (Nat.le_of_ble_eq_true rfl) rfl (Nat.le_of_ble_eq_true rfl) (c_isKind kind) ?_
        refine Go.if_neb_f (tgt := 17) dX8_turns_11 (by decide) h2 ?_
        refine Go.at 14 rfl ?_
        refine Go.ldc dX8_turns_14 cnX8_76 ?_
        refine Go.ireturn .int dX8_turns_16 rfl rfl ?_
        exact ⟨rfl, Fr.rf _ _⟩
      · have hs5 : μ5 77 = s := (k5 77 (by decide)).trans hs
        show Go V (d + 3) mX9_turns 0 [some (vR 76), some (vI (nI c)), some (vI kind)] [] μ5 _
        refine Go.iload_n dX9_turns_0 rfl ?_
        refine Go.callSi [vI (nI c)] [] dX9_turns_1 lkX9_90 rfl (Nat.le_of_ble_eq_true rfl) rfl (Nat.le_of_ble_eq_true rfl) (m_isCell (nI c)) ?_
        refine Go.if_eqb_f (tgt := 33) dX9_turns_4 (by decide) h1 ?_
        refine Go.iload_n dX9_turns_7 rfl ?_
        refine Go.i2l dX9_turns_8 ?_
        refine Go.lconst (v := (nI 0).toInt64) dX9_turns_9 rfl ?_
        refine Go.at 10 rfl ?_
        refine Go.ldc2 (v := (nI 5).toInt64) dX9_turns_10 clX9_94 ?_
        refine Go.callSi [vL kind.toInt64, vL ((nI 0).toInt64), vL ((nI 5).toInt64)] [] dX9_turns_13 lkX9_65 rfl (Nat.le_of_ble_eq_true rfl) rfl (Nat.le_of_ble_eq_true rfl) (m_isIn kind (nI 0) (nI 5)) ?_
        refine Go.if_eqb_t (tgt := 33) dX9_turns_16 (by decide) h2 ?_
        refine Go.ldc dX9_turns_33 cnX9_98 ?_
        refine Go.ireturn .int dX9_turns_35 rfl rfl ?_
        exact ⟨rfl, Fr.rf _ _⟩
  · skip
    refine OpOK.q (x := (-1000000001)) hS ?_ (fun μ5 k5 => ?_)
    · show Go V (d + 3) mX8_turns 0 [some (vR 0), some (vI cell), some (vI kind)] [] μ _
      refine Go.iload_n dX8_turns_0 rfl ?_
      refine Go.callSi [vI cell] [] dX8_turns_1 lkX8_65 rfl (Nat.le_of_ble_eq_true rfl) rfl (Nat.le_of_ble_eq_true rfl) (c_isCell cell) ?_
      refine Go.if_eqb_t (tgt := 14) dX8_turns_4 (by decide) h1 ?_
      refine Go.ldc dX8_turns_14 cnX8_76 ?_
      refine Go.ireturn .int dX8_turns_16 rfl rfl ?_
      exact ⟨rfl, Fr.rf _ _⟩
    · have hs5 : μ5 77 = s := (k5 77 (by decide)).trans hs
      show Go V (d + 3) mX9_turns 0 [some (vR 76), some (vI cell), some (vI kind)] [] μ5 _
      refine Go.iload_n dX9_turns_0 rfl ?_
      refine Go.callSi [vI cell] [] dX9_turns_1 lkX9_90 rfl (Nat.le_of_ble_eq_true rfl) rfl (Nat.le_of_ble_eq_true rfl) (m_isCell cell) ?_
      refine Go.if_eqb_t (tgt := 33) dX9_turns_4 (by decide) h1 ?_
      refine Go.ldc dX9_turns_33 cnX9_98 ?_
      refine Go.ireturn .int dX9_turns_35 rfl rfl ?_
      exact ⟨rfl, Fr.rf _ _⟩
theorem op_seed {V : VV} {d : Nat} {μ : Memo} (hS : Sim μ) (v : Int32) : OpOK V (d + 3) mX8_seed mX9_seed [vI v] μ := by
  obtain ⟨⟨hT, hCo, hKd, hO, hH⟩, hI, hX, hIm, hSh, hSl, hTp, hWt⟩ := id hS
  have hIs : IsOK (μ 77) := hS.1.is
  generalize hs : μ 77 = s at hT hCo hKd hO hH hI hX hIs
  have hH8 : nH s ≤ 8 := hH.1
  refine OpOK.m (x := s 4) (upd s 4 v) hS (hIs.low _ (by decide) (by decide)) (by simp (disch := omega) only [upd_ne, hs]) (fun j hj => by simp (disch := omega) only [upd_ne, hs]) ?_ (fun μ5 k5 => ?_)
  · show Go V (d + 3) mX8_seed 0 [some (vR 0), some (vI v), none] [] μ _
    refine Go.aload_n dX8_seed_0 rfl ?_
    refine Go.getR dX8_seed_1 flX8_21 rfl ?_
    refine Go.getI dX8_seed_4 flX8_134 rfl ?_
    refine Go.topE (s 4) hI.2.2.2.2.2.2.1 ?_
    refine Go.istore_n (ls' := [some (vR 0), some (vI v), some (vI (s 4))]) dX8_seed_7 (by decide) rfl ?_
    refine Go.aload_n dX8_seed_8 rfl ?_
    refine Go.getR dX8_seed_9 flX8_21 rfl ?_
    refine Go.at 12 rfl ?_
    refine Go.iload_n dX8_seed_12 rfl ?_
    refine Go.put dX8_seed_13 flX8_134 rfl rfl rfl rfl ?_
    refine Go.iload_n dX8_seed_16 rfl ?_
    refine Go.ireturn .int dX8_seed_17 rfl rfl ?_
    exact ⟨rfl, (hI.z _), ((Fr.rf _ _).ms _ _ (by decide))⟩
  · have hs5 : μ5 77 = s := (k5 77 (by decide)).trans hs
    show Go V (d + 3) mX9_seed 0 [some (vR 76), some (vI v)] [] μ5 _
    refine Go.aload_n dX9_seed_0 rfl ?_
    refine Go.iconst (v := nI 4) dX9_seed_1 rfl ?_
    refine Go.iload_n dX9_seed_2 rfl ?_
    refine Go.callVi 76 [vI (nI 4), vI v] [] dX9_seed_3 lkX9_103 (Or.inl ⟨_, _, _, rfl, rfl, rfl⟩) rfl (Nat.le_of_ble_eq_true rfl) rfl (Nat.le_of_ble_eq_true rfl) (m_becomes 4 (by omega) v) ?_
    refine Go.ireturn .int dX9_seed_6 rfl rfl ?_
    exact ⟨congrArg (fun z => some (vI z)) (by simp (disch := omega) only [ms_self, ms_ne, upd_self, upd_ne, hs5]), by simp only [ms_self, hs5], ((Fr.rf _ _).ms _ _ (by decide))⟩
theorem op_settle {V : VV} {d : Nat} {μ : Memo} (hS : Sim μ) (hx : Int32) (cell : Int32) : OpOK V (d + 3) mX8_settle mX9_settle [vI hx, vI cell] μ := by
  obtain ⟨⟨hT, hCo, hKd, hO, hH⟩, hI, hX, hIm, hSh, hSl, hTp, hWt⟩ := id hS
  have hIs : IsOK (μ 77) := hS.1.is
  generalize hs : μ 77 = s at hT hCo hKd hO hH hI hX hIs
  have hH8 : nH s ≤ 8 := hH.1
  by_cases h1 : nI 0 ≤ hx ∧ hx ≤ s 0 - nI 1
  · skip
    obtain ⟨h, hh0, rfl⟩ := hou_of hH h1
    have hh : h < nH s := hh0
    have h8 := hH.1
    by_cases h2 : cell = (-1000000005)
    · skip
      subst h2
      refine OpOK.m (x := oN (s (131 + 2 * h + 1))) (upd s (131 + 2 * h + 1) (-1)) hS (hIs.place hh (Or.inl rfl)) (by simp (disch := omega) only [upd_ne, hs]) (fun j hj => by simp (disch := omega) only [upd_ne, hs]) ?_ (fun μ5 k5 => ?_)
      · show Go V (d + 3) mX8_settle 0 [some (vR 0), some (vI (nI h)), some (vI (-1000000005)), none] [] μ _
        refine Go.aload_n dX8_settle_0 rfl ?_
        refine Go.iload_n dX8_settle_1 rfl ?_
        refine Go.callVi 0 [vI (nI h)] [] dX8_settle_2 lkX8_173 (Or.inl ⟨_, _, _, rfl, rfl, rfl⟩) rfl (Nat.le_of_ble_eq_true rfl) rfl (Nat.le_of_ble_eq_true rfl) (c_isHouse hI (nI h)) ?_
        refine Go.if_eqb_f (tgt := 21) dX8_settle_5 (by decide) h1 ?_
        refine Go.iload_n dX8_settle_8 rfl ?_
        refine Go.ldc dX8_settle_9 cnX8_118 ?_
        refine Go.at 11 rfl ?_
        refine Go.icmp_eq_t (tgt := 24) dX8_settle_11 (by decide) (by decide) ?_
        refine Go.aload_n dX8_settle_24 rfl ?_
        refine Go.getR dX8_settle_25 flX8_21 rfl ?_
        refine Go.getR dX8_settle_28 flX8_179 rfl ?_
        refine Go.iload_n dX8_settle_31 rfl ?_
        refine Go.iaload h dX8_settle_32 rfl (by omega) rfl ?_
        refine Go.topE (oN (s (131 + 2 * h + 1))) (hI.2.2.1 h hh).2 ?_
        refine Go.at 33 rfl ?_
        refine Go.istore_n (ls' := [some (vR 0), some (vI (nI h)), some (vI (-1000000005)), some (vI (oN (s (131 + 2 * h + 1))))]) dX8_settle_33 (by decide) rfl ?_
        refine Go.aload_n dX8_settle_34 rfl ?_
        refine Go.getR dX8_settle_35 flX8_21 rfl ?_
        refine Go.getR dX8_settle_38 flX8_179 rfl ?_
        refine Go.iload_n dX8_settle_41 rfl ?_
        refine Go.iload_n dX8_settle_42 rfl ?_
        refine Go.at 43 rfl ?_
        refine Go.iastore h dX8_settle_43 rfl (by omega) rfl ?_
        refine Go.iload_n dX8_settle_44 rfl ?_
        refine Go.ireturn .int dX8_settle_45 rfl rfl ?_
        exact ⟨rfl, (hI.place hh hH8 oN_n1.symm), ((Fr.rf _ _).ms _ _ (by decide))⟩
      · have hs5 : μ5 77 = s := (k5 77 (by decide)).trans hs
        show Go V (d + 3) mX9_settle 0 [some (vR 76), some (vI (nI h)), some (vI (-1000000005))] [] μ5 _
        refine Go.aload_n dX9_settle_0 rfl ?_
        refine Go.iload_n dX9_settle_1 rfl ?_
        refine Go.callVi 76 [vI (nI h)] [] dX9_settle_2 lkX9_165 (Or.inl ⟨_, _, _, rfl, rfl, rfl⟩) rfl (Nat.le_of_ble_eq_true rfl) rfl (Nat.le_of_ble_eq_true rfl) (m_isHouse hs5 (nI h)) ?_
        refine Go.if_eqb_f (tgt := 21) dX9_settle_5 (by decide) h1 ?_
        refine Go.iload_n dX9_settle_8 rfl ?_
        refine Go.ldc dX9_settle_9 cnX9_64 ?_
        refine Go.at 11 rfl ?_
        refine Go.icmp_eq_t (tgt := 24) dX9_settle_11 (by decide) (by decide) ?_
        refine Go.aload_n dX9_settle_24 rfl ?_
        refine Go.sipush (v := nI 131) dX9_settle_25 rfl ?_
        refine Go.iconst (v := nI 2) dX9_settle_28 rfl ?_
        refine Go.iload_n dX9_settle_29 rfl ?_
        refine Go.imulN dX9_settle_30 ?_
        refine Go.at 31 rfl ?_
        refine Go.iaddN dX9_settle_31 ?_
        refine Go.iconst (v := nI 1) dX9_settle_32 rfl ?_
        refine Go.iaddN dX9_settle_33 ?_
        refine Go.iload_n dX9_settle_34 rfl ?_
        refine Go.ldc dX9_settle_35 cnX9_64 ?_
        refine Go.icmp_ne_f (tgt := 44) dX9_settle_37 (by decide) (by decide) ?_
        refine Go.at 40 rfl ?_
        refine Go.iconst (v := (-1)) dX9_settle_40 rfl ?_
        refine Go.goto (tgt := 45) dX9_settle_41 (by decide) ?_
        refine Go.callVi 76 [vI (nI ((131 + (2 * h)) + 1)), vI (-1)] [] dX9_settle_45 lkX9_103 (Or.inl ⟨_, _, _, rfl, rfl, rfl⟩) rfl (Nat.le_of_ble_eq_true rfl) rfl (Nat.le_of_ble_eq_true rfl) (m_becomes ((131 + (2 * h)) + 1) (by omega) (-1)) ?_
        refine Go.callSi [vI (μ5 77 ((131 + (2 * h)) + 1))] [] dX9_settle_48 lkX9_112 rfl (Nat.le_of_ble_eq_true rfl) rfl (Nat.le_of_ble_eq_true rfl) (m_orNone (μ5 77 ((131 + (2 * h)) + 1))) ?_
        refine Go.ireturn .int dX9_settle_51 rfl rfl ?_
        exact ⟨congrArg (fun z => some (vI z)) (by simp (disch := omega) only [ms_self, ms_ne, upd_self, upd_ne, hs5]), by simp only [ms_self, hs5], ((Fr.rf _ _).ms _ _ (by decide))⟩
    · skip
      by_cases h3 : nI 0 ≤ cell ∧ cell ≤ nI 29
      · skip
        obtain ⟨c, hc0, rfl⟩ := in_nI (by decide) h3
        have hc : c < 30 := by omega
        refine OpOK.m (x := oN (s (131 + 2 * h + 1))) (upd s (131 + 2 * h + 1) (nI c)) hS (hIs.place hh (Or.inr ⟨c, hc, rfl⟩)) (by simp (disch := omega) only [upd_ne, hs]) (fun j hj => by simp (disch := omega) only [upd_ne, hs]) ?_ (fun μ5 k5 => ?_)
        · show Go V (d + 3) mX8_settle 0 [some (vR 0), some (vI (nI h)), some (vI (nI c)), none] [] μ _
          refine Go.aload_n dX8_settle_0 rfl ?_
          refine Go.iload_n dX8_settle_1 rfl ?_
          refine Go.callVi 0 [vI (nI h)] [] dX8_settle_2 lkX8_173 (Or.inl ⟨_, _, _, rfl, rfl, rfl⟩) rfl (Nat.le_of_ble_eq_true rfl) rfl (Nat.le_of_ble_eq_true rfl) (c_isHouse hI (nI h)) ?_
          refine Go.if_eqb_f (tgt := 21) dX8_settle_5 (by decide) h1 ?_
          refine Go.iload_n dX8_settle_8 rfl ?_
          refine Go.ldc dX8_settle_9 cnX8_118 ?_
          refine Go.at 11 rfl ?_
          refine Go.icmp_eq_f (tgt := 24) dX8_settle_11 (by decide) h2 ?_
          refine Go.iload_n dX8_settle_14 rfl ?_
          refine Go.callSi [vI (nI c)] [] dX8_settle_15 lkX8_65 rfl (Nat.le_of_ble_eq_true rfl) rfl (Nat.le_of_ble_eq_true rfl) (c_isCell (nI c)) ?_
          refine Go.if_neb_t (tgt := 24) dX8_settle_18 (by decide) h3 ?_
          refine Go.aload_n dX8_settle_24 rfl ?_
          refine Go.getR dX8_settle_25 flX8_21 rfl ?_
          refine Go.at 28 rfl ?_
          refine Go.getR dX8_settle_28 flX8_179 rfl ?_
          refine Go.iload_n dX8_settle_31 rfl ?_
          refine Go.iaload h dX8_settle_32 rfl (by omega) rfl ?_
          refine Go.topE (oN (s (131 + 2 * h + 1))) (hI.2.2.1 h hh).2 ?_
          refine Go.istore_n (ls' := [some (vR 0), some (vI (nI h)), some (vI (nI c)), some (vI (oN (s (131 + 2 * h + 1))))]) dX8_settle_33 (by decide) rfl ?_
          refine Go.aload_n dX8_settle_34 rfl ?_
          refine Go.getR dX8_settle_35 flX8_21 rfl ?_
          refine Go.at 38 rfl ?_
          refine Go.getR dX8_settle_38 flX8_179 rfl ?_
          refine Go.iload_n dX8_settle_41 rfl ?_
          refine Go.iload_n dX8_settle_42 rfl ?_
          refine Go.iastore h dX8_settle_43 rfl (by omega) rfl ?_
          refine Go.iload_n dX8_settle_44 rfl ?_
          refine Go.ireturn .int dX8_settle_45 rfl rfl ?_
          exact ⟨rfl, (hI.place hh hH8 (oN_n (by omega)).symm), ((Fr.rf _ _).ms _ _ (by decide))⟩
        · have hs5 : μ5 77 = s := (k5 77 (by decide)).trans hs
          show Go V (d + 3) mX9_settle 0 [some (vR 76), some (vI (nI h)), some (vI (nI c))] [] μ5 _
          refine Go.aload_n dX9_settle_0 rfl ?_
          refine Go.iload_n dX9_settle_1 rfl ?_
          refine Go.callVi 76 [vI (nI h)] [] dX9_settle_2 lkX9_165 (Or.inl ⟨_, _, _, rfl, rfl, rfl⟩) rfl (Nat.le_of_ble_eq_true rfl) rfl (Nat.le_of_ble_eq_true rfl) (m_isHouse hs5 (nI h)) ?_
          refine Go.if_eqb_f (tgt := 21) dX9_settle_5 (by decide) h1 ?_
          refine Go.iload_n dX9_settle_8 rfl ?_
          refine Go.ldc dX9_settle_9 cnX9_64 ?_
          refine Go.at 11 rfl ?_
          refine Go.icmp_eq_f (tgt := 24) dX9_settle_11 (by decide) h2 ?_
          refine Go.iload_n dX9_settle_14 rfl ?_
          refine Go.callSi [vI (nI c)] [] dX9_settle_15 lkX9_90 rfl (Nat.le_of_ble_eq_true rfl) rfl (Nat.le_of_ble_eq_true rfl) (m_isCell (nI c)) ?_
          refine Go.if_neb_t (tgt := 24) dX9_settle_18 (by decide) h3 ?_
          refine Go.aload_n dX9_settle_24 rfl ?_
          refine Go.sipush (v := nI 131) dX9_settle_25 rfl ?_
          refine Go.at 28 rfl ?_
          refine Go.iconst (v := nI 2) dX9_settle_28 rfl ?_
          refine Go.iload_n dX9_settle_29 rfl ?_
          refine Go.imulN dX9_settle_30 ?_
          refine Go.iaddN dX9_settle_31 ?_
          refine Go.iconst (v := nI 1) dX9_settle_32 rfl ?_
          refine Go.iaddN dX9_settle_33 ?_
          refine Go.at 34 rfl ?_
          refine Go.iload_n dX9_settle_34 rfl ?_
          refine Go.ldc dX9_settle_35 cnX9_64 ?_
          refine Go.icmp_ne_t (tgt := 44) dX9_settle_37 (by decide) h2 ?_
          refine Go.iload_n dX9_settle_44 rfl ?_
          refine Go.callVi 76 [vI (nI ((131 + (2 * h)) + 1)), vI (nI c)] [] dX9_settle_45 lkX9_103 (Or.inl ⟨_, _, _, rfl, rfl, rfl⟩) rfl (Nat.le_of_ble_eq_true rfl) rfl (Nat.le_of_ble_eq_true rfl) (m_becomes ((131 + (2 * h)) + 1) (by omega) (nI c)) ?_
          refine Go.callSi [vI (μ5 77 ((131 + (2 * h)) + 1))] [] dX9_settle_48 lkX9_112 rfl (Nat.le_of_ble_eq_true rfl) rfl (Nat.le_of_ble_eq_true rfl) (m_orNone (μ5 77 ((131 + (2 * h)) + 1))) ?_
          refine Go.at 51 rfl ?_
          refine Go.ireturn .int dX9_settle_51 rfl rfl ?_
          exact ⟨congrArg (fun z => some (vI z)) (by simp (disch := omega) only [ms_self, ms_ne, upd_self, upd_ne, hs5]), by simp only [ms_self, hs5], ((Fr.rf _ _).ms _ _ (by decide))⟩
      · skip
        refine OpOK.q (x := (-1000000001)) hS ?_ (fun μ5 k5 => ?_)
        · show Go V (d + 3) mX8_settle 0 [some (vR 0), some (vI (nI h)), some (vI cell), none] [] μ _
          refine Go.aload_n dX8_settle_0 rfl ?_
          refine Go.iload_n dX8_settle_1 rfl ?_
          refine Go.callVi 0 [vI (nI h)] [] dX8_settle_2 lkX8_173 (Or.inl ⟨_, _, _, rfl, rfl, rfl⟩) rfl (Nat.le_of_ble_eq_true rfl) rfl (Nat.le_of_ble_eq_true rfl) (c_isHouse hI (nI h)) ?_
          refine Go.if_eqb_f (tgt := 21) dX8_settle_5 (by decide) h1 ?_
          refine Go.iload_n dX8_settle_8 rfl ?_
          refine Go.ldc dX8_settle_9 cnX8_118 ?_
          refine Go.at 11 rfl ?_
          refine Go.icmp_eq_f (tgt := 24) dX8_settle_11 (by decide) h2 ?_
          refine Go.iload_n dX8_settle_14 rfl ?_
          refine Go.callSi [vI cell] [] dX8_settle_15 lkX8_65 rfl (Nat.le_of_ble_eq_true rfl) rfl (Nat.le_of_ble_eq_true rfl) (c_isCell cell) ?_
          refine Go.if_neb_f (tgt := 24) dX8_settle_18 (by decide) h3 ?_
          refine Go.ldc dX8_settle_21 cnX8_76 ?_
          refine Go.ireturn .int dX8_settle_23 rfl rfl ?_
          exact ⟨rfl, Fr.rf _ _⟩
        · have hs5 : μ5 77 = s := (k5 77 (by decide)).trans hs
          show Go V (d + 3) mX9_settle 0 [some (vR 76), some (vI (nI h)), some (vI cell)] [] μ5 _
          refine Go.aload_n dX9_settle_0 rfl ?_
          refine Go.iload_n dX9_settle_1 rfl ?_
          refine Go.callVi 76 [vI (nI h)] [] dX9_settle_2 lkX9_165 (Or.inl ⟨_, _, _, rfl, rfl, rfl⟩) rfl (Nat.le_of_ble_eq_true rfl) rfl (Nat.le_of_ble_eq_true rfl) (m_isHouse hs5 (nI h)) ?_
          refine Go.if_eqb_f (tgt := 21) dX9_settle_5 (by decide) h1 ?_
          refine Go.iload_n dX9_settle_8 rfl ?_
          refine Go.ldc dX9_settle_9 cnX9_64 ?_
          refine Go.at 11 rfl ?_
          refine Go.icmp_eq_f (tgt := 24) dX9_settle_11 (by decide) h2 ?_
          refine Go.iload_n dX9_settle_14 rfl ?_
          refine Go.callSi [vI cell] [] dX9_settle_15 lkX9_90 rfl (Nat.le_of_ble_eq_true rfl) rfl (Nat.le_of_ble_eq_true rfl) (m_isCell cell) ?_
          refine Go.if_neb_f (tgt := 24) dX9_settle_18 (by decide) h3 ?_
          refine Go.ldc dX9_settle_21 cnX9_98 ?_
          refine Go.ireturn .int dX9_settle_23 rfl rfl ?_
          exact ⟨rfl, Fr.rf _ _⟩
  · skip
    refine OpOK.q (x := (-1000000001)) hS ?_ (fun μ5 k5 => ?_)
    · show Go V (d + 3) mX8_settle 0 [some (vR 0), some (vI hx), some (vI cell), none] [] μ _
      refine Go.aload_n dX8_settle_0 rfl ?_
      refine Go.iload_n dX8_settle_1 rfl ?_
      refine Go.callVi 0 [vI hx] [] dX8_settle_2 lkX8_173 (Or.inl ⟨_, _, _, rfl, rfl, rfl⟩) rfl (Nat.le_of_ble_eq_true rfl) rfl (Nat.le_of_ble_eq_true rfl) (c_isHouse hI hx) ?_
      refine Go.if_eqb_t (tgt := 21) dX8_settle_5 (by decide) h1 ?_
      refine Go.ldc dX8_settle_21 cnX8_76 ?_
      refine Go.ireturn .int dX8_settle_23 rfl rfl ?_
      exact ⟨rfl, Fr.rf _ _⟩
    · have hs5 : μ5 77 = s := (k5 77 (by decide)).trans hs
      show Go V (d + 3) mX9_settle 0 [some (vR 76), some (vI hx), some (vI cell)] [] μ5 _
      refine Go.aload_n dX9_settle_0 rfl ?_
      refine Go.iload_n dX9_settle_1 rfl ?_
      refine Go.callVi 76 [vI hx] [] dX9_settle_2 lkX9_165 (Or.inl ⟨_, _, _, rfl, rfl, rfl⟩) rfl (Nat.le_of_ble_eq_true rfl) rfl (Nat.le_of_ble_eq_true rfl) (m_isHouse hs5 hx) ?_
      refine Go.if_eqb_t (tgt := 21) dX9_settle_5 (by decide) h1 ?_
      refine Go.ldc dX9_settle_21 cnX9_98 ?_
      refine Go.ireturn .int dX9_settle_23 rfl rfl ?_
      exact ⟨rfl, Fr.rf _ _⟩
theorem op_set {V : VV} {d : Nat} {μ : Memo} (hS : Sim μ) (cell : Int32) (w : Int32) (v : Int32) : OpOK V (d + 3) mX8_set mX9_set [vI cell, vI w, vI v] μ := by
  obtain ⟨⟨hT, hCo, hKd, hO, hH⟩, hI, hX, hIm, hSh, hSl, hTp, hWt⟩ := id hS
  have hIs : IsOK (μ 77) := hS.1.is
  generalize hs : μ 77 = s at hT hCo hKd hO hH hI hX hIs
  have hH8 : nH s ≤ 8 := hH.1
  by_cases h1 : nI 0 ≤ cell ∧ cell ≤ nI 29
  · skip
    obtain ⟨c, hc0, rfl⟩ := in_nI (by decide) h1
    have hc : c < 30 := by omega
    by_cases hw0 : w = nI 0
    · skip
      subst hw0
      by_cases hv : nI 0 ≤ v ∧ v ≤ nI 99
      · skip
        refine OpOK.m (x := s (11 + 4 * c + 2)) (upd s (11 + 4 * c + 2) v) hS (hIs.corn hc (by simp only [sI_le, nT] at hv; omega)) (by simp (disch := omega) only [upd_ne, hs]) (fun j hj => by simp (disch := omega) only [upd_ne, hs]) ?_ (fun μ5 k5 => ?_)
        · show Go V (d + 3) mX8_set 0 [some (vR 0), some (vI (nI c)), some (vI (nI 0)), some (vI v), none] [] μ _
          refine Go.iload_n dX8_set_0 rfl ?_
          refine Go.callSi [vI (nI c)] [] dX8_set_1 lkX8_65 rfl (Nat.le_of_ble_eq_true rfl) rfl (Nat.le_of_ble_eq_true rfl) (c_isCell (nI c)) ?_
          refine Go.if_neb_t (tgt := 10) dX8_set_4 (by decide) h1 ?_
          refine Go.iload_n dX8_set_10 rfl ?_
          refine Go.if_ne_f (tgt := 48) dX8_set_11 (by decide) (by decide) ?_
          refine Go.iload_n dX8_set_14 rfl ?_
          refine Go.at 15 rfl ?_
          refine Go.iconst (v := nI 0) dX8_set_15 rfl ?_
          refine Go.bipush (v := nI 99) dX8_set_16 rfl ?_
          refine Go.callSi [vI v, vI (nI 0), vI (nI 99)] [] dX8_set_18 lkX8_72 rfl (Nat.le_of_ble_eq_true rfl) rfl (Nat.le_of_ble_eq_true rfl) (c_within v (nI 0) (nI 99)) ?_
          refine Go.if_eqb_f (tgt := 48) dX8_set_21 (by decide) hv ?_
          refine Go.aload_n dX8_set_24 rfl ?_
          refine Go.getR dX8_set_25 flX8_21 rfl ?_
          refine Go.at 28 rfl ?_
          refine Go.getR dX8_set_28 flX8_99 rfl ?_
          refine Go.iload_n dX8_set_31 rfl ?_
          refine Go.iaload c dX8_set_32 rfl (by omega) rfl ?_
          refine Go.topE (s (11 + 4 * c + 2)) ((hI.1 c hc).2.2.1) ?_
          refine Go.istore (ls' := [some (vR 0), some (vI (nI c)), some (vI (nI 0)), some (vI v), some (vI (s (11 + 4 * c + 2)))]) dX8_set_33 (by decide) rfl ?_
          refine Go.aload_n dX8_set_35 rfl ?_
          refine Go.getR dX8_set_36 flX8_21 rfl ?_
          refine Go.at 39 rfl ?_
          refine Go.getR dX8_set_39 flX8_99 rfl ?_
          refine Go.iload_n dX8_set_42 rfl ?_
          refine Go.iload_n dX8_set_43 rfl ?_
          refine Go.iastore c dX8_set_44 rfl (by omega) rfl ?_
          refine Go.iload dX8_set_45 rfl ?_
          refine Go.ireturn .int dX8_set_47 rfl rfl ?_
          exact ⟨rfl, (hI.corn hc hH8 _), ((Fr.rf _ _).ms _ _ (by decide))⟩
        · have hs5 : μ5 77 = s := (k5 77 (by decide)).trans hs
          show Go V (d + 3) mX9_set 0 [some (vR 76), some (vI (nI c)), some (vI (nI 0)), some (vI v), none, none] [] μ5 _
          refine Go.iload_n dX9_set_0 rfl ?_
          refine Go.if_ne_f (tgt := 16) dX9_set_1 (by decide) (by decide) ?_
          refine Go.iload_n dX9_set_4 rfl ?_
          refine Go.i2l dX9_set_5 ?_
          refine Go.lconst (v := (nI 0).toInt64) dX9_set_6 rfl ?_
          refine Go.ldc2 (v := (nI 99).toInt64) dX9_set_7 clX9_120 ?_
          refine Go.at 10 rfl ?_
          refine Go.callSi [vL v.toInt64, vL ((nI 0).toInt64), vL ((nI 99).toInt64)] [] dX9_set_10 lkX9_65 rfl (Nat.le_of_ble_eq_true rfl) rfl (Nat.le_of_ble_eq_true rfl) (m_isIn v (nI 0) (nI 99)) ?_
          refine Go.goto (tgt := 44) dX9_set_13 (by decide) ?_
          refine Go.istore (ls' := [some (vR 76), some (vI (nI c)), some (vI (nI 0)), some (vI v), some (vI (bI ((nI 0) ≤ v ∧ v ≤ (nI 99)))), none]) dX9_set_44 (by decide) rfl ?_
          refine Go.iload_n dX9_set_46 rfl ?_
          refine Go.callSi [vI (nI c)] [] dX9_set_47 lkX9_90 rfl (Nat.le_of_ble_eq_true rfl) rfl (Nat.le_of_ble_eq_true rfl) (m_isCell (nI c)) ?_
          refine Go.if_eqb_f (tgt := 58) dX9_set_50 (by decide) h1 ?_
          refine Go.at 53 rfl ?_
          refine Go.iload dX9_set_53 rfl ?_
          refine Go.if_neb_t (tgt := 61) dX9_set_55 (by decide) hv ?_
          refine Go.aload_n dX9_set_61 rfl ?_
          refine Go.bipush (v := nI 11) dX9_set_62 rfl ?_
          refine Go.iconst (v := nI 4) dX9_set_64 rfl ?_
          refine Go.iload_n dX9_set_65 rfl ?_
          refine Go.at 66 rfl ?_
          refine Go.imulN dX9_set_66 ?_
          refine Go.iaddN dX9_set_67 ?_
          refine Go.iconst (v := nI 2) dX9_set_68 rfl ?_
          refine Go.iaddN dX9_set_69 ?_
          refine Go.iload_n dX9_set_70 rfl ?_
          refine Go.iaddN dX9_set_71 ?_
          refine Go.at 72 rfl ?_
          refine Go.iload_n dX9_set_72 rfl ?_
          refine Go.ldc dX9_set_73 cnX9_64 ?_
          refine Go.icmp_ne_t (tgt := 82) dX9_set_75 (by decide) (by intro z; rw [z] at hv; revert hv; decide) ?_
          refine Go.iload_n dX9_set_82 rfl ?_
          refine Go.callVi 76 [vI (nI (((11 + (4 * c)) + 2) + 0)), vI v] [] dX9_set_83 lkX9_103 (Or.inl ⟨_, _, _, rfl, rfl, rfl⟩) rfl (Nat.le_of_ble_eq_true rfl) rfl (Nat.le_of_ble_eq_true rfl) (m_becomes (((11 + (4 * c)) + 2) + 0) (by omega) v) ?_
          refine Go.istore (ls' := [some (vR 76), some (vI (nI c)), some (vI (nI 0)), some (vI v), some (vI (bI ((nI 0) ≤ v ∧ v ≤ (nI 99)))), some (vI (μ5 77 (((11 + (4 * c)) + 2) + 0)))]) dX9_set_86 (by decide) rfl ?_
          refine Go.at 88 rfl ?_
          refine Go.iload dX9_set_88 rfl ?_
          refine Go.callSi [vI (μ5 77 (((11 + (4 * c)) + 2) + 0))] [] dX9_set_90 lkX9_112 rfl (Nat.le_of_ble_eq_true rfl) rfl (Nat.le_of_ble_eq_true rfl) (m_orNone (μ5 77 (((11 + (4 * c)) + 2) + 0))) ?_
          refine Go.ireturn .int dX9_set_93 rfl rfl ?_
          exact ⟨congrArg (fun z => some (vI z)) (by rw [hs5]; exact oN_pos (hCo c hc).1), by simp only [ms_self, hs5], ((Fr.rf _ _).ms _ _ (by decide))⟩
      · skip
        refine OpOK.q (x := (-1000000001)) hS ?_ (fun μ5 k5 => ?_)
        · show Go V (d + 3) mX8_set 0 [some (vR 0), some (vI (nI c)), some (vI (nI 0)), some (vI v), none] [] μ _
          refine Go.iload_n dX8_set_0 rfl ?_
          refine Go.callSi [vI (nI c)] [] dX8_set_1 lkX8_65 rfl (Nat.le_of_ble_eq_true rfl) rfl (Nat.le_of_ble_eq_true rfl) (c_isCell (nI c)) ?_
          refine Go.if_neb_t (tgt := 10) dX8_set_4 (by decide) h1 ?_
          refine Go.iload_n dX8_set_10 rfl ?_
          refine Go.if_ne_f (tgt := 48) dX8_set_11 (by decide) (by decide) ?_
          refine Go.iload_n dX8_set_14 rfl ?_
          refine Go.at 15 rfl ?_
          refine Go.iconst (v := nI 0) dX8_set_15 rfl ?_
          refine Go.bipush (v := nI 99) dX8_set_16 rfl ?_
          refine Go.callSi [vI v, vI (nI 0), vI (nI 99)] [] dX8_set_18 lkX8_72 rfl (Nat.le_of_ble_eq_true rfl) rfl (Nat.le_of_ble_eq_true rfl) (c_within v (nI 0) (nI 99)) ?_
          refine Go.if_eqb_t (tgt := 48) dX8_set_21 (by decide) hv ?_
          refine Go.iload_n dX8_set_48 rfl ?_
          refine Go.iconst (v := nI 1) dX8_set_49 rfl ?_
          refine Go.at 50 rfl ?_
          refine Go.icmp_ne_t (tgt := 90) dX8_set_50 (by decide) (by decide) ?_
          refine Go.ldc dX8_set_90 cnX8_76 ?_
          refine Go.ireturn .int dX8_set_92 rfl rfl ?_
          exact ⟨rfl, Fr.rf _ _⟩
        · have hs5 : μ5 77 = s := (k5 77 (by decide)).trans hs
          show Go V (d + 3) mX9_set 0 [some (vR 76), some (vI (nI c)), some (vI (nI 0)), some (vI v), none, none] [] μ5 _
          refine Go.iload_n dX9_set_0 rfl ?_
          refine Go.if_ne_f (tgt := 16) dX9_set_1 (by decide) (by decide) ?_
          refine Go.iload_n dX9_set_4 rfl ?_
          refine Go.i2l dX9_set_5 ?_
          refine Go.lconst (v := (nI 0).toInt64) dX9_set_6 rfl ?_
          refine Go.ldc2 (v := (nI 99).toInt64) dX9_set_7 clX9_120 ?_
          refine Go.at 10 rfl ?_
          refine Go.callSi [vL v.toInt64, vL ((nI 0).toInt64), vL ((nI 99).toInt64)] [] dX9_set_10 lkX9_65 rfl (Nat.le_of_ble_eq_true rfl) rfl (Nat.le_of_ble_eq_true rfl) (m_isIn v (nI 0) (nI 99)) ?_
          refine Go.goto (tgt := 44) dX9_set_13 (by decide) ?_
          refine Go.istore (ls' := [some (vR 76), some (vI (nI c)), some (vI (nI 0)), some (vI v), some (vI (bI ((nI 0) ≤ v ∧ v ≤ (nI 99)))), none]) dX9_set_44 (by decide) rfl ?_
          refine Go.iload_n dX9_set_46 rfl ?_
          refine Go.callSi [vI (nI c)] [] dX9_set_47 lkX9_90 rfl (Nat.le_of_ble_eq_true rfl) rfl (Nat.le_of_ble_eq_true rfl) (m_isCell (nI c)) ?_
          refine Go.if_eqb_f (tgt := 58) dX9_set_50 (by decide) h1 ?_
          refine Go.at 53 rfl ?_
          refine Go.iload dX9_set_53 rfl ?_
          refine Go.if_neb_f (tgt := 61) dX9_set_55 (by decide) hv ?_
          refine Go.ldc dX9_set_58 cnX9_98 ?_
          refine Go.ireturn .int dX9_set_60 rfl rfl ?_
          exact ⟨rfl, Fr.rf _ _⟩
    · skip
      by_cases hw1 : w = nI 1
      · skip
        subst hw1
        by_cases hv0 : v = (-1000000005)
        · skip
          subst hv0
          refine OpOK.m (x := oN (s (11 + 4 * c + 3))) (upd s (11 + 4 * c + 3) (-1)) hS (hIs.owner hc (Or.inl rfl)) (by simp (disch := omega) only [upd_ne, hs]) (fun j hj => by simp (disch := omega) only [upd_ne, hs]) ?_ (fun μ5 k5 => ?_)
          · show Go V (d + 3) mX8_set 0 [some (vR 0), some (vI (nI c)), some (vI (nI 1)), some (vI (-1000000005)), none] [] μ _
            refine Go.iload_n dX8_set_0 rfl ?_
            refine Go.callSi [vI (nI c)] [] dX8_set_1 lkX8_65 rfl (Nat.le_of_ble_eq_true rfl) rfl (Nat.le_of_ble_eq_true rfl) (c_isCell (nI c)) ?_
            refine Go.if_neb_t (tgt := 10) dX8_set_4 (by decide) h1 ?_
            refine Go.iload_n dX8_set_10 rfl ?_
            refine Go.if_ne_t (tgt := 48) dX8_set_11 (by decide) (by decide) ?_
            refine Go.iload_n dX8_set_48 rfl ?_
            refine Go.at 49 rfl ?_
            refine Go.iconst (v := nI 1) dX8_set_49 rfl ?_
            refine Go.icmp_ne_f (tgt := 90) dX8_set_50 (by decide) (by decide) ?_
            refine Go.iload_n dX8_set_53 rfl ?_
            refine Go.ldc dX8_set_54 cnX8_118 ?_
            refine Go.icmp_eq_t (tgt := 66) dX8_set_56 (by decide) (by decide) ?_
            refine Go.aload_n dX8_set_66 rfl ?_
            refine Go.at 67 rfl ?_
            refine Go.getR dX8_set_67 flX8_21 rfl ?_
            refine Go.getR dX8_set_70 flX8_102 rfl ?_
            refine Go.iload_n dX8_set_73 rfl ?_
            refine Go.iaload c dX8_set_74 rfl (by omega) rfl ?_
            refine Go.topE (oN (s (11 + 4 * c + 3))) ((hI.1 c hc).2.2.2) ?_
            refine Go.istore (ls' := [some (vR 0), some (vI (nI c)), some (vI (nI 1)), some (vI (-1000000005)), some (vI (oN (s (11 + 4 * c + 3))))]) dX8_set_75 (by decide) rfl ?_
            refine Go.aload_n dX8_set_77 rfl ?_
            refine Go.at 78 rfl ?_
            refine Go.getR dX8_set_78 flX8_21 rfl ?_
            refine Go.getR dX8_set_81 flX8_102 rfl ?_
            refine Go.iload_n dX8_set_84 rfl ?_
            refine Go.iload_n dX8_set_85 rfl ?_
            refine Go.iastore c dX8_set_86 rfl (by omega) rfl ?_
            refine Go.iload dX8_set_87 rfl ?_
            refine Go.at 89 rfl ?_
            refine Go.ireturn .int dX8_set_89 rfl rfl ?_
            exact ⟨rfl, (hI.owner hc hH8 oN_n1.symm), ((Fr.rf _ _).ms _ _ (by decide))⟩
          · have hs5 : μ5 77 = s := (k5 77 (by decide)).trans hs
            show Go V (d + 3) mX9_set 0 [some (vR 76), some (vI (nI c)), some (vI (nI 1)), some (vI (-1000000005)), none, none] [] μ5 _
            refine Go.iload_n dX9_set_0 rfl ?_
            refine Go.if_ne_t (tgt := 16) dX9_set_1 (by decide) (by decide) ?_
            refine Go.iload_n dX9_set_16 rfl ?_
            refine Go.iconst (v := nI 1) dX9_set_17 rfl ?_
            refine Go.icmp_ne_f (tgt := 43) dX9_set_18 (by decide) (by decide) ?_
            refine Go.iload_n dX9_set_21 rfl ?_
            refine Go.at 22 rfl ?_
            refine Go.ldc dX9_set_22 cnX9_64 ?_
            refine Go.icmp_eq_t (tgt := 39) dX9_set_24 (by decide) (by decide) ?_
            refine Go.iconst (v := nI 1) dX9_set_39 rfl ?_
            refine Go.goto (tgt := 44) dX9_set_40 (by decide) ?_
            refine Go.istore (ls' := [some (vR 76), some (vI (nI c)), some (vI (nI 1)), some (vI (-1000000005)), some (vI (nI 1)), none]) dX9_set_44 (by decide) rfl ?_
            refine Go.iload_n dX9_set_46 rfl ?_
            refine Go.at 47 rfl ?_
            refine Go.callSi [vI (nI c)] [] dX9_set_47 lkX9_90 rfl (Nat.le_of_ble_eq_true rfl) rfl (Nat.le_of_ble_eq_true rfl) (m_isCell (nI c)) ?_
            refine Go.if_eqb_f (tgt := 58) dX9_set_50 (by decide) h1 ?_
            refine Go.iload dX9_set_53 rfl ?_
            refine Go.if_ne_t (tgt := 61) dX9_set_55 (by decide) (by decide) ?_
            refine Go.aload_n dX9_set_61 rfl ?_
            refine Go.bipush (v := nI 11) dX9_set_62 rfl ?_
            refine Go.at 64 rfl ?_
            refine Go.iconst (v := nI 4) dX9_set_64 rfl ?_
            refine Go.iload_n dX9_set_65 rfl ?_
            refine Go.imulN dX9_set_66 ?_
            refine Go.iaddN dX9_set_67 ?_
            refine Go.iconst (v := nI 2) dX9_set_68 rfl ?_
            refine Go.iaddN dX9_set_69 ?_
            refine Go.at 70 rfl ?_
            refine Go.iload_n dX9_set_70 rfl ?_
            refine Go.iaddN dX9_set_71 ?_
            refine Go.iload_n dX9_set_72 rfl ?_
            refine Go.ldc dX9_set_73 cnX9_64 ?_
            refine Go.icmp_ne_f (tgt := 82) dX9_set_75 (by decide) (by decide) ?_
            refine Go.iconst (v := (-1)) dX9_set_78 rfl ?_
            refine Go.at 79 rfl ?_
            refine Go.goto (tgt := 83) dX9_set_79 (by decide) ?_
            refine Go.callVi 76 [vI (nI (((11 + (4 * c)) + 2) + 1)), vI (-1)] [] dX9_set_83 lkX9_103 (Or.inl ⟨_, _, _, rfl, rfl, rfl⟩) rfl (Nat.le_of_ble_eq_true rfl) rfl (Nat.le_of_ble_eq_true rfl) (m_becomes (((11 + (4 * c)) + 2) + 1) (by omega) (-1)) ?_
            refine Go.istore (ls' := [some (vR 76), some (vI (nI c)), some (vI (nI 1)), some (vI (-1000000005)), some (vI (nI 1)), some (vI (μ5 77 (((11 + (4 * c)) + 2) + 1)))]) dX9_set_86 (by decide) rfl ?_
            refine Go.iload dX9_set_88 rfl ?_
            refine Go.callSi [vI (μ5 77 (((11 + (4 * c)) + 2) + 1))] [] dX9_set_90 lkX9_112 rfl (Nat.le_of_ble_eq_true rfl) rfl (Nat.le_of_ble_eq_true rfl) (m_orNone (μ5 77 (((11 + (4 * c)) + 2) + 1))) ?_
            refine Go.ireturn .int dX9_set_93 rfl rfl ?_
            exact ⟨congrArg (fun z => some (vI z)) (by simp (disch := omega) only [ms_self, ms_ne, upd_self, upd_ne, hs5]), by simp only [ms_self, hs5], ((Fr.rf _ _).ms _ _ (by decide))⟩
        · skip
          by_cases hv : nI 0 ≤ v ∧ v ≤ nI 7
          · skip
            obtain ⟨q, hq, rfl⟩ := in_nI (by decide) hv
            refine OpOK.m (x := oN (s (11 + 4 * c + 3))) (upd s (11 + 4 * c + 3) (nI q)) hS (hIs.owner hc (Or.inr ⟨q, by omega, rfl⟩)) (by simp (disch := omega) only [upd_ne, hs]) (fun j hj => by simp (disch := omega) only [upd_ne, hs]) ?_ (fun μ5 k5 => ?_)
            · show Go V (d + 3) mX8_set 0 [some (vR 0), some (vI (nI c)), some (vI (nI 1)), some (vI (nI q)), none] [] μ _
              refine Go.iload_n dX8_set_0 rfl ?_
              refine Go.callSi [vI (nI c)] [] dX8_set_1 lkX8_65 rfl (Nat.le_of_ble_eq_true rfl) rfl (Nat.le_of_ble_eq_true rfl) (c_isCell (nI c)) ?_
              refine Go.if_neb_t (tgt := 10) dX8_set_4 (by decide) h1 ?_
              refine Go.iload_n dX8_set_10 rfl ?_
              refine Go.if_ne_t (tgt := 48) dX8_set_11 (by decide) (by decide) ?_
              refine Go.iload_n dX8_set_48 rfl ?_
              refine Go.at 49 rfl ?_
              refine Go.iconst (v := nI 1) dX8_set_49 rfl ?_
              refine Go.icmp_ne_f (tgt := 90) dX8_set_50 (by decide) (by decide) ?_
              refine Go.iload_n dX8_set_53 rfl ?_
              refine Go.ldc dX8_set_54 cnX8_118 ?_
              refine Go.icmp_eq_f (tgt := 66) dX8_set_56 (by decide) hv0 ?_
              refine Go.iload_n dX8_set_59 rfl ?_
              refine Go.at 60 rfl ?_
              refine Go.callSi [vI (nI q)] [] dX8_set_60 lkX8_119 rfl (Nat.le_of_ble_eq_true rfl) rfl (Nat.le_of_ble_eq_true rfl) (c_isOwner (nI q)) ?_
              refine Go.if_eqb_f (tgt := 90) dX8_set_63 (by decide) hv ?_
              refine Go.aload_n dX8_set_66 rfl ?_
              refine Go.getR dX8_set_67 flX8_21 rfl ?_
              refine Go.getR dX8_set_70 flX8_102 rfl ?_
              refine Go.iload_n dX8_set_73 rfl ?_
              refine Go.at 74 rfl ?_
              refine Go.iaload c dX8_set_74 rfl (by omega) rfl ?_
              refine Go.topE (oN (s (11 + 4 * c + 3))) ((hI.1 c hc).2.2.2) ?_
              refine Go.istore (ls' := [some (vR 0), some (vI (nI c)), some (vI (nI 1)), some (vI (nI q)), some (vI (oN (s (11 + 4 * c + 3))))]) dX8_set_75 (by decide) rfl ?_
              refine Go.aload_n dX8_set_77 rfl ?_
              refine Go.getR dX8_set_78 flX8_21 rfl ?_
              refine Go.getR dX8_set_81 flX8_102 rfl ?_
              refine Go.iload_n dX8_set_84 rfl ?_
              refine Go.at 85 rfl ?_
              refine Go.iload_n dX8_set_85 rfl ?_
              refine Go.iastore c dX8_set_86 rfl (by omega) rfl ?_
              refine Go.iload dX8_set_87 rfl ?_
              refine Go.ireturn .int dX8_set_89 rfl rfl ?_
              exact ⟨rfl, (hI.owner hc hH8 (oN_n (by omega)).symm), ((Fr.rf _ _).ms _ _ (by decide))⟩
            · have hs5 : μ5 77 = s := (k5 77 (by decide)).trans hs
              show Go V (d + 3) mX9_set 0 [some (vR 76), some (vI (nI c)), some (vI (nI 1)), some (vI (nI q)), none, none] [] μ5 _
              refine Go.iload_n dX9_set_0 rfl ?_
              refine Go.if_ne_t (tgt := 16) dX9_set_1 (by decide) (by decide) ?_
              refine Go.iload_n dX9_set_16 rfl ?_
              refine Go.iconst (v := nI 1) dX9_set_17 rfl ?_
              refine Go.icmp_ne_f (tgt := 43) dX9_set_18 (by decide) (by decide) ?_
              refine Go.iload_n dX9_set_21 rfl ?_
              refine Go.at 22 rfl ?_
              refine Go.ldc dX9_set_22 cnX9_64 ?_
              refine Go.icmp_eq_f (tgt := 39) dX9_set_24 (by decide) hv0 ?_
              refine Go.iload_n dX9_set_27 rfl ?_
              refine Go.i2l dX9_set_28 ?_
              refine Go.lconst (v := (nI 0).toInt64) dX9_set_29 rfl ?_
              refine Go.ldc2 (v := (nI 7).toInt64) dX9_set_30 clX9_122 ?_
              refine Go.at 33 rfl ?_
              refine Go.callSi [vL ((nI q).toInt64), vL ((nI 0).toInt64), vL ((nI 7).toInt64)] [] dX9_set_33 lkX9_65 rfl (Nat.le_of_ble_eq_true rfl) rfl (Nat.le_of_ble_eq_true rfl) (m_isIn (nI q) (nI 0) (nI 7)) ?_
              refine Go.if_eqb_f (tgt := 43) dX9_set_36 (by decide) hv ?_
              refine Go.iconst (v := nI 1) dX9_set_39 rfl ?_
              refine Go.goto (tgt := 44) dX9_set_40 (by decide) ?_
              refine Go.istore (ls' := [some (vR 76), some (vI (nI c)), some (vI (nI 1)), some (vI (nI q)), some (vI (nI 1)), none]) dX9_set_44 (by decide) rfl ?_
              refine Go.iload_n dX9_set_46 rfl ?_
              refine Go.at 47 rfl ?_
              refine Go.callSi [vI (nI c)] [] dX9_set_47 lkX9_90 rfl (Nat.le_of_ble_eq_true rfl) rfl (Nat.le_of_ble_eq_true rfl) (m_isCell (nI c)) ?_
              refine Go.if_eqb_f (tgt := 58) dX9_set_50 (by decide) h1 ?_
              refine Go.iload dX9_set_53 rfl ?_
              refine Go.if_ne_t (tgt := 61) dX9_set_55 (by decide) (by decide) ?_
              refine Go.aload_n dX9_set_61 rfl ?_
              refine Go.bipush (v := nI 11) dX9_set_62 rfl ?_
              refine Go.at 64 rfl ?_
              refine Go.iconst (v := nI 4) dX9_set_64 rfl ?_
              refine Go.iload_n dX9_set_65 rfl ?_
              refine Go.imulN dX9_set_66 ?_
              refine Go.iaddN dX9_set_67 ?_
              refine Go.iconst (v := nI 2) dX9_set_68 rfl ?_
              refine Go.iaddN dX9_set_69 ?_
              refine Go.at 70 rfl ?_
              refine Go.iload_n dX9_set_70 rfl ?_
              refine Go.iaddN dX9_set_71 ?_
              refine Go.iload_n dX9_set_72 rfl ?_
              refine Go.ldc dX9_set_73 cnX9_64 ?_
              refine Go.icmp_ne_t (tgt := 82) dX9_set_75 (by decide) hv0 ?_
              refine Go.iload_n dX9_set_82 rfl ?_
              refine Go.at 83 rfl ?_
              refine Go.callVi 76 [vI (nI (((11 + (4 * c)) + 2) + 1)), vI (nI q)] [] dX9_set_83 lkX9_103 (Or.inl ⟨_, _, _, rfl, rfl, rfl⟩) rfl (Nat.le_of_ble_eq_true rfl) rfl (Nat.le_of_ble_eq_true rfl) (m_becomes (((11 + (4 * c)) + 2) + 1) (by omega) (nI q)) ?_
              refine Go.istore (ls' := [some (vR 76), some (vI (nI c)), some (vI (nI 1)), some (vI (nI q)), some (vI (nI 1)), some (vI (μ5 77 (((11 + (4 * c)) + 2) + 1)))]) dX9_set_86 (by decide) rfl ?_
              refine Go.iload dX9_set_88 rfl ?_
              refine Go.callSi [vI (μ5 77 (((11 + (4 * c)) + 2) + 1))] [] dX9_set_90 lkX9_112 rfl (Nat.le_of_ble_eq_true rfl) rfl (Nat.le_of_ble_eq_true rfl) (m_orNone (μ5 77 (((11 + (4 * c)) + 2) + 1))) ?_
              refine Go.ireturn .int dX9_set_93 rfl rfl ?_
              exact ⟨congrArg (fun z => some (vI z)) (by simp (disch := omega) only [ms_self, ms_ne, upd_self, upd_ne, hs5]), by simp only [ms_self, hs5], ((Fr.rf _ _).ms _ _ (by decide))⟩
          · skip
            refine OpOK.q (x := (-1000000001)) hS ?_ (fun μ5 k5 => ?_)
            · show Go V (d + 3) mX8_set 0 [some (vR 0), some (vI (nI c)), some (vI (nI 1)), some (vI v), none] [] μ _
              refine Go.iload_n dX8_set_0 rfl ?_
              refine Go.callSi [vI (nI c)] [] dX8_set_1 lkX8_65 rfl (Nat.le_of_ble_eq_true rfl) rfl (Nat.le_of_ble_eq_true rfl) (c_isCell (nI c)) ?_
              refine Go.if_neb_t (tgt := 10) dX8_set_4 (by decide) h1 ?_
              refine Go.iload_n dX8_set_10 rfl ?_
              refine Go.if_ne_t (tgt := 48) dX8_set_11 (by decide) (by decide) ?_
              refine Go.iload_n dX8_set_48 rfl ?_
              refine Go.at 49 rfl ?_
              refine Go.iconst (v := nI 1) dX8_set_49 rfl ?_
              refine Go.icmp_ne_f (tgt := 90) dX8_set_50 (by decide) (by decide) ?_
              refine Go.iload_n dX8_set_53 rfl ?_
              refine Go.ldc dX8_set_54 cnX8_118 ?_
              refine Go.icmp_eq_f (tgt := 66) dX8_set_56 (by decide) hv0 ?_
              refine Go.iload_n dX8_set_59 rfl ?_
              refine Go.at 60 rfl ?_
              refine Go.callSi [vI v] [] dX8_set_60 lkX8_119 rfl (Nat.le_of_ble_eq_true rfl) rfl (Nat.le_of_ble_eq_true rfl) (c_isOwner v) ?_
              refine Go.if_eqb_t (tgt := 90) dX8_set_63 (by decide) hv ?_
              refine Go.ldc dX8_set_90 cnX8_76 ?_
              refine Go.ireturn .int dX8_set_92 rfl rfl ?_
              exact ⟨rfl, Fr.rf _ _⟩
            · have hs5 : μ5 77 = s := (k5 77 (by decide)).trans hs
              show Go V (d + 3) mX9_set 0 [some (vR 76), some (vI (nI c)), some (vI (nI 1)), some (vI v), none, none] [] μ5 _
              refine Go.iload_n dX9_set_0 rfl ?_
              refine Go.if_ne_t (tgt := 16) dX9_set_1 (by decide) (by decide) ?_
              refine Go.iload_n dX9_set_16 rfl ?_
              refine Go.iconst (v := nI 1) dX9_set_17 rfl ?_
              refine Go.icmp_ne_f (tgt := 43) dX9_set_18 (by decide) (by decide) ?_
              refine Go.iload_n dX9_set_21 rfl ?_
              refine Go.at 22 rfl ?_
              refine Go.ldc dX9_set_22 cnX9_64 ?_
              refine Go.icmp_eq_f (tgt := 39) dX9_set_24 (by decide) hv0 ?_
              refine Go.iload_n dX9_set_27 rfl ?_
              refine Go.i2l dX9_set_28 ?_
              refine Go.lconst (v := (nI 0).toInt64) dX9_set_29 rfl ?_
              refine Go.ldc2 (v := (nI 7).toInt64) dX9_set_30 clX9_122 ?_
              refine Go.at 33 rfl ?_
              refine Go.callSi [vL v.toInt64, vL ((nI 0).toInt64), vL ((nI 7).toInt64)] [] dX9_set_33 lkX9_65 rfl (Nat.le_of_ble_eq_true rfl) rfl (Nat.le_of_ble_eq_true rfl) (m_isIn v (nI 0) (nI 7)) ?_
              refine Go.if_eqb_t (tgt := 43) dX9_set_36 (by decide) hv ?_
              refine Go.iconst (v := nI 0) dX9_set_43 rfl ?_
              refine Go.istore (ls' := [some (vR 76), some (vI (nI c)), some (vI (nI 1)), some (vI v), some (vI (nI 0)), none]) dX9_set_44 (by decide) rfl ?_
              refine Go.iload_n dX9_set_46 rfl ?_
              refine Go.callSi [vI (nI c)] [] dX9_set_47 lkX9_90 rfl (Nat.le_of_ble_eq_true rfl) rfl (Nat.le_of_ble_eq_true rfl) (m_isCell (nI c)) ?_
              refine Go.at 50 rfl ?_
              refine Go.if_eqb_f (tgt := 58) dX9_set_50 (by decide) h1 ?_
              refine Go.iload dX9_set_53 rfl ?_
              refine Go.if_ne_f (tgt := 61) dX9_set_55 (by decide) (by decide) ?_
              refine Go.ldc dX9_set_58 cnX9_98 ?_
              refine Go.ireturn .int dX9_set_60 rfl rfl ?_
              exact ⟨rfl, Fr.rf _ _⟩
      · skip
        refine OpOK.q (x := (-1000000001)) hS ?_ (fun μ5 k5 => ?_)
        · show Go V (d + 3) mX8_set 0 [some (vR 0), some (vI (nI c)), some (vI w), some (vI v), none] [] μ _
          refine Go.iload_n dX8_set_0 rfl ?_
          refine Go.callSi [vI (nI c)] [] dX8_set_1 lkX8_65 rfl (Nat.le_of_ble_eq_true rfl) rfl (Nat.le_of_ble_eq_true rfl) (c_isCell (nI c)) ?_
          refine Go.if_neb_t (tgt := 10) dX8_set_4 (by decide) h1 ?_
          refine Go.iload_n dX8_set_10 rfl ?_
          refine Go.if_ne_t (tgt := 48) dX8_set_11 (by decide) hw0 ?_
          refine Go.iload_n dX8_set_48 rfl ?_
          refine Go.at 49 rfl ?_
          refine Go.iconst (v := nI 1) dX8_set_49 rfl ?_
          refine Go.icmp_ne_t (tgt := 90) dX8_set_50 (by decide) hw1 ?_
          refine Go.ldc dX8_set_90 cnX8_76 ?_
          refine Go.ireturn .int dX8_set_92 rfl rfl ?_
          exact ⟨rfl, Fr.rf _ _⟩
        · have hs5 : μ5 77 = s := (k5 77 (by decide)).trans hs
          show Go V (d + 3) mX9_set 0 [some (vR 76), some (vI (nI c)), some (vI w), some (vI v), none, none] [] μ5 _
          refine Go.iload_n dX9_set_0 rfl ?_
          refine Go.if_ne_t (tgt := 16) dX9_set_1 (by decide) hw0 ?_
          refine Go.iload_n dX9_set_16 rfl ?_
          refine Go.iconst (v := nI 1) dX9_set_17 rfl ?_
          refine Go.icmp_ne_t (tgt := 43) dX9_set_18 (by decide) hw1 ?_
          refine Go.iconst (v := nI 0) dX9_set_43 rfl ?_
          refine Go.at 44 rfl ?_
          refine Go.istore (ls' := [some (vR 76), some (vI (nI c)), some (vI w), some (vI v), some (vI (nI 0)), none]) dX9_set_44 (by decide) rfl ?_
          refine Go.iload_n dX9_set_46 rfl ?_
          refine Go.callSi [vI (nI c)] [] dX9_set_47 lkX9_90 rfl (Nat.le_of_ble_eq_true rfl) rfl (Nat.le_of_ble_eq_true rfl) (m_isCell (nI c)) ?_
          refine Go.if_eqb_f (tgt := 58) dX9_set_50 (by decide) h1 ?_
          refine Go.iload dX9_set_53 rfl ?_
          refine Go.if_ne_f (tgt := 61) dX9_set_55 (by decide) (by decide) ?_
          refine Go.at 58 rfl ?_
          refine Go.ldc dX9_set_58 cnX9_98 ?_
          refine Go.ireturn .int dX9_set_60 rfl rfl ?_
          exact ⟨rfl, Fr.rf _ _⟩
  · skip
    refine OpOK.q (x := (-1000000001)) hS ?_ (fun μ5 k5 => ?_)
    · show Go V (d + 3) mX8_set 0 [some (vR 0), some (vI cell), some (vI w), some (vI v), none] [] μ _
      refine Go.iload_n dX8_set_0 rfl ?_
      refine Go.callSi [vI cell] [] dX8_set_1 lkX8_65 rfl (Nat.le_of_ble_eq_true rfl) rfl (Nat.le_of_ble_eq_true rfl) (c_isCell cell) ?_
      refine Go.if_neb_f (tgt := 10) dX8_set_4 (by decide) h1 ?_
      refine Go.ldc dX8_set_7 cnX8_76 ?_
      refine Go.ireturn .int dX8_set_9 rfl rfl ?_
      exact ⟨rfl, Fr.rf _ _⟩
    · have hs5 : μ5 77 = s := (k5 77 (by decide)).trans hs
      show Go V (d + 3) mX9_set 0 [some (vR 76), some (vI cell), some (vI w), some (vI v), none, none] [] μ5 _
      refine Go.iload_n dX9_set_0 rfl ?_
      refine Go.if_ne (tgt := 16) dX9_set_1 (by decide) (fun hz => ?_) (fun hz => ?_)
      · -- 1 taken
        refine Go.iload_n dX9_set_16 rfl ?_
        refine Go.iconst (v := nI 1) dX9_set_17 rfl ?_
        refine Go.icmp_ne (tgt := 43) dX9_set_18 (by decide) (fun h18 => ?_) (fun h18 => ?_)
        · -- 18 taken
          refine Go.iconst (v := nI 0) dX9_set_43 rfl ?_
          refine Go.istore (ls' := [some (vR 76), some (vI cell), some (vI w), some (vI v), some (vI (nI 0)), none]) dX9_set_44 (by decide) rfl ?_
          refine Go.iload_n dX9_set_46 rfl ?_
          refine Go.callSi [vI cell] [] dX9_set_47 lkX9_90 rfl (Nat.le_of_ble_eq_true rfl) rfl (Nat.le_of_ble_eq_true rfl) (m_isCell cell) ?_
          refine Go.if_eqb_t (tgt := 58) dX9_set_50 (by decide) h1 ?_
          refine Go.ldc dX9_set_58 cnX9_98 ?_
          refine Go.at 60 rfl ?_
          refine Go.ireturn .int dX9_set_60 rfl rfl ?_
          exact ⟨rfl, Fr.rf _ _⟩
        · -- 18 not
          refine Go.iload_n dX9_set_21 rfl ?_
          refine Go.ldc dX9_set_22 cnX9_64 ?_
          refine Go.icmp_eq (tgt := 39) dX9_set_24 (by decide) (fun h24 => ?_) (fun h24 => ?_)
          · -- 24 taken
            refine Go.iconst (v := nI 1) dX9_set_39 rfl ?_
            refine Go.goto (tgt := 44) dX9_set_40 (by decide) ?_
            refine Go.istore (ls' := [some (vR 76), some (vI cell), some (vI w), some (vI v), some (vI (nI 1)), none]) dX9_set_44 (by decide) rfl ?_
            refine Go.iload_n dX9_set_46 rfl ?_
            refine Go.callSi [vI cell] [] dX9_set_47 lkX9_90 rfl (Nat.le_of_ble_eq_true rfl) rfl (Nat.le_of_ble_eq_true rfl) (m_isCell cell) ?_
            refine Go.if_eqb_t (tgt := 58) dX9_set_50 (by decide) h1 ?_
            refine Go.at 58 rfl ?_
            refine Go.ldc dX9_set_58 cnX9_98 ?_
            refine Go.ireturn .int dX9_set_60 rfl rfl ?_
            exact ⟨rfl, Fr.rf _ _⟩
          · -- 24 not
            refine Go.iload_n dX9_set_27 rfl ?_
            refine Go.i2l dX9_set_28 ?_
            refine Go.lconst (v := (nI 0).toInt64) dX9_set_29 rfl ?_
            refine Go.ldc2 (v := (nI 7).toInt64) dX9_set_30 clX9_122 ?_
            refine Go.callSi [vL v.toInt64, vL ((nI 0).toInt64), vL ((nI 7).toInt64)] [] dX9_set_33 lkX9_65 rfl (Nat.le_of_ble_eq_true rfl) rfl (Nat.le_of_ble_eq_true rfl) (m_isIn v (nI 0) (nI 7)) ?_
            refine Go.if_eqb (tgt := 43) dX9_set_36 (by decide) (fun h36 => ?_) (fun h36 => ?_)
            · -- 36 taken
              refine Go.iconst (v := nI 0) dX9_set_43 rfl ?_
              refine Go.istore (ls' := [some (vR 76), some (vI cell), some (vI w), some (vI v), some (vI (nI 0)), none]) dX9_set_44 (by decide) rfl ?_
              refine Go.iload_n dX9_set_46 rfl ?_
              refine Go.callSi [vI cell] [] dX9_set_47 lkX9_90 rfl (Nat.le_of_ble_eq_true rfl) rfl (Nat.le_of_ble_eq_true rfl) (m_isCell cell) ?_
              refine Go.if_eqb_t (tgt := 58) dX9_set_50 (by decide) h1 ?_
              refine Go.ldc dX9_set_58 cnX9_98 ?_
              refine Go.at 60 rfl ?_
              refine Go.ireturn .int dX9_set_60 rfl rfl ?_
              exact ⟨rfl, Fr.rf _ _⟩
            · -- 36 not
              refine Go.iconst (v := nI 1) dX9_set_39 rfl ?_
              refine Go.goto (tgt := 44) dX9_set_40 (by decide) ?_
              refine Go.istore (ls' := [some (vR 76), some (vI cell), some (vI w), some (vI v), some (vI (nI 1)), none]) dX9_set_44 (by decide) rfl ?_
              refine Go.iload_n dX9_set_46 rfl ?_
              refine Go.callSi [vI cell] [] dX9_set_47 lkX9_90 rfl (Nat.le_of_ble_eq_true rfl) rfl (Nat.le_of_ble_eq_true rfl) (m_isCell cell) ?_
              refine Go.if_eqb_t (tgt := 58) dX9_set_50 (by decide) h1 ?_
              refine Go.at 58 rfl ?_
              refine Go.ldc dX9_set_58 cnX9_98 ?_
              refine Go.ireturn .int dX9_set_60 rfl rfl ?_
              exact ⟨rfl, Fr.rf _ _⟩
      · -- 1 not
        refine Go.iload_n dX9_set_4 rfl ?_
        refine Go.i2l dX9_set_5 ?_
        refine Go.lconst (v := (nI 0).toInt64) dX9_set_6 rfl ?_
        refine Go.ldc2 (v := (nI 99).toInt64) dX9_set_7 clX9_120 ?_
        refine Go.callSi [vL v.toInt64, vL ((nI 0).toInt64), vL ((nI 99).toInt64)] [] dX9_set_10 lkX9_65 rfl (Nat.le_of_ble_eq_true rfl) rfl (Nat.le_of_ble_eq_true rfl) (m_isIn v (nI 0) (nI 99)) ?_
        refine Go.goto (tgt := 44) dX9_set_13 (by decide) ?_
        refine Go.at 44 rfl ?_
        refine Go.istore (ls' := [some (vR 76), some (vI cell), some (vI w), some (vI v), some (vI (bI ((nI 0) ≤ v ∧ v ≤ (nI 99)))), none]) dX9_set_44 (by decide) rfl ?_
        refine Go.iload_n dX9_set_46 rfl ?_
        refine Go.callSi [vI cell] [] dX9_set_47 lkX9_90 rfl (Nat.le_of_ble_eq_true rfl) rfl (Nat.le_of_ble_eq_true rfl) (m_isCell cell) ?_
        refine Go.if_eqb_t (tgt := 58) dX9_set_50 (by decide) h1 ?_
        refine Go.ldc dX9_set_58 cnX9_98 ?_
        refine Go.ireturn .int dX9_set_60 rfl rfl ?_
        exact ⟨rfl, Fr.rf _ _⟩
theorem op_sea {V : VV} {d : Nat} {μ : Memo} (hS : Sim μ) (w : Int32) (v : Int32) : OpOK V (d + 3) mX8_sea mX9_sea [vI w, vI v] μ := by
  obtain ⟨⟨hT, hCo, hKd, hO, hH⟩, hI, hX, hIm, hSh, hSl, hTp, hWt⟩ := id hS
  have hIs : IsOK (μ 77) := hS.1.is
  generalize hs : μ 77 = s at hT hCo hKd hO hH hI hX hIs
  have hH8 : nH s ≤ 8 := hH.1
  by_cases hw0 : w = nI 0
  · skip
    subst hw0
    by_cases hv : nI 0 ≤ v ∧ v ≤ seaC 0
    · skip
      refine OpOK.m (x := s (5 + 0)) (upd s (5 + 0) v) hS (hIs.low _ (by decide) (by decide)) (by simp (disch := omega) only [upd_ne, hs]) (fun j hj => by simp (disch := omega) only [upd_ne, hs]) ?_ (fun μ5 k5 => ?_)
      · show Go V (d + 3) mX8_sea 0 [some (vR 0), some (vI (nI 0)), some (vI v), none] [] μ _
        refine Go.iload_n dX8_sea_0 rfl ?_
        refine Go.if_lt_f (tgt := 25) dX8_sea_1 (by decide) (by decide) ?_
        refine Go.iload_n dX8_sea_4 rfl ?_
        refine Go.getSea dX8_sea_5 flX8_122 ?_
        refine Go.alengthR (f := seaC) (n := 6) dX8_sea_8 rfl ?_
        refine Go.icmp_ge_f (tgt := 25) dX8_sea_9 (by decide) (by decide) ?_
        refine Go.at 12 rfl ?_
        refine Go.iload_n dX8_sea_12 rfl ?_
        refine Go.iconst (v := nI 0) dX8_sea_13 rfl ?_
        refine Go.getSea dX8_sea_14 flX8_122 ?_
        refine Go.iload_n dX8_sea_17 rfl ?_
        refine Go.ialoadR 0 dX8_sea_18 rfl (by decide) (by omega) rfl ?_
        refine Go.callSi [vI v, vI (nI 0), vI (seaC 0)] [] dX8_sea_19 lkX8_72 rfl (Nat.le_of_ble_eq_true rfl) rfl (Nat.le_of_ble_eq_true rfl) (c_within v (nI 0) (seaC 0)) ?_
        refine Go.at 22 rfl ?_
        refine Go.if_neb_t (tgt := 28) dX8_sea_22 (by decide) hv ?_
        refine Go.aload_n dX8_sea_28 rfl ?_
        refine Go.getR dX8_sea_29 flX8_21 rfl ?_
        refine Go.getR dX8_sea_32 flX8_125 rfl ?_
        refine Go.iload_n dX8_sea_35 rfl ?_
        refine Go.iaload 0 dX8_sea_36 rfl (by omega) rfl ?_
        refine Go.topE (s 5) (hI.2.1 0 (by decide)) ?_
        refine Go.at 37 rfl ?_
        refine Go.istore_n (ls' := [some (vR 0), some (vI (nI 0)), some (vI v), some (vI (s 5))]) dX8_sea_37 (by decide) rfl ?_
        refine Go.aload_n dX8_sea_38 rfl ?_
        refine Go.getR dX8_sea_39 flX8_21 rfl ?_
        refine Go.getR dX8_sea_42 flX8_125 rfl ?_
        refine Go.iload_n dX8_sea_45 rfl ?_
        refine Go.iload_n dX8_sea_46 rfl ?_
        refine Go.at 47 rfl ?_
        refine Go.iastore 0 dX8_sea_47 rfl (by omega) rfl ?_
        refine Go.iload_n dX8_sea_48 rfl ?_
        refine Go.ireturn .int dX8_sea_49 rfl rfl ?_
        exact ⟨congrArg (fun z => some (vI z)) (by simp (disch := omega) only [ms_self, ms_ne, upd_self, upd_ne, hI.2.1 0 (by decide)]), (hI.water (j := 0) (by decide) _), ((Fr.rf _ _).ms _ _ (by decide))⟩
      · have hs5 : μ5 77 = s := (k5 77 (by decide)).trans hs
        show Go V (d + 3) mX9_sea 0 [some (vR 76), some (vI (nI 0)), some (vI v)] [] μ5 _
        refine Go.iload_n dX9_sea_0 rfl ?_
        refine Go.i2l dX9_sea_1 ?_
        refine Go.lconst (v := (nI 0).toInt64) dX9_sea_2 rfl ?_
        refine Go.ldc2 (v := (nI 5).toInt64) dX9_sea_3 clX9_94 ?_
        refine Go.callSi [vL ((nI 0).toInt64), vL ((nI 0).toInt64), vL ((nI 5).toInt64)] [] dX9_sea_6 lkX9_65 rfl (Nat.le_of_ble_eq_true rfl) rfl (Nat.le_of_ble_eq_true rfl) (m_isIn (nI 0) (nI 0) (nI 5)) ?_
        refine Go.if_eqb_f (tgt := 37) dX9_sea_9 (by decide) (by decide) ?_
        refine Go.at 12 rfl ?_
        refine Go.iload_n dX9_sea_12 rfl ?_
        refine Go.i2l dX9_sea_13 ?_
        refine Go.lconst (v := (nI 0).toInt64) dX9_sea_14 rfl ?_
        refine Go.iload_n dX9_sea_15 rfl ?_
        refine Go.callSi [vI (nI 0)] [vL ((nI 0).toInt64), vL v.toInt64] dX9_sea_16 lkX9_124 rfl (Nat.le_of_ble_eq_true rfl) rfl (Nat.le_of_ble_eq_true rfl) (m_mostOf_0) ?_
        refine Go.i2l dX9_sea_19 ?_
        refine Go.at 20 rfl ?_
        refine Go.callSi [vL v.toInt64, vL ((nI 0).toInt64), vL ((seaC 0).toInt64)] [] dX9_sea_20 lkX9_65 rfl (Nat.le_of_ble_eq_true rfl) rfl (Nat.le_of_ble_eq_true rfl) (m_isIn v (nI 0) (seaC 0)) ?_
        refine Go.if_eqb_f (tgt := 37) dX9_sea_23 (by decide) hv ?_
        refine Go.aload_n dX9_sea_26 rfl ?_
        refine Go.iconst (v := nI 5) dX9_sea_27 rfl ?_
        refine Go.iload_n dX9_sea_28 rfl ?_
        refine Go.iaddN dX9_sea_29 ?_
        refine Go.at 30 rfl ?_
        refine Go.iload_n dX9_sea_30 rfl ?_
        refine Go.callVi 76 [vI (nI (5 + 0)), vI v] [] dX9_sea_31 lkX9_103 (Or.inl ⟨_, _, _, rfl, rfl, rfl⟩) rfl (Nat.le_of_ble_eq_true rfl) rfl (Nat.le_of_ble_eq_true rfl) (m_becomes (5 + 0) (by omega) v) ?_
        refine Go.goto (tgt := 39) dX9_sea_34 (by decide) ?_
        refine Go.ireturn .int dX9_sea_39 rfl rfl ?_
        exact ⟨congrArg (fun z => some (vI z)) (by simp (disch := omega) only [ms_self, ms_ne, upd_self, upd_ne, hs5]), by simp only [ms_self, hs5], ((Fr.rf _ _).ms _ _ (by decide))⟩
    · skip
      refine OpOK.q (x := (-1000000001)) hS ?_ (fun μ5 k5 => ?_)
      · show Go V (d + 3) mX8_sea 0 [some (vR 0), some (vI (nI 0)), some (vI v), none] [] μ _
        refine Go.iload_n dX8_sea_0 rfl ?_
        refine Go.if_lt_f (tgt := 25) dX8_sea_1 (by decide) (by decide) ?_
        refine Go.iload_n dX8_sea_4 rfl ?_
        refine Go.getSea dX8_sea_5 flX8_122 ?_
        refine Go.alengthR (f := seaC) (n := 6) dX8_sea_8 rfl ?_
        refine Go.icmp_ge_f (tgt := 25) dX8_sea_9 (by decide) (by decide) ?_
        refine Go.at 12 rfl ?_
        refine Go.iload_n dX8_sea_12 rfl ?_
        refine Go.iconst (v := nI 0) dX8_sea_13 rfl ?_
        refine Go.getSea dX8_sea_14 flX8_122 ?_
        refine Go.iload_n dX8_sea_17 rfl ?_
        refine Go.ialoadR 0 dX8_sea_18 rfl (by decide) (by omega) rfl ?_
        refine Go.callSi [vI v, vI (nI 0), vI (seaC 0)] [] dX8_sea_19 lkX8_72 rfl (Nat.le_of_ble_eq_true rfl) rfl (Nat.le_of_ble_eq_true rfl) (c_within v (nI 0) (seaC 0)) ?_
        refine Go.at 22 rfl ?_
        refine Go.if_neb_f (tgt := 28) dX8_sea_22 (by decide) hv ?_
        refine Go.ldc dX8_sea_25 cnX8_76 ?_
        refine Go.ireturn .int dX8_sea_27 rfl rfl ?_
        exact ⟨rfl, Fr.rf _ _⟩
      · have hs5 : μ5 77 = s := (k5 77 (by decide)).trans hs
        show Go V (d + 3) mX9_sea 0 [some (vR 76), some (vI (nI 0)), some (vI v)] [] μ5 _
        refine Go.iload_n dX9_sea_0 rfl ?_
        refine Go.i2l dX9_sea_1 ?_
        refine Go.lconst (v := (nI 0).toInt64) dX9_sea_2 rfl ?_
        refine Go.ldc2 (v := (nI 5).toInt64) dX9_sea_3 clX9_94 ?_
        refine Go.callSi [vL ((nI 0).toInt64), vL ((nI 0).toInt64), vL ((nI 5).toInt64)] [] dX9_sea_6 lkX9_65 rfl (Nat.le_of_ble_eq_true rfl) rfl (Nat.le_of_ble_eq_true rfl) (m_isIn (nI 0) (nI 0) (nI 5)) ?_
        refine Go.if_eqb_f (tgt := 37) dX9_sea_9 (by decide) (by decide) ?_
        refine Go.at 12 rfl ?_
        refine Go.iload_n dX9_sea_12 rfl ?_
        refine Go.i2l dX9_sea_13 ?_
        refine Go.lconst (v := (nI 0).toInt64) dX9_sea_14 rfl ?_
        refine Go.iload_n dX9_sea_15 rfl ?_
        refine Go.callSi [vI (nI 0)] [vL ((nI 0).toInt64), vL v.toInt64] dX9_sea_16 lkX9_124 rfl (Nat.le_of_ble_eq_true rfl) rfl (Nat.le_of_ble_eq_true rfl) (m_mostOf_0) ?_
        refine Go.i2l dX9_sea_19 ?_
        refine Go.at 20 rfl ?_
        refine Go.callSi [vL v.toInt64, vL ((nI 0).toInt64), vL ((seaC 0).toInt64)] [] dX9_sea_20 lkX9_65 rfl (Nat.le_of_ble_eq_true rfl) rfl (Nat.le_of_ble_eq_true rfl) (m_isIn v (nI 0) (seaC 0)) ?_
        refine Go.if_eqb_t (tgt := 37) dX9_sea_23 (by decide) hv ?_
        refine Go.ldc dX9_sea_37 cnX9_98 ?_
        refine Go.ireturn .int dX9_sea_39 rfl rfl ?_
        exact ⟨rfl, Fr.rf _ _⟩
  · skip
    by_cases hw1 : w = nI 1
    · skip
      subst hw1
      by_cases hv : nI 0 ≤ v ∧ v ≤ seaC 1
      · skip
        refine OpOK.m (x := s (5 + 1)) (upd s (5 + 1) v) hS (hIs.low _ (by decide) (by decide)) (by simp (disch := omega) only [upd_ne, hs]) (fun j hj => by simp (disch := omega) only [upd_ne, hs]) ?_ (fun μ5 k5 => ?_)
        · show Go V (d + 3) mX8_sea 0 [some (vR 0), some (vI (nI 1)), some (vI v), none] [] μ _
          refine Go.iload_n dX8_sea_0 rfl ?_
          refine Go.if_lt_f (tgt := 25) dX8_sea_1 (by decide) (by decide) ?_
          refine Go.iload_n dX8_sea_4 rfl ?_
          refine Go.getSea dX8_sea_5 flX8_122 ?_
          refine Go.alengthR (f := seaC) (n := 6) dX8_sea_8 rfl ?_
          refine Go.icmp_ge_f (tgt := 25) dX8_sea_9 (by decide) (by decide) ?_
          refine Go.at 12 rfl ?_
          refine Go.iload_n dX8_sea_12 rfl ?_
          refine Go.iconst (v := nI 0) dX8_sea_13 rfl ?_
          refine Go.getSea dX8_sea_14 flX8_122 ?_
          refine Go.iload_n dX8_sea_17 rfl ?_
          refine Go.ialoadR 1 dX8_sea_18 rfl (by decide) (by omega) rfl ?_
          refine Go.callSi [vI v, vI (nI 0), vI (seaC 1)] [] dX8_sea_19 lkX8_72 rfl (Nat.le_of_ble_eq_true rfl) rfl (Nat.le_of_ble_eq_true rfl) (c_within v (nI 0) (seaC 1)) ?_
          refine Go.at 22 rfl ?_
          refine Go.if_neb_t (tgt := 28) dX8_sea_22 (by decide) hv ?_
          refine Go.aload_n dX8_sea_28 rfl ?_
          refine Go.getR dX8_sea_29 flX8_21 rfl ?_
          refine Go.getR dX8_sea_32 flX8_125 rfl ?_
          refine Go.iload_n dX8_sea_35 rfl ?_
          refine Go.iaload 1 dX8_sea_36 rfl (by omega) rfl ?_
          refine Go.topE (s 6) (hI.2.1 1 (by decide)) ?_
          refine Go.at 37 rfl ?_
          refine Go.istore_n (ls' := [some (vR 0), some (vI (nI 1)), some (vI v), some (vI (s 6))]) dX8_sea_37 (by decide) rfl ?_
          refine Go.aload_n dX8_sea_38 rfl ?_
          refine Go.getR dX8_sea_39 flX8_21 rfl ?_
          refine Go.getR dX8_sea_42 flX8_125 rfl ?_
          refine Go.iload_n dX8_sea_45 rfl ?_
          refine Go.iload_n dX8_sea_46 rfl ?_
          refine Go.at 47 rfl ?_
          refine Go.iastore 1 dX8_sea_47 rfl (by omega) rfl ?_
          refine Go.iload_n dX8_sea_48 rfl ?_
          refine Go.ireturn .int dX8_sea_49 rfl rfl ?_
          exact ⟨congrArg (fun z => some (vI z)) (by simp (disch := omega) only [ms_self, ms_ne, upd_self, upd_ne, hI.2.1 1 (by decide)]), (hI.water (j := 1) (by decide) _), ((Fr.rf _ _).ms _ _ (by decide))⟩
        · have hs5 : μ5 77 = s := (k5 77 (by decide)).trans hs
          show Go V (d + 3) mX9_sea 0 [some (vR 76), some (vI (nI 1)), some (vI v)] [] μ5 _
          refine Go.iload_n dX9_sea_0 rfl ?_
          refine Go.i2l dX9_sea_1 ?_
          refine Go.lconst (v := (nI 0).toInt64) dX9_sea_2 rfl ?_
          refine Go.ldc2 (v := (nI 5).toInt64) dX9_sea_3 clX9_94 ?_
          refine Go.callSi [vL ((nI 1).toInt64), vL ((nI 0).toInt64), vL ((nI 5).toInt64)] [] dX9_sea_6 lkX9_65 rfl (Nat.le_of_ble_eq_true rfl) rfl (Nat.le_of_ble_eq_true rfl) (m_isIn (nI 1) (nI 0) (nI 5)) ?_
          refine Go.if_eqb_f (tgt := 37) dX9_sea_9 (by decide) (by decide) ?_
          refine Go.at 12 rfl ?_
          refine Go.iload_n dX9_sea_12 rfl ?_
          refine Go.i2l dX9_sea_13 ?_
          refine Go.lconst (v := (nI 0).toInt64) dX9_sea_14 rfl ?_
          refine Go.iload_n dX9_sea_15 rfl ?_
          refine Go.callSi [vI (nI 1)] [vL ((nI 0).toInt64), vL v.toInt64] dX9_sea_16 lkX9_124 rfl (Nat.le_of_ble_eq_true rfl) rfl (Nat.le_of_ble_eq_true rfl) (m_mostOf_1) ?_
          refine Go.i2l dX9_sea_19 ?_
          refine Go.at 20 rfl ?_
          refine Go.callSi [vL v.toInt64, vL ((nI 0).toInt64), vL ((seaC 1).toInt64)] [] dX9_sea_20 lkX9_65 rfl (Nat.le_of_ble_eq_true rfl) rfl (Nat.le_of_ble_eq_true rfl) (m_isIn v (nI 0) (seaC 1)) ?_
          refine Go.if_eqb_f (tgt := 37) dX9_sea_23 (by decide) hv ?_
          refine Go.aload_n dX9_sea_26 rfl ?_
          refine Go.iconst (v := nI 5) dX9_sea_27 rfl ?_
          refine Go.iload_n dX9_sea_28 rfl ?_
          refine Go.iaddN dX9_sea_29 ?_
          refine Go.at 30 rfl ?_
          refine Go.iload_n dX9_sea_30 rfl ?_
          refine Go.callVi 76 [vI (nI (5 + 1)), vI v] [] dX9_sea_31 lkX9_103 (Or.inl ⟨_, _, _, rfl, rfl, rfl⟩) rfl (Nat.le_of_ble_eq_true rfl) rfl (Nat.le_of_ble_eq_true rfl) (m_becomes (5 + 1) (by omega) v) ?_
          refine Go.goto (tgt := 39) dX9_sea_34 (by decide) ?_
          refine Go.ireturn .int dX9_sea_39 rfl rfl ?_
          exact ⟨congrArg (fun z => some (vI z)) (by simp (disch := omega) only [ms_self, ms_ne, upd_self, upd_ne, hs5]), by simp only [ms_self, hs5], ((Fr.rf _ _).ms _ _ (by decide))⟩
      · skip
        refine OpOK.q (x := (-1000000001)) hS ?_ (fun μ5 k5 => ?_)
        · show Go V (d + 3) mX8_sea 0 [some (vR 0), some (vI (nI 1)), some (vI v), none] [] μ _
          refine Go.iload_n dX8_sea_0 rfl ?_
          refine Go.if_lt_f (tgt := 25) dX8_sea_1 (by decide) (by decide) ?_
          refine Go.iload_n dX8_sea_4 rfl ?_
          refine Go.getSea dX8_sea_5 flX8_122 ?_
          refine Go.alengthR (f := seaC) (n := 6) dX8_sea_8 rfl ?_
          refine Go.icmp_ge_f (tgt := 25) dX8_sea_9 (by decide) (by decide) ?_
          refine Go.at 12 rfl ?_
          refine Go.iload_n dX8_sea_12 rfl ?_
          refine Go.iconst (v := nI 0) dX8_sea_13 rfl ?_
          refine Go.getSea dX8_sea_14 flX8_122 ?_
          refine Go.iload_n dX8_sea_17 rfl ?_
          refine Go.ialoadR 1 dX8_sea_18 rfl (by decide) (by omega) rfl ?_
          refine Go.callSi [vI v, vI (nI 0), vI (seaC 1)] [] dX8_sea_19 lkX8_72 rfl (Nat.le_of_ble_eq_true rfl) rfl (Nat.le_of_ble_eq_true rfl) (c_within v (nI 0) (seaC 1)) ?_
          refine Go.at 22 rfl ?_
          refine Go.if_neb_f (tgt := 28) dX8_sea_22 (by decide) hv ?_
          refine Go.ldc dX8_sea_25 cnX8_76 ?_
          refine Go.ireturn .int dX8_sea_27 rfl rfl ?_
          exact ⟨rfl, Fr.rf _ _⟩
        · have hs5 : μ5 77 = s := (k5 77 (by decide)).trans hs
          show Go V (d + 3) mX9_sea 0 [some (vR 76), some (vI (nI 1)), some (vI v)] [] μ5 _
          refine Go.iload_n dX9_sea_0 rfl ?_
          refine Go.i2l dX9_sea_1 ?_
          refine Go.lconst (v := (nI 0).toInt64) dX9_sea_2 rfl ?_
          refine Go.ldc2 (v := (nI 5).toInt64) dX9_sea_3 clX9_94 ?_
          refine Go.callSi [vL ((nI 1).toInt64), vL ((nI 0).toInt64), vL ((nI 5).toInt64)] [] dX9_sea_6 lkX9_65 rfl (Nat.le_of_ble_eq_true rfl) rfl (Nat.le_of_ble_eq_true rfl) (m_isIn (nI 1) (nI 0) (nI 5)) ?_
          refine Go.if_eqb_f (tgt := 37) dX9_sea_9 (by decide) (by decide) ?_
          refine Go.at 12 rfl ?_
          refine Go.iload_n dX9_sea_12 rfl ?_
          refine Go.i2l dX9_sea_13 ?_
          refine Go.lconst (v := (nI 0).toInt64) dX9_sea_14 rfl ?_
          refine Go.iload_n dX9_sea_15 rfl ?_
          refine Go.callSi [vI (nI 1)] [vL ((nI 0).toInt64), vL v.toInt64] dX9_sea_16 lkX9_124 rfl (Nat.le_of_ble_eq_true rfl) rfl (Nat.le_of_ble_eq_true rfl) (m_mostOf_1) ?_
          refine Go.i2l dX9_sea_19 ?_
          refine Go.at 20 rfl ?_
          refine Go.callSi [vL v.toInt64, vL ((nI 0).toInt64), vL ((seaC 1).toInt64)] [] dX9_sea_20 lkX9_65 rfl (Nat.le_of_ble_eq_true rfl) rfl (Nat.le_of_ble_eq_true rfl) (m_isIn v (nI 0) (seaC 1)) ?_
          refine Go.if_eqb_t (tgt := 37) dX9_sea_23 (by decide) hv ?_
          refine Go.ldc dX9_sea_37 cnX9_98 ?_
          refine Go.ireturn .int dX9_sea_39 rfl rfl ?_
          exact ⟨rfl, Fr.rf _ _⟩
    · skip
      by_cases hw2 : w = nI 2
      · skip
        subst hw2
        by_cases hv : nI 0 ≤ v ∧ v ≤ seaC 2
        · skip
          refine OpOK.m (x := s (5 + 2)) (upd s (5 + 2) v) hS (hIs.low _ (by decide) (by decide)) (by simp (disch := omega) only [upd_ne, hs]) (fun j hj => by simp (disch := omega) only [upd_ne, hs]) ?_ (fun μ5 k5 => ?_)
          · show Go V (d + 3) mX8_sea 0 [some (vR 0), some (vI (nI 2)), some (vI v), none] [] μ _
            refine Go.iload_n dX8_sea_0 rfl ?_
            refine Go.if_lt_f (tgt := 25) dX8_sea_1 (by decide) (by decide) ?_
            refine Go.iload_n dX8_sea_4 rfl ?_
            refine Go.getSea dX8_sea_5 flX8_122 ?_
            refine Go.alengthR (f := seaC) (n := 6) dX8_sea_8 rfl ?_
            refine Go.icmp_ge_f (tgt := 25) dX8_sea_9 (by decide) (by decide) ?_
            refine Go.at 12 rfl ?_
            refine Go.iload_n dX8_sea_12 rfl ?_
            refine Go.iconst (v := nI 0) dX8_sea_13 rfl ?_
            refine Go.getSea dX8_sea_14 flX8_122 ?_
            refine Go.iload_n dX8_sea_17 rfl ?_
            refine Go.ialoadR 2 dX8_sea_18 rfl (by decide) (by omega) rfl ?_
            refine Go.callSi [vI v, vI (nI 0), vI (seaC 2)] [] dX8_sea_19 lkX8_72 rfl (Nat.le_of_ble_eq_true rfl) rfl (Nat.le_of_ble_eq_true rfl) (c_within v (nI 0) (seaC 2)) ?_
            refine Go.at 22 rfl ?_
            refine Go.if_neb_t (tgt := 28) dX8_sea_22 (by decide) hv ?_
            refine Go.aload_n dX8_sea_28 rfl ?_
            refine Go.getR dX8_sea_29 flX8_21 rfl ?_
            refine Go.getR dX8_sea_32 flX8_125 rfl ?_
            refine Go.iload_n dX8_sea_35 rfl ?_
            refine Go.iaload 2 dX8_sea_36 rfl (by omega) rfl ?_
            refine Go.topE (s 7) (hI.2.1 2 (by decide)) ?_
            refine Go.at 37 rfl ?_
            refine Go.istore_n (ls' := [some (vR 0), some (vI (nI 2)), some (vI v), some (vI (s 7))]) dX8_sea_37 (by decide) rfl ?_
            refine Go.aload_n dX8_sea_38 rfl ?_
            refine Go.getR dX8_sea_39 flX8_21 rfl ?_
            refine Go.getR dX8_sea_42 flX8_125 rfl ?_
            refine Go.iload_n dX8_sea_45 rfl ?_
            refine Go.iload_n dX8_sea_46 rfl ?_
            refine Go.at 47 rfl ?_
            refine Go.iastore 2 dX8_sea_47 rfl (by omega) rfl ?_
            refine Go.iload_n dX8_sea_48 rfl ?_
            refine Go.ireturn .int dX8_sea_49 rfl rfl ?_
            exact ⟨congrArg (fun z => some (vI z)) (by simp (disch := omega) only [ms_self, ms_ne, upd_self, upd_ne, hI.2.1 2 (by decide)]), (hI.water (j := 2) (by decide) _), ((Fr.rf _ _).ms _ _ (by decide))⟩
          · have hs5 : μ5 77 = s := (k5 77 (by decide)).trans hs
            show Go V (d + 3) mX9_sea 0 [some (vR 76), some (vI (nI 2)), some (vI v)] [] μ5 _
            refine Go.iload_n dX9_sea_0 rfl ?_
            refine Go.i2l dX9_sea_1 ?_
            refine Go.lconst (v := (nI 0).toInt64) dX9_sea_2 rfl ?_
            refine Go.ldc2 (v := (nI 5).toInt64) dX9_sea_3 clX9_94 ?_
            refine Go.callSi [vL ((nI 2).toInt64), vL ((nI 0).toInt64), vL ((nI 5).toInt64)] [] dX9_sea_6 lkX9_65 rfl (Nat.le_of_ble_eq_true rfl) rfl (Nat.le_of_ble_eq_true rfl) (m_isIn (nI 2) (nI 0) (nI 5)) ?_
            refine Go.if_eqb_f (tgt := 37) dX9_sea_9 (by decide) (by decide) ?_
            refine Go.at 12 rfl ?_
            refine Go.iload_n dX9_sea_12 rfl ?_
            refine Go.i2l dX9_sea_13 ?_
            refine Go.lconst (v := (nI 0).toInt64) dX9_sea_14 rfl ?_
            refine Go.iload_n dX9_sea_15 rfl ?_
            refine Go.callSi [vI (nI 2)] [vL ((nI 0).toInt64), vL v.toInt64] dX9_sea_16 lkX9_124 rfl (Nat.le_of_ble_eq_true rfl) rfl (Nat.le_of_ble_eq_true rfl) (m_mostOf_2) ?_
            refine Go.i2l dX9_sea_19 ?_
            refine Go.at 20 rfl ?_
            refine Go.callSi [vL v.toInt64, vL ((nI 0).toInt64), vL ((seaC 2).toInt64)] [] dX9_sea_20 lkX9_65 rfl (Nat.le_of_ble_eq_true rfl) rfl (Nat.le_of_ble_eq_true rfl) (m_isIn v (nI 0) (seaC 2)) ?_
            refine Go.if_eqb_f (tgt := 37) dX9_sea_23 (by decide) hv ?_
            refine Go.aload_n dX9_sea_26 rfl ?_
            refine Go.iconst (v := nI 5) dX9_sea_27 rfl ?_
            refine Go.iload_n dX9_sea_28 rfl ?_
            refine Go.iaddN dX9_sea_29 ?_
            refine Go.at 30 rfl ?_
            refine Go.iload_n dX9_sea_30 rfl ?_
            refine Go.callVi 76 [vI (nI (5 + 2)), vI v] [] dX9_sea_31 lkX9_103 (Or.inl ⟨_, _, _, rfl, rfl, rfl⟩) rfl (Nat.le_of_ble_eq_true rfl) rfl (Nat.le_of_ble_eq_true rfl) (m_becomes (5 + 2) (by omega) v) ?_
            refine Go.goto (tgt := 39) dX9_sea_34 (by decide) ?_
            refine Go.ireturn .int dX9_sea_39 rfl rfl ?_
            exact ⟨congrArg (fun z => some (vI z)) (by simp (disch := omega) only [ms_self, ms_ne, upd_self, upd_ne, hs5]), by simp only [ms_self, hs5], ((Fr.rf _ _).ms _ _ (by decide))⟩
        · skip
          refine OpOK.q (x := (-1000000001)) hS ?_ (fun μ5 k5 => ?_)
          · show Go V (d + 3) mX8_sea 0 [some (vR 0), some (vI (nI 2)), some (vI v), none] [] μ _
            refine Go.iload_n dX8_sea_0 rfl ?_
            refine Go.if_lt_f (tgt := 25) dX8_sea_1 (by decide) (by decide) ?_
            refine Go.iload_n dX8_sea_4 rfl ?_
            refine Go.getSea dX8_sea_5 flX8_122 ?_
            refine Go.alengthR (f := seaC) (n := 6) dX8_sea_8 rfl ?_
            refine Go.icmp_ge_f (tgt := 25) dX8_sea_9 (by decide) (by decide) ?_
            refine Go.at 12 rfl ?_
            refine Go.iload_n dX8_sea_12 rfl ?_
            refine Go.iconst (v := nI 0) dX8_sea_13 rfl ?_
            refine Go.getSea dX8_sea_14 flX8_122 ?_
            refine Go.iload_n dX8_sea_17 rfl ?_
            refine Go.ialoadR 2 dX8_sea_18 rfl (by decide) (by omega) rfl ?_
            refine Go.callSi [vI v, vI (nI 0), vI (seaC 2)] [] dX8_sea_19 lkX8_72 rfl (Nat.le_of_ble_eq_true rfl) rfl (Nat.le_of_ble_eq_true rfl) (c_within v (nI 0) (seaC 2)) ?_
            refine Go.at 22 rfl ?_
            refine Go.if_neb_f (tgt := 28) dX8_sea_22 (by decide) hv ?_
            refine Go.ldc dX8_sea_25 cnX8_76 ?_
            refine Go.ireturn .int dX8_sea_27 rfl rfl ?_
            exact ⟨rfl, Fr.rf _ _⟩
          · have hs5 : μ5 77 = s := (k5 77 (by decide)).trans hs
            show Go V (d + 3) mX9_sea 0 [some (vR 76), some (vI (nI 2)), some (vI v)] [] μ5 _
            refine Go.iload_n dX9_sea_0 rfl ?_
            refine Go.i2l dX9_sea_1 ?_
            refine Go.lconst (v := (nI 0).toInt64) dX9_sea_2 rfl ?_
            refine Go.ldc2 (v := (nI 5).toInt64) dX9_sea_3 clX9_94 ?_
            refine Go.callSi [vL ((nI 2).toInt64), vL ((nI 0).toInt64), vL ((nI 5).toInt64)] [] dX9_sea_6 lkX9_65 rfl (Nat.le_of_ble_eq_true rfl) rfl (Nat.le_of_ble_eq_true rfl) (m_isIn (nI 2) (nI 0) (nI 5)) ?_
            refine Go.if_eqb_f (tgt := 37) dX9_sea_9 (by decide) (by decide) ?_
            refine Go.at 12 rfl ?_
            refine Go.iload_n dX9_sea_12 rfl ?_
            refine Go.i2l dX9_sea_13 ?_
            refine Go.lconst (v := (nI 0).toInt64) dX9_sea_14 rfl ?_
            refine Go.iload_n dX9_sea_15 rfl ?_
            refine Go.callSi [vI (nI 2)] [vL ((nI 0).toInt64), vL v.toInt64] dX9_sea_16 lkX9_124 rfl (Nat.le_of_ble_eq_true rfl) rfl (Nat.le_of_ble_eq_true rfl) (m_mostOf_2) ?_
            refine Go.i2l dX9_sea_19 ?_
            refine Go.at 20 rfl ?_
            refine Go.callSi [vL v.toInt64, vL ((nI 0).toInt64), vL ((seaC 2).toInt64)] [] dX9_sea_20 lkX9_65 rfl (Nat.le_of_ble_eq_true rfl) rfl (Nat.le_of_ble_eq_true rfl) (m_isIn v (nI 0) (seaC 2)) ?_
            refine Go.if_eqb_t (tgt := 37) dX9_sea_23 (by decide) hv ?_
            refine Go.ldc dX9_sea_37 cnX9_98 ?_
            refine Go.ireturn .int dX9_sea_39 rfl rfl ?_
            exact ⟨rfl, Fr.rf _ _⟩
      · skip
        by_cases hw3 : w = nI 3
        · skip
          subst hw3
          by_cases hv : nI 0 ≤ v ∧ v ≤ seaC 3
          · skip
            refine OpOK.m (x := s (5 + 3)) (upd s (5 + 3) v) hS (hIs.low _ (by decide) (by decide)) (by simp (disch := omega) only [upd_ne, hs]) (fun j hj => by simp (disch := omega) only [upd_ne, hs]) ?_ (fun μ5 k5 => ?_)
            · show Go V (d + 3) mX8_sea 0 [some (vR 0), some (vI (nI 3)), some (vI v), none] [] μ _
              refine Go.iload_n dX8_sea_0 rfl ?_
              refine Go.if_lt_f (tgt := 25) dX8_sea_1 (by decide) (by decide) ?_
              refine Go.iload_n dX8_sea_4 rfl ?_
              refine Go.getSea dX8_sea_5 flX8_122 ?_
              refine Go.alengthR (f := seaC) (n := 6) dX8_sea_8 rfl ?_
              refine Go.icmp_ge_f (tgt := 25) dX8_sea_9 (by decide) (by decide) ?_
              refine Go.at 12 rfl ?_
              refine Go.iload_n dX8_sea_12 rfl ?_
              refine Go.iconst (v := nI 0) dX8_sea_13 rfl ?_
              refine Go.getSea dX8_sea_14 flX8_122 ?_
              refine Go.iload_n dX8_sea_17 rfl ?_
              refine Go.ialoadR 3 dX8_sea_18 rfl (by decide) (by omega) rfl ?_
              refine Go.callSi [vI v, vI (nI 0), vI (seaC 3)] [] dX8_sea_19 lkX8_72 rfl (Nat.le_of_ble_eq_true rfl) rfl (Nat.le_of_ble_eq_true rfl) (c_within v (nI 0) (seaC 3)) ?_
              refine Go.at 22 rfl ?_
              refine Go.if_neb_t (tgt := 28) dX8_sea_22 (by decide) hv ?_
              refine Go.aload_n dX8_sea_28 rfl ?_
              refine Go.getR dX8_sea_29 flX8_21 rfl ?_
              refine Go.getR dX8_sea_32 flX8_125 rfl ?_
              refine Go.iload_n dX8_sea_35 rfl ?_
              refine Go.iaload 3 dX8_sea_36 rfl (by omega) rfl ?_
              refine Go.topE (s 8) (hI.2.1 3 (by decide)) ?_
              refine Go.at 37 rfl ?_
              refine Go.istore_n (ls' := [some (vR 0), some (vI (nI 3)), some (vI v), some (vI (s 8))]) dX8_sea_37 (by decide) rfl ?_
              refine Go.aload_n dX8_sea_38 rfl ?_
              refine Go.getR dX8_sea_39 flX8_21 rfl ?_
              refine Go.getR dX8_sea_42 flX8_125 rfl ?_
              refine Go.iload_n dX8_sea_45 rfl ?_
              refine Go.iload_n dX8_sea_46 rfl ?_
              refine Go.at 47 rfl ?_
              refine Go.iastore 3 dX8_sea_47 rfl (by omega) rfl ?_
              refine Go.iload_n dX8_sea_48 rfl ?_
              refine Go.ireturn .int dX8_sea_49 rfl rfl ?_
              exact ⟨congrArg (fun z => some (vI z)) (by simp (disch := omega) only [ms_self, ms_ne, upd_self, upd_ne, hI.2.1 3 (by decide)]), (hI.water (j := 3) (by decide) _), ((Fr.rf _ _).ms _ _ (by decide))⟩
            · have hs5 : μ5 77 = s := (k5 77 (by decide)).trans hs
              show Go V (d + 3) mX9_sea 0 [some (vR 76), some (vI (nI 3)), some (vI v)] [] μ5 _
              refine Go.iload_n dX9_sea_0 rfl ?_
              refine Go.i2l dX9_sea_1 ?_
              refine Go.lconst (v := (nI 0).toInt64) dX9_sea_2 rfl ?_
              refine Go.ldc2 (v := (nI 5).toInt64) dX9_sea_3 clX9_94 ?_
              refine Go.callSi [vL ((nI 3).toInt64), vL ((nI 0).toInt64), vL ((nI 5).toInt64)] [] dX9_sea_6 lkX9_65 rfl (Nat.le_of_ble_eq_true rfl) rfl (Nat.le_of_ble_eq_true rfl) (m_isIn (nI 3) (nI 0) (nI 5)) ?_
              refine Go.if_eqb_f (tgt := 37) dX9_sea_9 (by decide) (by decide) ?_
              refine Go.at 12 rfl ?_
              refine Go.iload_n dX9_sea_12 rfl ?_
              refine Go.i2l dX9_sea_13 ?_
              refine Go.lconst (v := (nI 0).toInt64) dX9_sea_14 rfl ?_
              refine Go.iload_n dX9_sea_15 rfl ?_
              refine Go.callSi [vI (nI 3)] [vL ((nI 0).toInt64), vL v.toInt64] dX9_sea_16 lkX9_124 rfl (Nat.le_of_ble_eq_true rfl) rfl (Nat.le_of_ble_eq_true rfl) (m_mostOf_3) ?_
              refine Go.i2l dX9_sea_19 ?_
              refine Go.at 20 rfl ?_
              refine Go.callSi [vL v.toInt64, vL ((nI 0).toInt64), vL ((seaC 3).toInt64)] [] dX9_sea_20 lkX9_65 rfl (Nat.le_of_ble_eq_true rfl) rfl (Nat.le_of_ble_eq_true rfl) (m_isIn v (nI 0) (seaC 3)) ?_
              refine Go.if_eqb_f (tgt := 37) dX9_sea_23 (by decide) hv ?_
              refine Go.aload_n dX9_sea_26 rfl ?_
              refine Go.iconst (v := nI 5) dX9_sea_27 rfl ?_
              refine Go.iload_n dX9_sea_28 rfl ?_
              refine Go.iaddN dX9_sea_29 ?_
              refine Go.at 30 rfl ?_
              refine Go.iload_n dX9_sea_30 rfl ?_
              refine Go.callVi 76 [vI (nI (5 + 3)), vI v] [] dX9_sea_31 lkX9_103 (Or.inl ⟨_, _, _, rfl, rfl, rfl⟩) rfl (Nat.le_of_ble_eq_true rfl) rfl (Nat.le_of_ble_eq_true rfl) (m_becomes (5 + 3) (by omega) v) ?_
              refine Go.goto (tgt := 39) dX9_sea_34 (by decide) ?_
              refine Go.ireturn .int dX9_sea_39 rfl rfl ?_
              exact ⟨congrArg (fun z => some (vI z)) (by simp (disch := omega) only [ms_self, ms_ne, upd_self, upd_ne, hs5]), by simp only [ms_self, hs5], ((Fr.rf _ _).ms _ _ (by decide))⟩
          · skip
            refine OpOK.q (x := (-1000000001)) hS ?_ (fun μ5 k5 => ?_)
            · show Go V (d + 3) mX8_sea 0 [some (vR 0), some (vI (nI 3)), some (vI v), none] [] μ _
              refine Go.iload_n dX8_sea_0 rfl ?_
              refine Go.if_lt_f (tgt := 25) dX8_sea_1 (by decide) (by decide) ?_
              refine Go.iload_n dX8_sea_4 rfl ?_
              refine Go.getSea dX8_sea_5 flX8_122 ?_
              refine Go.alengthR (f := seaC) (n := 6) dX8_sea_8 rfl ?_
              refine Go.icmp_ge_f (tgt := 25) dX8_sea_9 (by decide) (by decide) ?_
              refine Go.at 12 rfl ?_
              refine Go.iload_n dX8_sea_12 rfl ?_
              refine Go.iconst (v := nI 0) dX8_sea_13 rfl ?_
              refine Go.getSea dX8_sea_14 flX8_122 ?_
              refine Go.iload_n dX8_sea_17 rfl ?_
              refine Go.ialoadR 3 dX8_sea_18 rfl (by decide) (by omega) rfl ?_
              refine Go.callSi [vI v, vI (nI 0), vI (seaC 3)] [] dX8_sea_19 lkX8_72 rfl (Nat.le_of_ble_eq_true rfl) rfl (Nat.le_of_ble_eq_true rfl) (c_within v (nI 0) (seaC 3)) ?_
              refine Go.at 22 rfl ?_
              refine Go.if_neb_f (tgt := 28) dX8_sea_22 (by decide) hv ?_
              refine Go.ldc dX8_sea_25 cnX8_76 ?_
              refine Go.ireturn .int dX8_sea_27 rfl rfl ?_
              exact ⟨rfl, Fr.rf _ _⟩
            · have hs5 : μ5 77 = s := (k5 77 (by decide)).trans hs
              show Go V (d + 3) mX9_sea 0 [some (vR 76), some (vI (nI 3)), some (vI v)] [] μ5 _
              refine Go.iload_n dX9_sea_0 rfl ?_
              refine Go.i2l dX9_sea_1 ?_
              refine Go.lconst (v := (nI 0).toInt64) dX9_sea_2 rfl ?_
              refine Go.ldc2 (v := (nI 5).toInt64) dX9_sea_3 clX9_94 ?_
              refine Go.callSi [vL ((nI 3).toInt64), vL ((nI 0).toInt64), vL ((nI 5).toInt64)] [] dX9_sea_6 lkX9_65 rfl (Nat.le_of_ble_eq_true rfl) rfl (Nat.le_of_ble_eq_true rfl) (m_isIn (nI 3) (nI 0) (nI 5)) ?_
              refine Go.if_eqb_f (tgt := 37) dX9_sea_9 (by decide) (by decide) ?_
              refine Go.at 12 rfl ?_
              refine Go.iload_n dX9_sea_12 rfl ?_
              refine Go.i2l dX9_sea_13 ?_
              refine Go.lconst (v := (nI 0).toInt64) dX9_sea_14 rfl ?_
              refine Go.iload_n dX9_sea_15 rfl ?_
              refine Go.callSi [vI (nI 3)] [vL ((nI 0).toInt64), vL v.toInt64] dX9_sea_16 lkX9_124 rfl (Nat.le_of_ble_eq_true rfl) rfl (Nat.le_of_ble_eq_true rfl) (m_mostOf_3) ?_
              refine Go.i2l dX9_sea_19 ?_
              refine Go.at 20 rfl ?_
              refine Go.callSi [vL v.toInt64, vL ((nI 0).toInt64), vL ((seaC 3).toInt64)] [] dX9_sea_20 lkX9_65 rfl (Nat.le_of_ble_eq_true rfl) rfl (Nat.le_of_ble_eq_true rfl) (m_isIn v (nI 0) (seaC 3)) ?_
              refine Go.if_eqb_t (tgt := 37) dX9_sea_23 (by decide) hv ?_
              refine Go.ldc dX9_sea_37 cnX9_98 ?_
              refine Go.ireturn .int dX9_sea_39 rfl rfl ?_
              exact ⟨rfl, Fr.rf _ _⟩
        · skip
          by_cases hw4 : w = nI 4
          · skip
            subst hw4
            by_cases hv : nI 0 ≤ v ∧ v ≤ seaC 4
            · skip
              refine OpOK.m (x := s (5 + 4)) (upd s (5 + 4) v) hS (hIs.low _ (by decide) (by decide)) (by simp (disch := omega) only [upd_ne, hs]) (fun j hj => by simp (disch := omega) only [upd_ne, hs]) ?_ (fun μ5 k5 => ?_)
              · show Go V (d + 3) mX8_sea 0 [some (vR 0), some (vI (nI 4)), some (vI v), none] [] μ _
                refine Go.iload_n dX8_sea_0 rfl ?_
                refine Go.if_lt_f (tgt := 25) dX8_sea_1 (by decide) (by decide) ?_
                refine Go.iload_n dX8_sea_4 rfl ?_
                refine Go.getSea dX8_sea_5 flX8_122 ?_
                refine Go.alengthR (f := seaC) (n := 6) dX8_sea_8 rfl ?_
                refine Go.icmp_ge_f (tgt := 25) dX8_sea_9 (by decide) (by decide) ?_
                refine Go.at 12 rfl ?_
                refine Go.iload_n dX8_sea_12 rfl ?_
                refine Go.iconst (v := nI 0) dX8_sea_13 rfl ?_
                refine Go.getSea dX8_sea_14 flX8_122 ?_
                refine Go.iload_n dX8_sea_17 rfl ?_
                refine Go.ialoadR 4 dX8_sea_18 rfl (by decide) (by omega) rfl ?_
                refine Go.callSi [vI v, vI (nI 0), vI (seaC 4)] [] dX8_sea_19 lkX8_72 rfl (Nat.le_of_ble_eq_true rfl) rfl (Nat.le_of_ble_eq_true rfl) (c_within v (nI 0) (seaC 4)) ?_
                refine Go.at 22 rfl ?_
                refine Go.if_neb_t (tgt := 28) dX8_sea_22 (by decide) hv ?_
                refine Go.aload_n dX8_sea_28 rfl ?_
                refine Go.getR dX8_sea_29 flX8_21 rfl ?_
                refine Go.getR dX8_sea_32 flX8_125 rfl ?_
                refine Go.iload_n dX8_sea_35 rfl ?_
                refine Go.iaload 4 dX8_sea_36 rfl (by omega) rfl ?_
                refine Go.topE (s 9) (hI.2.1 4 (by decide)) ?_
                refine Go.at 37 rfl ?_
                refine Go.istore_n (ls' := [some (vR 0), some (vI (nI 4)), some (vI v), some (vI (s 9))]) dX8_sea_37 (by decide) rfl ?_
                refine Go.aload_n dX8_sea_38 rfl ?_
                refine Go.getR dX8_sea_39 flX8_21 rfl ?_
                refine Go.getR dX8_sea_42 flX8_125 rfl ?_
                refine Go.iload_n dX8_sea_45 rfl ?_
                refine Go.iload_n dX8_sea_46 rfl ?_
                refine Go.at 47 rfl ?_
                refine Go.iastore 4 dX8_sea_47 rfl (by omega) rfl ?_
                refine Go.iload_n dX8_sea_48 rfl ?_
                refine Go.ireturn .int dX8_sea_49 rfl rfl ?_
                exact ⟨congrArg (fun z => some (vI z)) (by simp (disch := omega) only [ms_self, ms_ne, upd_self, upd_ne, hI.2.1 4 (by decide)]), (hI.water (j := 4) (by decide) _), ((Fr.rf _ _).ms _ _ (by decide))⟩
              · have hs5 : μ5 77 = s := (k5 77 (by decide)).trans hs
                show Go V (d + 3) mX9_sea 0 [some (vR 76), some (vI (nI 4)), some (vI v)] [] μ5 _
                refine Go.iload_n dX9_sea_0 rfl ?_
                refine Go.i2l dX9_sea_1 ?_
                refine Go.lconst (v := (nI 0).toInt64) dX9_sea_2 rfl ?_
                refine Go.ldc2 (v := (nI 5).toInt64) dX9_sea_3 clX9_94 ?_
                refine Go.callSi [vL ((nI 4).toInt64), vL ((nI 0).toInt64), vL ((nI 5).toInt64)] [] dX9_sea_6 lkX9_65 rfl (Nat.le_of_ble_eq_true rfl) rfl (Nat.le_of_ble_eq_true rfl) (m_isIn (nI 4) (nI 0) (nI 5)) ?_
                refine Go.if_eqb_f (tgt := 37) dX9_sea_9 (by decide) (by decide) ?_
                refine Go.at 12 rfl ?_
                refine Go.iload_n dX9_sea_12 rfl ?_
                refine Go.i2l dX9_sea_13 ?_
                refine Go.lconst (v := (nI 0).toInt64) dX9_sea_14 rfl ?_
                refine Go.iload_n dX9_sea_15 rfl ?_
                refine Go.callSi [vI (nI 4)] [vL ((nI 0).toInt64), vL v.toInt64] dX9_sea_16 lkX9_124 rfl (Nat.le_of_ble_eq_true rfl) rfl (Nat.le_of_ble_eq_true rfl) (m_mostOf_4) ?_
                refine Go.i2l dX9_sea_19 ?_
                refine Go.at 20 rfl ?_
                refine Go.callSi [vL v.toInt64, vL ((nI 0).toInt64), vL ((seaC 4).toInt64)] [] dX9_sea_20 lkX9_65 rfl (Nat.le_of_ble_eq_true rfl) rfl (Nat.le_of_ble_eq_true rfl) (m_isIn v (nI 0) (seaC 4)) ?_
                refine Go.if_eqb_f (tgt := 37) dX9_sea_23 (by decide) hv ?_
                refine Go.aload_n dX9_sea_26 rfl ?_
                refine Go.iconst (v := nI 5) dX9_sea_27 rfl ?_
                refine Go.iload_n dX9_sea_28 rfl ?_
                refine Go.iaddN dX9_sea_29 ?_
                refine Go.at 30 rfl ?_
                refine Go.iload_n dX9_sea_30 rfl ?_
                refine Go.callVi 76 [vI (nI (5 + 4)), vI v] [] dX9_sea_31 lkX9_103 (Or.inl ⟨_, _, _, rfl, rfl, rfl⟩) rfl (Nat.le_of_ble_eq_true rfl) rfl (Nat.le_of_ble_eq_true rfl) (m_becomes (5 + 4) (by omega) v) ?_
                refine Go.goto (tgt := 39) dX9_sea_34 (by decide) ?_
                refine Go.ireturn .int dX9_sea_39 rfl rfl ?_
                exact ⟨congrArg (fun z => some (vI z)) (by simp (disch := omega) only [ms_self, ms_ne, upd_self, upd_ne, hs5]), by simp only [ms_self, hs5], ((Fr.rf _ _).ms _ _ (by decide))⟩
            · skip
              refine OpOK.q (x := (-1000000001)) hS ?_ (fun μ5 k5 => ?_)
              · show Go V (d + 3) mX8_sea 0 [some (vR 0), some (vI (nI 4)), some (vI v), none] [] μ _
                refine Go.iload_n dX8_sea_0 rfl ?_
                refine Go.if_lt_f (tgt := 25) dX8_sea_1 (by decide) (by decide) ?_
                refine Go.iload_n dX8_sea_4 rfl ?_
                refine Go.getSea dX8_sea_5 flX8_122 ?_
                refine Go.alengthR (f := seaC) (n := 6) dX8_sea_8 rfl ?_
                refine Go.icmp_ge_f (tgt := 25) dX8_sea_9 (by decide) (by decide) ?_
                refine Go.at 12 rfl ?_
                refine Go.iload_n dX8_sea_12 rfl ?_
                refine Go.iconst (v := nI 0) dX8_sea_13 rfl ?_
                refine Go.getSea dX8_sea_14 flX8_122 ?_
                refine Go.iload_n dX8_sea_17 rfl ?_
                refine Go.ialoadR 4 dX8_sea_18 rfl (by decide) (by omega) rfl ?_
                refine Go.callSi [vI v, vI (nI 0), vI (seaC 4)] [] dX8_sea_19 lkX8_72 rfl (Nat.le_of_ble_eq_true rfl) rfl (Nat.le_of_ble_eq_true rfl) (c_within v (nI 0) (seaC 4)) ?_
                refine Go.at 22 rfl ?_
                refine Go.if_neb_f (tgt := 28) dX8_sea_22 (by decide) hv ?_
                refine Go.ldc dX8_sea_25 cnX8_76 ?_
                refine Go.ireturn .int dX8_sea_27 rfl rfl ?_
                exact ⟨rfl, Fr.rf _ _⟩
              · have hs5 : μ5 77 = s := (k5 77 (by decide)).trans hs
                show Go V (d + 3) mX9_sea 0 [some (vR 76), some (vI (nI 4)), some (vI v)] [] μ5 _
                refine Go.iload_n dX9_sea_0 rfl ?_
                refine Go.i2l dX9_sea_1 ?_
                refine Go.lconst (v := (nI 0).toInt64) dX9_sea_2 rfl ?_
                refine Go.ldc2 (v := (nI 5).toInt64) dX9_sea_3 clX9_94 ?_
                refine Go.callSi [vL ((nI 4).toInt64), vL ((nI 0).toInt64), vL ((nI 5).toInt64)] [] dX9_sea_6 lkX9_65 rfl (Nat.le_of_ble_eq_true rfl) rfl (Nat.le_of_ble_eq_true rfl) (m_isIn (nI 4) (nI 0) (nI 5)) ?_
                refine Go.if_eqb_f (tgt := 37) dX9_sea_9 (by decide) (by decide) ?_
                refine Go.at 12 rfl ?_
                refine Go.iload_n dX9_sea_12 rfl ?_
                refine Go.i2l dX9_sea_13 ?_
                refine Go.lconst (v := (nI 0).toInt64) dX9_sea_14 rfl ?_
                refine Go.iload_n dX9_sea_15 rfl ?_
                refine Go.callSi [vI (nI 4)] [vL ((nI 0).toInt64), vL v.toInt64] dX9_sea_16 lkX9_124 rfl (Nat.le_of_ble_eq_true rfl) rfl (Nat.le_of_ble_eq_true rfl) (m_mostOf_4) ?_
                refine Go.i2l dX9_sea_19 ?_
                refine Go.at 20 rfl ?_
                refine Go.callSi [vL v.toInt64, vL ((nI 0).toInt64), vL ((seaC 4).toInt64)] [] dX9_sea_20 lkX9_65 rfl (Nat.le_of_ble_eq_true rfl) rfl (Nat.le_of_ble_eq_true rfl) (m_isIn v (nI 0) (seaC 4)) ?_
                refine Go.if_eqb_t (tgt := 37) dX9_sea_23 (by decide) hv ?_
                refine Go.ldc dX9_sea_37 cnX9_98 ?_
                refine Go.ireturn .int dX9_sea_39 rfl rfl ?_
                exact ⟨rfl, Fr.rf _ _⟩
          · skip
            by_cases hw5 : w = nI 5
            · skip
              subst hw5
              by_cases hv : nI 0 ≤ v ∧ v ≤ seaC 5
              · skip
                refine OpOK.m (x := s (5 + 5)) (upd s (5 + 5) v) hS (hIs.low _ (by decide) (by decide)) (by simp (disch := omega) only [upd_ne, hs]) (fun j hj => by simp (disch := omega) only [upd_ne, hs]) ?_ (fun μ5 k5 => ?_)
                · show Go V (d + 3) mX8_sea 0 [some (vR 0), some (vI (nI 5)), some (vI v), none] [] μ _
                  refine Go.iload_n dX8_sea_0 rfl ?_
                  refine Go.if_lt_f (tgt := 25) dX8_sea_1 (by decide) (by decide) ?_
                  refine Go.iload_n dX8_sea_4 rfl ?_
                  refine Go.getSea dX8_sea_5 flX8_122 ?_
                  refine Go.alengthR (f := seaC) (n := 6) dX8_sea_8 rfl ?_
                  refine Go.icmp_ge_f (tgt := 25) dX8_sea_9 (by decide) (by decide) ?_
                  refine Go.at 12 rfl ?_
                  refine Go.iload_n dX8_sea_12 rfl ?_
                  refine Go.iconst (v := nI 0) dX8_sea_13 rfl ?_
                  refine Go.getSea dX8_sea_14 flX8_122 ?_
                  refine Go.iload_n dX8_sea_17 rfl ?_
                  refine Go.ialoadR 5 dX8_sea_18 rfl (by decide) (by omega) rfl ?_
                  refine Go.callSi [vI v, vI (nI 0), vI (seaC 5)] [] dX8_sea_19 lkX8_72 rfl (Nat.le_of_ble_eq_true rfl) rfl (Nat.le_of_ble_eq_true rfl) (c_within v (nI 0) (seaC 5)) ?_
                  refine Go.at 22 rfl ?_
                  refine Go.if_neb_t (tgt := 28) dX8_sea_22 (by decide) hv ?_
                  refine Go.aload_n dX8_sea_28 rfl ?_
                  refine Go.getR dX8_sea_29 flX8_21 rfl ?_
                  refine Go.getR dX8_sea_32 flX8_125 rfl ?_
                  refine Go.iload_n dX8_sea_35 rfl ?_
                  refine Go.iaload 5 dX8_sea_36 rfl (by omega) rfl ?_
                  refine Go.topE (s 10) (hI.2.1 5 (by decide)) ?_
                  refine Go.at 37 rfl ?_
                  refine Go.istore_n (ls' := [some (vR 0), some (vI (nI 5)), some (vI v), some (vI (s 10))]) dX8_sea_37 (by decide) rfl ?_
                  refine Go.aload_n dX8_sea_38 rfl ?_
                  refine Go.getR dX8_sea_39 flX8_21 rfl ?_
                  refine Go.getR dX8_sea_42 flX8_125 rfl ?_
                  refine Go.iload_n dX8_sea_45 rfl ?_
                  refine Go.iload_n dX8_sea_46 rfl ?_
                  refine Go.at 47 rfl ?_
                  refine Go.iastore 5 dX8_sea_47 rfl (by omega) rfl ?_
                  refine Go.iload_n dX8_sea_48 rfl ?_
                  refine Go.ireturn .int dX8_sea_49 rfl rfl ?_
                  exact ⟨congrArg (fun z => some (vI z)) (by simp (disch := omega) only [ms_self, ms_ne, upd_self, upd_ne, hI.2.1 5 (by decide)]), (hI.water (j := 5) (by decide) _), ((Fr.rf _ _).ms _ _ (by decide))⟩
                · have hs5 : μ5 77 = s := (k5 77 (by decide)).trans hs
                  show Go V (d + 3) mX9_sea 0 [some (vR 76), some (vI (nI 5)), some (vI v)] [] μ5 _
                  refine Go.iload_n dX9_sea_0 rfl ?_
                  refine Go.i2l dX9_sea_1 ?_
                  refine Go.lconst (v := (nI 0).toInt64) dX9_sea_2 rfl ?_
                  refine Go.ldc2 (v := (nI 5).toInt64) dX9_sea_3 clX9_94 ?_
                  refine Go.callSi [vL ((nI 5).toInt64), vL ((nI 0).toInt64), vL ((nI 5).toInt64)] [] dX9_sea_6 lkX9_65 rfl (Nat.le_of_ble_eq_true rfl) rfl (Nat.le_of_ble_eq_true rfl) (m_isIn (nI 5) (nI 0) (nI 5)) ?_
                  refine Go.if_eqb_f (tgt := 37) dX9_sea_9 (by decide) (by decide) ?_
                  refine Go.at 12 rfl ?_
                  refine Go.iload_n dX9_sea_12 rfl ?_
                  refine Go.i2l dX9_sea_13 ?_
                  refine Go.lconst (v := (nI 0).toInt64) dX9_sea_14 rfl ?_
                  refine Go.iload_n dX9_sea_15 rfl ?_
                  refine Go.callSi [vI (nI 5)] [vL ((nI 0).toInt64), vL v.toInt64] dX9_sea_16 lkX9_124 rfl (Nat.le_of_ble_eq_true rfl) rfl (Nat.le_of_ble_eq_true rfl) (m_mostOf_5) ?_
                  refine Go.i2l dX9_sea_19 ?_
                  refine Go.at 20 rfl ?_
                  refine Go.callSi [vL v.toInt64, vL ((nI 0).toInt64), vL ((seaC 5).toInt64)] [] dX9_sea_20 lkX9_65 rfl (Nat.le_of_ble_eq_true rfl) rfl (Nat.le_of_ble_eq_true rfl) (m_isIn v (nI 0) (seaC 5)) ?_
                  refine Go.if_eqb_f (tgt := 37) dX9_sea_23 (by decide) hv ?_
                  refine Go.aload_n dX9_sea_26 rfl ?_
                  refine Go.iconst (v := nI 5) dX9_sea_27 rfl ?_
                  refine Go.iload_n dX9_sea_28 rfl ?_
                  refine Go.iaddN dX9_sea_29 ?_
                  refine Go.at 30 rfl ?_
                  refine Go.iload_n dX9_sea_30 rfl ?_
                  refine Go.callVi 76 [vI (nI (5 + 5)), vI v] [] dX9_sea_31 lkX9_103 (Or.inl ⟨_, _, _, rfl, rfl, rfl⟩) rfl (Nat.le_of_ble_eq_true rfl) rfl (Nat.le_of_ble_eq_true rfl) (m_becomes (5 + 5) (by omega) v) ?_
                  refine Go.goto (tgt := 39) dX9_sea_34 (by decide) ?_
                  refine Go.ireturn .int dX9_sea_39 rfl rfl ?_
                  exact ⟨congrArg (fun z => some (vI z)) (by simp (disch := omega) only [ms_self, ms_ne, upd_self, upd_ne, hs5]), by simp only [ms_self, hs5], ((Fr.rf _ _).ms _ _ (by decide))⟩
              · skip
                refine OpOK.q (x := (-1000000001)) hS ?_ (fun μ5 k5 => ?_)
                · show Go V (d + 3) mX8_sea 0 [some (vR 0), some (vI (nI 5)), some (vI v), none] [] μ _
                  refine Go.iload_n dX8_sea_0 rfl ?_
                  refine Go.if_lt_f (tgt := 25) dX8_sea_1 (by decide) (by decide) ?_
                  refine Go.iload_n dX8_sea_4 rfl ?_
                  refine Go.getSea dX8_sea_5 flX8_122 ?_
                  refine Go.alengthR (f := seaC) (n := 6) dX8_sea_8 rfl ?_
                  refine Go.icmp_ge_f (tgt := 25) dX8_sea_9 (by decide) (by decide) ?_
                  refine Go.at 12 rfl ?_
                  refine Go.iload_n dX8_sea_12 rfl ?_
                  refine Go.iconst (v := nI 0) dX8_sea_13 rfl ?_
                  refine Go.getSea dX8_sea_14 flX8_122 ?_
                  refine Go.iload_n dX8_sea_17 rfl ?_
                  refine Go.ialoadR 5 dX8_sea_18 rfl (by decide) (by omega) rfl ?_
                  refine Go.callSi [vI v, vI (nI 0), vI (seaC 5)] [] dX8_sea_19 lkX8_72 rfl (Nat.le_of_ble_eq_true rfl) rfl (Nat.le_of_ble_eq_true rfl) (c_within v (nI 0) (seaC 5)) ?_
                  refine Go.at 22 rfl ?_
                  refine Go.if_neb_f (tgt := 28) dX8_sea_22 (by decide) hv ?_
                  refine Go.ldc dX8_sea_25 cnX8_76 ?_
                  refine Go.ireturn .int dX8_sea_27 rfl rfl ?_
                  exact ⟨rfl, Fr.rf _ _⟩
                · have hs5 : μ5 77 = s := (k5 77 (by decide)).trans hs
                  show Go V (d + 3) mX9_sea 0 [some (vR 76), some (vI (nI 5)), some (vI v)] [] μ5 _
                  refine Go.iload_n dX9_sea_0 rfl ?_
                  refine Go.i2l dX9_sea_1 ?_
                  refine Go.lconst (v := (nI 0).toInt64) dX9_sea_2 rfl ?_
                  refine Go.ldc2 (v := (nI 5).toInt64) dX9_sea_3 clX9_94 ?_
                  refine Go.callSi [vL ((nI 5).toInt64), vL ((nI 0).toInt64), vL ((nI 5).toInt64)] [] dX9_sea_6 lkX9_65 rfl (Nat.le_of_ble_eq_true rfl) rfl (Nat.le_of_ble_eq_true rfl) (m_isIn (nI 5) (nI 0) (nI 5)) ?_
                  refine Go.if_eqb_f (tgt := 37) dX9_sea_9 (by decide) (by decide) ?_
                  refine Go.at 12 rfl ?_
                  refine Go.iload_n dX9_sea_12 rfl ?_
                  refine Go.i2l dX9_sea_13 ?_
                  refine Go.lconst (v := (nI 0).toInt64) dX9_sea_14 rfl ?_
                  refine Go.iload_n dX9_sea_15 rfl ?_
                  refine Go.callSi [vI (nI 5)] [vL ((nI 0).toInt64), vL v.toInt64] dX9_sea_16 lkX9_124 rfl (Nat.le_of_ble_eq_true rfl) rfl (Nat.le_of_ble_eq_true rfl) (m_mostOf_5) ?_
                  refine Go.i2l dX9_sea_19 ?_
                  refine Go.at 20 rfl ?_
                  refine Go.callSi [vL v.toInt64, vL ((nI 0).toInt64), vL ((seaC 5).toInt64)] [] dX9_sea_20 lkX9_65 rfl (Nat.le_of_ble_eq_true rfl) rfl (Nat.le_of_ble_eq_true rfl) (m_isIn v (nI 0) (seaC 5)) ?_
                  refine Go.if_eqb_t (tgt := 37) dX9_sea_23 (by decide) hv ?_
                  refine Go.ldc dX9_sea_37 cnX9_98 ?_
                  refine Go.ireturn .int dX9_sea_39 rfl rfl ?_
                  exact ⟨rfl, Fr.rf _ _⟩
            · skip
              have hn : ¬ (nI 0 ≤ w ∧ w ≤ nI 5) := (by intro z; obtain ⟨j, hj, rfl⟩ := in_nI (by decide) z; have : j = 0 ∨ j = 1 ∨ j = 2 ∨ j = 3 ∨ j = 4 ∨ j = 5 := (by omega); rcases this with rfl | rfl | rfl | rfl | rfl | rfl <;> contradiction)
              refine OpOK.q (x := (-1000000001)) hS ?_ (fun μ5 k5 => ?_)
              · show Go V (d + 3) mX8_sea 0 [some (vR 0), some (vI w), some (vI v), none] [] μ _
                refine Go.iload_n dX8_sea_0 rfl ?_
                refine Go.if_lt (tgt := 25) dX8_sea_1 (by decide) (fun h1 => ?_) (fun h1 => ?_)
                · -- 1 taken
                  refine Go.ldc dX8_sea_25 cnX8_76 ?_
                  refine Go.ireturn .int dX8_sea_27 rfl rfl ?_
                  exact ⟨rfl, Fr.rf _ _⟩
                · -- 1 not
                  refine Go.iload_n dX8_sea_4 rfl ?_
                  refine Go.getSea dX8_sea_5 flX8_122 ?_
                  refine Go.alengthR (f := seaC) (n := 6) dX8_sea_8 rfl ?_
                  refine Go.icmp_ge_t (tgt := 25) dX8_sea_9 (by decide) (by simp only [sI_le, sI_lt, nT, Int32.toInt_zero] at *; omega) ?_
                  refine Go.ldc dX8_sea_25 cnX8_76 ?_
                  refine Go.ireturn .int dX8_sea_27 rfl rfl ?_
                  exact ⟨rfl, Fr.rf _ _⟩
              · have hs5 : μ5 77 = s := (k5 77 (by decide)).trans hs
                show Go V (d + 3) mX9_sea 0 [some (vR 76), some (vI w), some (vI v)] [] μ5 _
                refine Go.iload_n dX9_sea_0 rfl ?_
                refine Go.i2l dX9_sea_1 ?_
                refine Go.lconst (v := (nI 0).toInt64) dX9_sea_2 rfl ?_
                refine Go.ldc2 (v := (nI 5).toInt64) dX9_sea_3 clX9_94 ?_
                refine Go.callSi [vL w.toInt64, vL ((nI 0).toInt64), vL ((nI 5).toInt64)] [] dX9_sea_6 lkX9_65 rfl (Nat.le_of_ble_eq_true rfl) rfl (Nat.le_of_ble_eq_true rfl) (m_isIn w (nI 0) (nI 5)) ?_
                refine Go.if_eqb_t (tgt := 37) dX9_sea_9 (by decide) hn ?_
                refine Go.at 37 rfl ?_
                refine Go.ldc dX9_sea_37 cnX9_98 ?_
                refine Go.ireturn .int dX9_sea_39 rfl rfl ?_
                exact ⟨rfl, Fr.rf _ _⟩
theorem c_addHouse {V : VV} {d : Nat} {μ : Memo} {B N : Nat} (hB : isB B) (hN : μ B 7 = nI N) (h8 : N < 8) (x : Int32) : Ret V (d) mX1_addHouse [vR B, vI x] μ (some (vI (nI N))) (ms (ms (ms μ (B + 6) N x) (B + 7) N (-1000000005)) B 7 (nI (N + 1))) := by
  show Go V (d) mX1_addHouse 0 [some (vR B), some (vI x), none] [] μ _
  refine Go.aload_n dX1_addHouse_0 rfl ?_
  refine Go.getI dX1_addHouse_1 flX1_54 (fBi hB 7 (by decide) (by decide)) ?_
  refine Go.topE (y := nI N) hN ?_
  refine Go.istore_n (ls' := [some (vR B), some (vI x), some (vI (nI N))]) dX1_addHouse_4 (by decide) rfl ?_
  refine Go.aload_n dX1_addHouse_5 rfl ?_
  refine Go.getR dX1_addHouse_6 flX1_27 (fBr hB 5 (by decide)) ?_
  refine Go.iload_n dX1_addHouse_9 rfl ?_
  refine Go.at 10 rfl ?_
  refine Go.iload_n dX1_addHouse_10 rfl ?_
  refine Go.iastore N dX1_addHouse_11 (alB6 hB) (by omega) rfl ?_
  refine Go.aload_n dX1_addHouse_12 rfl ?_
  refine Go.getR dX1_addHouse_13 flX1_30 (fBr hB 6 (by decide)) ?_
  refine Go.iload_n dX1_addHouse_16 rfl ?_
  refine Go.ldc dX1_addHouse_17 cnX1_41 ?_
  refine Go.at 19 rfl ?_
  refine Go.iastore N dX1_addHouse_19 (alB7 hB) (by omega) rfl ?_
  refine Go.aload_n dX1_addHouse_20 rfl ?_
  refine Go.iload_n dX1_addHouse_21 rfl ?_
  refine Go.iconst (v := nI 1) dX1_addHouse_22 rfl ?_
  refine Go.iaddN dX1_addHouse_23 ?_
  refine Go.put dX1_addHouse_24 flX1_54 (fBi hB 7 (by decide) (by decide)) rfl rfl rfl ?_
  refine Go.at 27 rfl ?_
  refine Go.iload_n dX1_addHouse_27 rfl ?_
  refine Go.ireturn .int dX1_addHouse_28 rfl rfl ?_
  exact ⟨rfl, rfl⟩
theorem op_house {V : VV} {d : Nat} {μ : Memo} (hS : Sim μ) (v : Int32) : OpOK V (d + 3) mX8_house mX9_house [vI v] μ := by
  obtain ⟨⟨hT, hCo, hKd, hO, hH⟩, hI, hX, hIm, hSh, hSl, hTp, hWt⟩ := id hS
  have hIs : IsOK (μ 77) := hS.1.is
  generalize hs : μ 77 = s at hT hCo hKd hO hH hI hX hIs
  have hH8 : nH s ≤ 8 := hH.1
  by_cases h1 : nI 1 ≤ v ∧ v ≤ nI 99
  · skip
    by_cases h8 : nH s < 8
    · skip
      refine OpOK.m (x := nI (nH s)) (upd (upd (upd s (131 + 2 * nH s) v) (131 + 2 * nH s + 1) (-1)) 0 (nI (nH s + 1))) hS (hIs.house h8 _) (by simp (disch := omega) only [upd_ne, hs]) (fun j hj => by simp (disch := omega) only [upd_ne, hs]) ?_ (fun μ5 k5 => ?_)
      · show Go V (d + 3) mX8_house 0 [some (vR 0), some (vI v)] [] μ _
        refine Go.iload_n dX8_house_0 rfl ?_
        refine Go.iconst (v := nI 1) dX8_house_1 rfl ?_
        refine Go.bipush (v := nI 99) dX8_house_2 rfl ?_
        refine Go.callSi [vI v, vI (nI 1), vI (nI 99)] [] dX8_house_4 lkX8_72 rfl (Nat.le_of_ble_eq_true rfl) rfl (Nat.le_of_ble_eq_true rfl) (c_within v (nI 1) (nI 99)) ?_
        refine Go.if_neb_t (tgt := 13) dX8_house_7 (by decide) h1 ?_
        refine Go.aload_n dX8_house_13 rfl ?_
        refine Go.at 14 rfl ?_
        refine Go.getR dX8_house_14 flX8_21 rfl ?_
        refine Go.getI dX8_house_17 flX8_166 rfl ?_
        refine Go.topE (y := nI (nH s)) (hI.2.2.2.1.trans hH.2.1) ?_
        refine Go.bipush (v := nI 8) dX8_house_20 rfl ?_
        refine Go.icmp_ge_f (tgt := 36) dX8_house_22 (by decide) (nI_ge h8 (by decide)) ?_
        refine Go.aload_n dX8_house_25 rfl ?_
        refine Go.getR dX8_house_26 flX8_21 rfl ?_
        refine Go.at 29 rfl ?_
        refine Go.iload_n dX8_house_29 rfl ?_
        refine Go.callVi 7 [vI v] [] dX8_house_30 lkX8_169 (Or.inl ⟨_, _, _, rfl, rfl, rfl⟩) rfl (Nat.le_of_ble_eq_true rfl) rfl (Nat.le_of_ble_eq_true rfl) (c_addHouse isB7 (hI.2.2.2.1.trans hH.2.1) h8 v) ?_
        refine Go.goto (tgt := 38) dX8_house_33 (by decide) ?_
        refine Go.ireturn .int dX8_house_38 rfl rfl ?_
        exact ⟨rfl, (hI.house h8 _), ((((Fr.rf _ _).ms _ _ (by decide)).ms _ _ (by decide)).ms _ _ (by decide))⟩
      · have hs5 : μ5 77 = s := (k5 77 (by decide)).trans hs
        show Go V (d + 3) mX9_house 0 [some (vR 76), some (vI v), none] [] μ5 _
        refine Go.iload_n dX9_house_0 rfl ?_
        refine Go.i2l dX9_house_1 ?_
        refine Go.lconst (v := (nI 1).toInt64) dX9_house_2 rfl ?_
        refine Go.ldc2 (v := (nI 99).toInt64) dX9_house_3 clX9_120 ?_
        refine Go.callSi [vL v.toInt64, vL ((nI 1).toInt64), vL ((nI 99).toInt64)] [] dX9_house_6 lkX9_65 rfl (Nat.le_of_ble_eq_true rfl) rfl (Nat.le_of_ble_eq_true rfl) (m_isIn v (nI 1) (nI 99)) ?_
        refine Go.if_neb_t (tgt := 15) dX9_house_9 (by decide) h1 ?_
        refine Go.at 15 rfl ?_
        refine Go.aload_n dX9_house_15 rfl ?_
        refine Go.getR dX9_house_16 flX9_7 rfl ?_
        refine Go.iconst (v := nI 0) dX9_house_19 rfl ?_
        refine Go.iaload 0 dX9_house_20 rfl (by omega) rfl ?_
        refine Go.topE (y := nI (nH s)) ((congrFun hs5 0).trans hH.2.1) ?_
        refine Go.bipush (v := nI 8) dX9_house_21 rfl ?_
        refine Go.icmp_ne_t (tgt := 29) dX9_house_23 (by decide) (by rw [sI_eq, nT, nT]; omega) ?_
        refine Go.at 29 rfl ?_
        refine Go.sipush (v := nI 131) dX9_house_29 rfl ?_
        refine Go.iconst (v := nI 2) dX9_house_32 rfl ?_
        refine Go.aload_n dX9_house_33 rfl ?_
        refine Go.getR dX9_house_34 flX9_7 rfl ?_
        refine Go.iconst (v := nI 0) dX9_house_37 rfl ?_
        refine Go.iaload 0 dX9_house_38 rfl (by omega) rfl ?_
        refine Go.topE (y := nI (nH s)) ((congrFun hs5 0).trans hH.2.1) ?_
        refine Go.at 39 rfl ?_
        refine Go.imulN dX9_house_39 ?_
        refine Go.iaddN dX9_house_40 ?_
        refine Go.istore_n (ls' := [some (vR 76), some (vI v), some (vI (nI (131 + (2 * (nH s)))))]) dX9_house_41 (by decide) rfl ?_
        refine Go.aload_n dX9_house_42 rfl ?_
        refine Go.getR dX9_house_43 flX9_7 rfl ?_
        refine Go.iload_n dX9_house_46 rfl ?_
        refine Go.at 47 rfl ?_
        refine Go.iload_n dX9_house_47 rfl ?_
        refine Go.iastore (131 + (2 * (nH s))) dX9_house_48 rfl (by omega) rfl ?_
        refine Go.aload_n dX9_house_49 rfl ?_
        refine Go.getR dX9_house_50 flX9_7 rfl ?_
        refine Go.iload_n dX9_house_53 rfl ?_
        refine Go.iconst (v := nI 1) dX9_house_54 rfl ?_
        refine Go.at 55 rfl ?_
        refine Go.iaddN dX9_house_55 ?_
        refine Go.iconst (v := (-1)) dX9_house_56 rfl ?_
        refine Go.iastore ((131 + (2 * (nH s))) + 1) dX9_house_57 rfl (by omega) rfl ?_
        refine Go.aload_n dX9_house_58 rfl ?_
        refine Go.getR dX9_house_59 flX9_7 rfl ?_
        refine Go.iconst (v := nI 0) dX9_house_62 rfl ?_
        refine Go.at 63 rfl ?_
        refine Go.dup2 dX9_house_63 ?_
        refine Go.iaload 0 dX9_house_64 rfl (by omega) rfl ?_
        refine Go.topE (y := nI (nH s)) (by simp (disch := omega) only [ms_self, upd_ne, hs5, hH.2.1]) ?_
        refine Go.iconst (v := nI 1) dX9_house_65 rfl ?_
        refine Go.iaddN dX9_house_66 ?_
        refine Go.iastore 0 dX9_house_67 rfl (by omega) rfl ?_
        refine Go.aload_n dX9_house_68 rfl ?_
        refine Go.at 69 rfl ?_
        refine Go.getR dX9_house_69 flX9_7 rfl ?_
        refine Go.iconst (v := nI 0) dX9_house_72 rfl ?_
        refine Go.iaload 0 dX9_house_73 rfl (by omega) rfl ?_
        refine Go.topE (y := nI (nH s + 1)) (by simp only [ms_self, upd_self]) ?_
        refine Go.iconst (v := nI 1) dX9_house_74 rfl ?_
        refine Go.isubN dX9_house_75 (by omega) ?_
        refine Go.ireturn .int dX9_house_76 rfl rfl ?_
        exact ⟨rfl, by simp only [ms_self, hs5], ((((Fr.rf _ _).ms _ _ (by decide)).ms _ _ (by decide)).ms _ _ (by decide))⟩
    · skip
      have e8 : nH s = 8 := by omega
      refine OpOK.q (x := (-1000000003)) hS ?_ (fun μ5 k5 => ?_)
      · show Go V (d + 3) mX8_house 0 [some (vR 0), some (vI v)] [] μ _
        refine Go.iload_n dX8_house_0 rfl ?_
        refine Go.iconst (v := nI 1) dX8_house_1 rfl ?_
        refine Go.bipush (v := nI 99) dX8_house_2 rfl ?_
        refine Go.callSi [vI v, vI (nI 1), vI (nI 99)] [] dX8_house_4 lkX8_72 rfl (Nat.le_of_ble_eq_true rfl) rfl (Nat.le_of_ble_eq_true rfl) (c_within v (nI 1) (nI 99)) ?_
        refine Go.if_neb_t (tgt := 13) dX8_house_7 (by decide) h1 ?_
        refine Go.aload_n dX8_house_13 rfl ?_
        refine Go.at 14 rfl ?_
        refine Go.getR dX8_house_14 flX8_21 rfl ?_
        refine Go.getI dX8_house_17 flX8_166 rfl ?_
        refine Go.topE (y := nI 8) (by rw [hI.2.2.2.1, hH.2.1, e8]) ?_
        refine Go.bipush (v := nI 8) dX8_house_20 rfl ?_
        refine Go.icmp_ge_t (tgt := 36) dX8_house_22 (by decide) (by decide) ?_
        refine Go.ldc dX8_house_36 cnX8_172 ?_
        refine Go.ireturn .int dX8_house_38 rfl rfl ?_
        exact ⟨rfl, Fr.rf _ _⟩
      · have hs5 : μ5 77 = s := (k5 77 (by decide)).trans hs
        show Go V (d + 3) mX9_house 0 [some (vR 76), some (vI v), none] [] μ5 _
        refine Go.iload_n dX9_house_0 rfl ?_
        refine Go.i2l dX9_house_1 ?_
        refine Go.lconst (v := (nI 1).toInt64) dX9_house_2 rfl ?_
        refine Go.ldc2 (v := (nI 99).toInt64) dX9_house_3 clX9_120 ?_
        refine Go.callSi [vL v.toInt64, vL ((nI 1).toInt64), vL ((nI 99).toInt64)] [] dX9_house_6 lkX9_65 rfl (Nat.le_of_ble_eq_true rfl) rfl (Nat.le_of_ble_eq_true rfl) (m_isIn v (nI 1) (nI 99)) ?_
        refine Go.if_neb_t (tgt := 15) dX9_house_9 (by decide) h1 ?_
        refine Go.at 15 rfl ?_
        refine Go.aload_n dX9_house_15 rfl ?_
        refine Go.getR dX9_house_16 flX9_7 rfl ?_
        refine Go.iconst (v := nI 0) dX9_house_19 rfl ?_
        refine Go.iaload 0 dX9_house_20 rfl (by omega) rfl ?_
        refine Go.topE (y := nI 8) (by rw [hs5, hH.2.1, e8]) ?_
        refine Go.bipush (v := nI 8) dX9_house_21 rfl ?_
        refine Go.icmp_ne_f (tgt := 29) dX9_house_23 (by decide) (by decide) ?_
        refine Go.at 26 rfl ?_
        refine Go.ldc dX9_house_26 cnX9_164 ?_
        refine Go.ireturn .int dX9_house_28 rfl rfl ?_
        exact ⟨rfl, Fr.rf _ _⟩
  · skip
    refine OpOK.q (x := (-1000000001)) hS ?_ (fun μ5 k5 => ?_)
    · show Go V (d + 3) mX8_house 0 [some (vR 0), some (vI v)] [] μ _
      refine Go.iload_n dX8_house_0 rfl ?_
      refine Go.iconst (v := nI 1) dX8_house_1 rfl ?_
      refine Go.bipush (v := nI 99) dX8_house_2 rfl ?_
      refine Go.callSi [vI v, vI (nI 1), vI (nI 99)] [] dX8_house_4 lkX8_72 rfl (Nat.le_of_ble_eq_true rfl) rfl (Nat.le_of_ble_eq_true rfl) (c_within v (nI 1) (nI 99)) ?_
      refine Go.if_neb_f (tgt := 13) dX8_house_7 (by decide) h1 ?_
      refine Go.ldc dX8_house_10 cnX8_76 ?_
      refine Go.at 12 rfl ?_
      refine Go.ireturn .int dX8_house_12 rfl rfl ?_
      exact ⟨rfl, Fr.rf _ _⟩
    · have hs5 : μ5 77 = s := (k5 77 (by decide)).trans hs
      show Go V (d + 3) mX9_house 0 [some (vR 76), some (vI v), none] [] μ5 _
      refine Go.iload_n dX9_house_0 rfl ?_
      refine Go.i2l dX9_house_1 ?_
      refine Go.lconst (v := (nI 1).toInt64) dX9_house_2 rfl ?_
      refine Go.ldc2 (v := (nI 99).toInt64) dX9_house_3 clX9_120 ?_
      refine Go.callSi [vL v.toInt64, vL ((nI 1).toInt64), vL ((nI 99).toInt64)] [] dX9_house_6 lkX9_65 rfl (Nat.le_of_ble_eq_true rfl) rfl (Nat.le_of_ble_eq_true rfl) (m_isIn v (nI 1) (nI 99)) ?_
      refine Go.if_neb_f (tgt := 15) dX9_house_9 (by decide) h1 ?_
      refine Go.at 12 rfl ?_
      refine Go.ldc dX9_house_12 cnX9_98 ?_
      refine Go.ireturn .int dX9_house_14 rfl rfl ?_
      exact ⟨rfl, Fr.rf _ _⟩
