theorem c_checkIdx {V : VV} {d : Nat} {μ : Memo} (i n : Nat) (h1 : i < n) (h2 : n < 1000) : Ret V (d) mJ3_checkIndex_8e157 [vI (nI i), vI (nI n), vQ] μ (some (vI (nI i))) μ := by
  show Go V (d) mJ3_checkIndex_8e157 0 [some (vI (nI i)), some (vI (nI n)), some (vQ)] [] μ _
  refine Go.iload_n dJ3_checkIndex_8e157_0 rfl ?_
  refine Go.if_lt_f (tgt := 9) dJ3_checkIndex_8e157_1 (by decide) (nI_pos (by omega)) ?_
  refine Go.iload_n dJ3_checkIndex_8e157_4 rfl ?_
  refine Go.iload_n dJ3_checkIndex_8e157_5 rfl ?_
  refine Go.icmp_lt_t (tgt := 16) dJ3_checkIndex_8e157_6 (by decide) (by rw [sI_lt, nT, nT]; omega) ?_
  refine Go.iload_n dJ3_checkIndex_8e157_16 rfl ?_
  refine Go.at 17 rfl ?_
  refine Go.ireturn .int dJ3_checkIndex_8e157_17 rfl rfl ?_
  exact ⟨rfl, rfl⟩
theorem c_checkIndex {V : VV} {d : Nat} {μ : Memo} (i n : Nat) (h1 : i < n) (h2 : n < 1000) : Ret V (d + 1) mJ0_checkIndex_df160 [vI (nI i), vI (nI n)] μ none μ := by
  show Go V (d + 1) mJ0_checkIndex_df160 0 [some (vI (nI i)), some (vI (nI n))] [] μ _
  refine Go.iload_n dJ0_checkIndex_df160_0 rfl ?_
  refine Go.iload_n dJ0_checkIndex_df160_1 rfl ?_
  refine Go.getFormatter dJ0_checkIndex_df160_2 flJ0_1053 ?_
  refine Go.callSi [vI (nI i), vI (nI n), vQ] [] dJ0_checkIndex_df160_5 lkJ0_1059 rfl (Nat.le_of_ble_eq_true rfl) rfl (Nat.le_of_ble_eq_true rfl) (c_checkIdx i n h1 h2) ?_
  refine Go.pop dJ0_checkIndex_df160_8 ?_
  refine Go.vreturn dJ0_checkIndex_df160_9 rfl ?_
  exact ⟨rfl, rfl⟩
theorem c_coder_0 {V : VV} {d : Nat} {μ : Memo} : Ret V (d) mJ0_coder_7d493 [vR 201] μ (some (vI 0)) μ := by
  show Go V (d) mJ0_coder_7d493 0 [some (vR 201)] [] μ _
  refine Go.getCompact dJ0_coder_7d493_0 flJ0_38 ?_
  refine Go.if_eq_f (tgt := 13) dJ0_coder_7d493_3 (by decide) (by decide) ?_
  refine Go.aload_n dJ0_coder_7d493_6 rfl ?_
  refine Go.strCoder 0 dJ0_coder_7d493_7 (by decide) flJ0_15 ?_
  refine Go.goto (tgt := 14) dJ0_coder_7d493_10 (by decide) ?_
  refine Go.ireturn .byte dJ0_coder_7d493_14 rfl rfl ?_
  exact ⟨rfl, rfl⟩
theorem c_isLatin1_0 {V : VV} {d : Nat} {μ : Memo} : Ret V (d) mJ0_isLatin1_aae02 [vR 201] μ (some (vI (nI 1))) μ := by
  show Go V (d) mJ0_isLatin1_aae02 0 [some (vR 201)] [] μ _
  refine Go.getCompact dJ0_isLatin1_aae02_0 flJ0_38 ?_
  refine Go.if_eq_f (tgt := 17) dJ0_isLatin1_aae02_3 (by decide) (by decide) ?_
  refine Go.aload_n dJ0_isLatin1_aae02_6 rfl ?_
  refine Go.strCoder 0 dJ0_isLatin1_aae02_7 (by decide) flJ0_15 ?_
  refine Go.if_ne_f (tgt := 17) dJ0_isLatin1_aae02_10 (by decide) (by decide) ?_
  refine Go.iconst (v := nI 1) dJ0_isLatin1_aae02_13 rfl ?_
  refine Go.at 14 rfl ?_
  refine Go.goto (tgt := 18) dJ0_isLatin1_aae02_14 (by decide) ?_
  refine Go.ireturn .boolean dJ0_isLatin1_aae02_18 rfl rfl ?_
  exact ⟨rfl, rfl⟩
theorem c_length_0 {V : VV} {d : Nat} {μ : Memo} : Ret V (d + 1) mJ0_length_8abf5 [vR 201] μ (some (vI (nI 4))) μ := by
  show Go V (d + 1) mJ0_length_8abf5 0 [some (vR 201)] [] μ _
  refine Go.aload_n dJ0_length_8abf5_0 rfl ?_
  refine Go.strValue 0 dJ0_length_8abf5_1 (by decide) flJ0_9 ?_
  refine Go.blength 0 dJ0_length_8abf5_4 (by decide) ?_
  refine Go.aload_n dJ0_length_8abf5_5 rfl ?_
  refine Go.callVi 201 [] [vI (nI 4)] dJ0_length_8abf5_6 lkJ0_335 (Or.inr ⟨0, by decide, rfl, rfl⟩) rfl (Nat.le_of_ble_eq_true rfl) rfl (Nat.le_of_ble_eq_true rfl) c_coder_0 ?_
  refine Go.ishr dJ0_length_8abf5_9 ?_
  refine Go.topE (y := nI 4) (by decide) ?_
  refine Go.at 10 rfl ?_
  refine Go.ireturn .int dJ0_length_8abf5_10 rfl rfl ?_
  exact ⟨rfl, rfl⟩
theorem c_charL_0_0 {V : VV} {d : Nat} {μ : Memo} : Ret V (d + 2) mJ1_charAt_3b067 [vR 211, vI (nI 0)] μ (some (vI (nI 116))) μ := by
  show Go V (d + 2) mJ1_charAt_3b067 0 [some (vR 211), some (vI (nI 0))] [] μ _
  refine Go.iload_n dJ1_charAt_3b067_0 rfl ?_
  refine Go.aload_n dJ1_charAt_3b067_1 rfl ?_
  refine Go.blength 0 dJ1_charAt_3b067_2 (by decide) ?_
  refine Go.callSv [vI (nI 0), vI (nI 4)] [] dJ1_charAt_3b067_3 lkJ1_9 rfl (Nat.le_of_ble_eq_true rfl) rfl (Nat.le_of_ble_eq_true rfl) (c_checkIndex 0 4 (by decide) (by decide)) ?_
  refine Go.aload_n dJ1_charAt_3b067_6 rfl ?_
  refine Go.iload_n dJ1_charAt_3b067_7 rfl ?_
  refine Go.at 8 rfl ?_
  refine Go.baload 0 0 dJ1_charAt_3b067_8 (by decide) (by decide) rfl ?_
  refine Go.sipush (v := nI 255) dJ1_charAt_3b067_9 rfl ?_
  refine Go.iand dJ1_charAt_3b067_12 ?_
  refine Go.i2c dJ1_charAt_3b067_13 ?_
  refine Go.topE (y := nI 116) (by decide) ?_
  refine Go.ireturn .char dJ1_charAt_3b067_14 rfl rfl ?_
  exact ⟨rfl, rfl⟩
theorem c_charAt_0_0 {V : VV} {d : Nat} {μ : Memo} : Ret V (d + 3) mJ0_charAt_5068e [vR 201, vI (nI 0)] μ (some (vI (nI 116))) μ := by
  show Go V (d + 3) mJ0_charAt_5068e 0 [some (vR 201), some (vI (nI 0))] [] μ _
  refine Go.aload_n dJ0_charAt_5068e_0 rfl ?_
  refine Go.callVi 201 [] [] dJ0_charAt_5068e_1 lkJ0_492 (Or.inr ⟨0, by decide, rfl, rfl⟩) rfl (Nat.le_of_ble_eq_true rfl) rfl (Nat.le_of_ble_eq_true rfl) c_isLatin1_0 ?_
  refine Go.if_eq_f (tgt := 16) dJ0_charAt_5068e_4 (by decide) (by decide) ?_
  refine Go.aload_n dJ0_charAt_5068e_7 rfl ?_
  refine Go.strValue 0 dJ0_charAt_5068e_8 (by decide) flJ0_9 ?_
  refine Go.iload_n dJ0_charAt_5068e_11 rfl ?_
  refine Go.at 12 rfl ?_
  refine Go.callSi [vR 211, vI (nI 0)] [] dJ0_charAt_5068e_12 lkJ0_495 rfl (Nat.le_of_ble_eq_true rfl) rfl (Nat.le_of_ble_eq_true rfl) c_charL_0_0 ?_
  refine Go.ireturn .char dJ0_charAt_5068e_15 rfl rfl ?_
  exact ⟨rfl, rfl⟩
theorem c_charL_0_1 {V : VV} {d : Nat} {μ : Memo} : Ret V (d + 2) mJ1_charAt_3b067 [vR 211, vI (nI 1)] μ (some (vI (nI 105))) μ := by
  show Go V (d + 2) mJ1_charAt_3b067 0 [some (vR 211), some (vI (nI 1))] [] μ _
  refine Go.iload_n dJ1_charAt_3b067_0 rfl ?_
  refine Go.aload_n dJ1_charAt_3b067_1 rfl ?_
  refine Go.blength 0 dJ1_charAt_3b067_2 (by decide) ?_
  refine Go.callSv [vI (nI 1), vI (nI 4)] [] dJ1_charAt_3b067_3 lkJ1_9 rfl (Nat.le_of_ble_eq_true rfl) rfl (Nat.le_of_ble_eq_true rfl) (c_checkIndex 1 4 (by decide) (by decide)) ?_
  refine Go.aload_n dJ1_charAt_3b067_6 rfl ?_
  refine Go.iload_n dJ1_charAt_3b067_7 rfl ?_
  refine Go.at 8 rfl ?_
  refine Go.baload 0 1 dJ1_charAt_3b067_8 (by decide) (by decide) rfl ?_
  refine Go.sipush (v := nI 255) dJ1_charAt_3b067_9 rfl ?_
  refine Go.iand dJ1_charAt_3b067_12 ?_
  refine Go.i2c dJ1_charAt_3b067_13 ?_
  refine Go.topE (y := nI 105) (by decide) ?_
  refine Go.ireturn .char dJ1_charAt_3b067_14 rfl rfl ?_
  exact ⟨rfl, rfl⟩
theorem c_charAt_0_1 {V : VV} {d : Nat} {μ : Memo} : Ret V (d + 3) mJ0_charAt_5068e [vR 201, vI (nI 1)] μ (some (vI (nI 105))) μ := by
  show Go V (d + 3) mJ0_charAt_5068e 0 [some (vR 201), some (vI (nI 1))] [] μ _
  refine Go.aload_n dJ0_charAt_5068e_0 rfl ?_
  refine Go.callVi 201 [] [] dJ0_charAt_5068e_1 lkJ0_492 (Or.inr ⟨0, by decide, rfl, rfl⟩) rfl (Nat.le_of_ble_eq_true rfl) rfl (Nat.le_of_ble_eq_true rfl) c_isLatin1_0 ?_
  refine Go.if_eq_f (tgt := 16) dJ0_charAt_5068e_4 (by decide) (by decide) ?_
  refine Go.aload_n dJ0_charAt_5068e_7 rfl ?_
  refine Go.strValue 0 dJ0_charAt_5068e_8 (by decide) flJ0_9 ?_
  refine Go.iload_n dJ0_charAt_5068e_11 rfl ?_
  refine Go.at 12 rfl ?_
  refine Go.callSi [vR 211, vI (nI 1)] [] dJ0_charAt_5068e_12 lkJ0_495 rfl (Nat.le_of_ble_eq_true rfl) rfl (Nat.le_of_ble_eq_true rfl) c_charL_0_1 ?_
  refine Go.ireturn .char dJ0_charAt_5068e_15 rfl rfl ?_
  exact ⟨rfl, rfl⟩
theorem c_charL_0_2 {V : VV} {d : Nat} {μ : Memo} : Ret V (d + 2) mJ1_charAt_3b067 [vR 211, vI (nI 2)] μ (some (vI (nI 100))) μ := by
  show Go V (d + 2) mJ1_charAt_3b067 0 [some (vR 211), some (vI (nI 2))] [] μ _
  refine Go.iload_n dJ1_charAt_3b067_0 rfl ?_
  refine Go.aload_n dJ1_charAt_3b067_1 rfl ?_
  refine Go.blength 0 dJ1_charAt_3b067_2 (by decide) ?_
  refine Go.callSv [vI (nI 2), vI (nI 4)] [] dJ1_charAt_3b067_3 lkJ1_9 rfl (Nat.le_of_ble_eq_true rfl) rfl (Nat.le_of_ble_eq_true rfl) (c_checkIndex 2 4 (by decide) (by decide)) ?_
  refine Go.aload_n dJ1_charAt_3b067_6 rfl ?_
  refine Go.iload_n dJ1_charAt_3b067_7 rfl ?_
  refine Go.at 8 rfl ?_
  refine Go.baload 0 2 dJ1_charAt_3b067_8 (by decide) (by decide) rfl ?_
  refine Go.sipush (v := nI 255) dJ1_charAt_3b067_9 rfl ?_
  refine Go.iand dJ1_charAt_3b067_12 ?_
  refine Go.i2c dJ1_charAt_3b067_13 ?_
  refine Go.topE (y := nI 100) (by decide) ?_
  refine Go.ireturn .char dJ1_charAt_3b067_14 rfl rfl ?_
  exact ⟨rfl, rfl⟩
theorem c_charAt_0_2 {V : VV} {d : Nat} {μ : Memo} : Ret V (d + 3) mJ0_charAt_5068e [vR 201, vI (nI 2)] μ (some (vI (nI 100))) μ := by
  show Go V (d + 3) mJ0_charAt_5068e 0 [some (vR 201), some (vI (nI 2))] [] μ _
  refine Go.aload_n dJ0_charAt_5068e_0 rfl ?_
  refine Go.callVi 201 [] [] dJ0_charAt_5068e_1 lkJ0_492 (Or.inr ⟨0, by decide, rfl, rfl⟩) rfl (Nat.le_of_ble_eq_true rfl) rfl (Nat.le_of_ble_eq_true rfl) c_isLatin1_0 ?_
  refine Go.if_eq_f (tgt := 16) dJ0_charAt_5068e_4 (by decide) (by decide) ?_
  refine Go.aload_n dJ0_charAt_5068e_7 rfl ?_
  refine Go.strValue 0 dJ0_charAt_5068e_8 (by decide) flJ0_9 ?_
  refine Go.iload_n dJ0_charAt_5068e_11 rfl ?_
  refine Go.at 12 rfl ?_
  refine Go.callSi [vR 211, vI (nI 2)] [] dJ0_charAt_5068e_12 lkJ0_495 rfl (Nat.le_of_ble_eq_true rfl) rfl (Nat.le_of_ble_eq_true rfl) c_charL_0_2 ?_
  refine Go.ireturn .char dJ0_charAt_5068e_15 rfl rfl ?_
  exact ⟨rfl, rfl⟩
theorem c_charL_0_3 {V : VV} {d : Nat} {μ : Memo} : Ret V (d + 2) mJ1_charAt_3b067 [vR 211, vI (nI 3)] μ (some (vI (nI 101))) μ := by
  show Go V (d + 2) mJ1_charAt_3b067 0 [some (vR 211), some (vI (nI 3))] [] μ _
  refine Go.iload_n dJ1_charAt_3b067_0 rfl ?_
  refine Go.aload_n dJ1_charAt_3b067_1 rfl ?_
  refine Go.blength 0 dJ1_charAt_3b067_2 (by decide) ?_
  refine Go.callSv [vI (nI 3), vI (nI 4)] [] dJ1_charAt_3b067_3 lkJ1_9 rfl (Nat.le_of_ble_eq_true rfl) rfl (Nat.le_of_ble_eq_true rfl) (c_checkIndex 3 4 (by decide) (by decide)) ?_
  refine Go.aload_n dJ1_charAt_3b067_6 rfl ?_
  refine Go.iload_n dJ1_charAt_3b067_7 rfl ?_
  refine Go.at 8 rfl ?_
  refine Go.baload 0 3 dJ1_charAt_3b067_8 (by decide) (by decide) rfl ?_
  refine Go.sipush (v := nI 255) dJ1_charAt_3b067_9 rfl ?_
  refine Go.iand dJ1_charAt_3b067_12 ?_
  refine Go.i2c dJ1_charAt_3b067_13 ?_
  refine Go.topE (y := nI 101) (by decide) ?_
  refine Go.ireturn .char dJ1_charAt_3b067_14 rfl rfl ?_
  exact ⟨rfl, rfl⟩
theorem c_charAt_0_3 {V : VV} {d : Nat} {μ : Memo} : Ret V (d + 3) mJ0_charAt_5068e [vR 201, vI (nI 3)] μ (some (vI (nI 101))) μ := by
  show Go V (d + 3) mJ0_charAt_5068e 0 [some (vR 201), some (vI (nI 3))] [] μ _
  refine Go.aload_n dJ0_charAt_5068e_0 rfl ?_
  refine Go.callVi 201 [] [] dJ0_charAt_5068e_1 lkJ0_492 (Or.inr ⟨0, by decide, rfl, rfl⟩) rfl (Nat.le_of_ble_eq_true rfl) rfl (Nat.le_of_ble_eq_true rfl) c_isLatin1_0 ?_
  refine Go.if_eq_f (tgt := 16) dJ0_charAt_5068e_4 (by decide) (by decide) ?_
  refine Go.aload_n dJ0_charAt_5068e_7 rfl ?_
  refine Go.strValue 0 dJ0_charAt_5068e_8 (by decide) flJ0_9 ?_
  refine Go.iload_n dJ0_charAt_5068e_11 rfl ?_
  refine Go.at 12 rfl ?_
  refine Go.callSi [vR 211, vI (nI 3)] [] dJ0_charAt_5068e_12 lkJ0_495 rfl (Nat.le_of_ble_eq_true rfl) rfl (Nat.le_of_ble_eq_true rfl) c_charL_0_3 ?_
  refine Go.ireturn .char dJ0_charAt_5068e_15 rfl rfl ?_
  exact ⟨rfl, rfl⟩
theorem c_coder_1 {V : VV} {d : Nat} {μ : Memo} : Ret V (d) mJ0_coder_7d493 [vR 202] μ (some (vI 0)) μ := by
  show Go V (d) mJ0_coder_7d493 0 [some (vR 202)] [] μ _
  refine Go.getCompact dJ0_coder_7d493_0 flJ0_38 ?_
  refine Go.if_eq_f (tgt := 13) dJ0_coder_7d493_3 (by decide) (by decide) ?_
  refine Go.aload_n dJ0_coder_7d493_6 rfl ?_
  refine Go.strCoder 1 dJ0_coder_7d493_7 (by decide) flJ0_15 ?_
  refine Go.goto (tgt := 14) dJ0_coder_7d493_10 (by decide) ?_
  refine Go.ireturn .byte dJ0_coder_7d493_14 rfl rfl ?_
  exact ⟨rfl, rfl⟩
theorem c_isLatin1_1 {V : VV} {d : Nat} {μ : Memo} : Ret V (d) mJ0_isLatin1_aae02 [vR 202] μ (some (vI (nI 1))) μ := by
  show Go V (d) mJ0_isLatin1_aae02 0 [some (vR 202)] [] μ _
  refine Go.getCompact dJ0_isLatin1_aae02_0 flJ0_38 ?_
  refine Go.if_eq_f (tgt := 17) dJ0_isLatin1_aae02_3 (by decide) (by decide) ?_
  refine Go.aload_n dJ0_isLatin1_aae02_6 rfl ?_
  refine Go.strCoder 1 dJ0_isLatin1_aae02_7 (by decide) flJ0_15 ?_
  refine Go.if_ne_f (tgt := 17) dJ0_isLatin1_aae02_10 (by decide) (by decide) ?_
  refine Go.iconst (v := nI 1) dJ0_isLatin1_aae02_13 rfl ?_
  refine Go.at 14 rfl ?_
  refine Go.goto (tgt := 18) dJ0_isLatin1_aae02_14 (by decide) ?_
  refine Go.ireturn .boolean dJ0_isLatin1_aae02_18 rfl rfl ?_
  exact ⟨rfl, rfl⟩
theorem c_length_1 {V : VV} {d : Nat} {μ : Memo} : Ret V (d + 1) mJ0_length_8abf5 [vR 202] μ (some (vI (nI 4))) μ := by
  show Go V (d + 1) mJ0_length_8abf5 0 [some (vR 202)] [] μ _
  refine Go.aload_n dJ0_length_8abf5_0 rfl ?_
  refine Go.strValue 1 dJ0_length_8abf5_1 (by decide) flJ0_9 ?_
  refine Go.blength 1 dJ0_length_8abf5_4 (by decide) ?_
  refine Go.aload_n dJ0_length_8abf5_5 rfl ?_
  refine Go.callVi 202 [] [vI (nI 4)] dJ0_length_8abf5_6 lkJ0_335 (Or.inr ⟨1, by decide, rfl, rfl⟩) rfl (Nat.le_of_ble_eq_true rfl) rfl (Nat.le_of_ble_eq_true rfl) c_coder_1 ?_
  refine Go.ishr dJ0_length_8abf5_9 ?_
  refine Go.topE (y := nI 4) (by decide) ?_
  refine Go.at 10 rfl ?_
  refine Go.ireturn .int dJ0_length_8abf5_10 rfl rfl ?_
  exact ⟨rfl, rfl⟩
theorem c_charL_1_0 {V : VV} {d : Nat} {μ : Memo} : Ret V (d + 2) mJ1_charAt_3b067 [vR 212, vI (nI 0)] μ (some (vI (nI 103))) μ := by
  show Go V (d + 2) mJ1_charAt_3b067 0 [some (vR 212), some (vI (nI 0))] [] μ _
  refine Go.iload_n dJ1_charAt_3b067_0 rfl ?_
  refine Go.aload_n dJ1_charAt_3b067_1 rfl ?_
  refine Go.blength 1 dJ1_charAt_3b067_2 (by decide) ?_
  refine Go.callSv [vI (nI 0), vI (nI 4)] [] dJ1_charAt_3b067_3 lkJ1_9 rfl (Nat.le_of_ble_eq_true rfl) rfl (Nat.le_of_ble_eq_true rfl) (c_checkIndex 0 4 (by decide) (by decide)) ?_
  refine Go.aload_n dJ1_charAt_3b067_6 rfl ?_
  refine Go.iload_n dJ1_charAt_3b067_7 rfl ?_
  refine Go.at 8 rfl ?_
  refine Go.baload 1 0 dJ1_charAt_3b067_8 (by decide) (by decide) rfl ?_
  refine Go.sipush (v := nI 255) dJ1_charAt_3b067_9 rfl ?_
  refine Go.iand dJ1_charAt_3b067_12 ?_
  refine Go.i2c dJ1_charAt_3b067_13 ?_
  refine Go.topE (y := nI 103) (by decide) ?_
  refine Go.ireturn .char dJ1_charAt_3b067_14 rfl rfl ?_
  exact ⟨rfl, rfl⟩
theorem c_charAt_1_0 {V : VV} {d : Nat} {μ : Memo} : Ret V (d + 3) mJ0_charAt_5068e [vR 202, vI (nI 0)] μ (some (vI (nI 103))) μ := by
  show Go V (d + 3) mJ0_charAt_5068e 0 [some (vR 202), some (vI (nI 0))] [] μ _
  refine Go.aload_n dJ0_charAt_5068e_0 rfl ?_
  refine Go.callVi 202 [] [] dJ0_charAt_5068e_1 lkJ0_492 (Or.inr ⟨1, by decide, rfl, rfl⟩) rfl (Nat.le_of_ble_eq_true rfl) rfl (Nat.le_of_ble_eq_true rfl) c_isLatin1_1 ?_
  refine Go.if_eq_f (tgt := 16) dJ0_charAt_5068e_4 (by decide) (by decide) ?_
  refine Go.aload_n dJ0_charAt_5068e_7 rfl ?_
  refine Go.strValue 1 dJ0_charAt_5068e_8 (by decide) flJ0_9 ?_
  refine Go.iload_n dJ0_charAt_5068e_11 rfl ?_
  refine Go.at 12 rfl ?_
  refine Go.callSi [vR 212, vI (nI 0)] [] dJ0_charAt_5068e_12 lkJ0_495 rfl (Nat.le_of_ble_eq_true rfl) rfl (Nat.le_of_ble_eq_true rfl) c_charL_1_0 ?_
  refine Go.ireturn .char dJ0_charAt_5068e_15 rfl rfl ?_
  exact ⟨rfl, rfl⟩
theorem c_charL_1_1 {V : VV} {d : Nat} {μ : Memo} : Ret V (d + 2) mJ1_charAt_3b067 [vR 212, vI (nI 1)] μ (some (vI (nI 114))) μ := by
  show Go V (d + 2) mJ1_charAt_3b067 0 [some (vR 212), some (vI (nI 1))] [] μ _
  refine Go.iload_n dJ1_charAt_3b067_0 rfl ?_
  refine Go.aload_n dJ1_charAt_3b067_1 rfl ?_
  refine Go.blength 1 dJ1_charAt_3b067_2 (by decide) ?_
  refine Go.callSv [vI (nI 1), vI (nI 4)] [] dJ1_charAt_3b067_3 lkJ1_9 rfl (Nat.le_of_ble_eq_true rfl) rfl (Nat.le_of_ble_eq_true rfl) (c_checkIndex 1 4 (by decide) (by decide)) ?_
  refine Go.aload_n dJ1_charAt_3b067_6 rfl ?_
  refine Go.iload_n dJ1_charAt_3b067_7 rfl ?_
  refine Go.at 8 rfl ?_
  refine Go.baload 1 1 dJ1_charAt_3b067_8 (by decide) (by decide) rfl ?_
  refine Go.sipush (v := nI 255) dJ1_charAt_3b067_9 rfl ?_
  refine Go.iand dJ1_charAt_3b067_12 ?_
  refine Go.i2c dJ1_charAt_3b067_13 ?_
  refine Go.topE (y := nI 114) (by decide) ?_
  refine Go.ireturn .char dJ1_charAt_3b067_14 rfl rfl ?_
  exact ⟨rfl, rfl⟩
theorem c_charAt_1_1 {V : VV} {d : Nat} {μ : Memo} : Ret V (d + 3) mJ0_charAt_5068e [vR 202, vI (nI 1)] μ (some (vI (nI 114))) μ := by
  show Go V (d + 3) mJ0_charAt_5068e 0 [some (vR 202), some (vI (nI 1))] [] μ _
  refine Go.aload_n dJ0_charAt_5068e_0 rfl ?_
  refine Go.callVi 202 [] [] dJ0_charAt_5068e_1 lkJ0_492 (Or.inr ⟨1, by decide, rfl, rfl⟩) rfl (Nat.le_of_ble_eq_true rfl) rfl (Nat.le_of_ble_eq_true rfl) c_isLatin1_1 ?_
  refine Go.if_eq_f (tgt := 16) dJ0_charAt_5068e_4 (by decide) (by decide) ?_
  refine Go.aload_n dJ0_charAt_5068e_7 rfl ?_
  refine Go.strValue 1 dJ0_charAt_5068e_8 (by decide) flJ0_9 ?_
  refine Go.iload_n dJ0_charAt_5068e_11 rfl ?_
  refine Go.at 12 rfl ?_
  refine Go.callSi [vR 212, vI (nI 1)] [] dJ0_charAt_5068e_12 lkJ0_495 rfl (Nat.le_of_ble_eq_true rfl) rfl (Nat.le_of_ble_eq_true rfl) c_charL_1_1 ?_
  refine Go.ireturn .char dJ0_charAt_5068e_15 rfl rfl ?_
  exact ⟨rfl, rfl⟩
theorem c_charL_1_2 {V : VV} {d : Nat} {μ : Memo} : Ret V (d + 2) mJ1_charAt_3b067 [vR 212, vI (nI 2)] μ (some (vI (nI 111))) μ := by
  show Go V (d + 2) mJ1_charAt_3b067 0 [some (vR 212), some (vI (nI 2))] [] μ _
  refine Go.iload_n dJ1_charAt_3b067_0 rfl ?_
  refine Go.aload_n dJ1_charAt_3b067_1 rfl ?_
  refine Go.blength 1 dJ1_charAt_3b067_2 (by decide) ?_
  refine Go.callSv [vI (nI 2), vI (nI 4)] [] dJ1_charAt_3b067_3 lkJ1_9 rfl (Nat.le_of_ble_eq_true rfl) rfl (Nat.le_of_ble_eq_true rfl) (c_checkIndex 2 4 (by decide) (by decide)) ?_
  refine Go.aload_n dJ1_charAt_3b067_6 rfl ?_
  refine Go.iload_n dJ1_charAt_3b067_7 rfl ?_
  refine Go.at 8 rfl ?_
  refine Go.baload 1 2 dJ1_charAt_3b067_8 (by decide) (by decide) rfl ?_
  refine Go.sipush (v := nI 255) dJ1_charAt_3b067_9 rfl ?_
  refine Go.iand dJ1_charAt_3b067_12 ?_
  refine Go.i2c dJ1_charAt_3b067_13 ?_
  refine Go.topE (y := nI 111) (by decide) ?_
  refine Go.ireturn .char dJ1_charAt_3b067_14 rfl rfl ?_
  exact ⟨rfl, rfl⟩
theorem c_charAt_1_2 {V : VV} {d : Nat} {μ : Memo} : Ret V (d + 3) mJ0_charAt_5068e [vR 202, vI (nI 2)] μ (some (vI (nI 111))) μ := by
  show Go V (d + 3) mJ0_charAt_5068e 0 [some (vR 202), some (vI (nI 2))] [] μ _
  refine Go.aload_n dJ0_charAt_5068e_0 rfl ?_
  refine Go.callVi 202 [] [] dJ0_charAt_5068e_1 lkJ0_492 (Or.inr ⟨1, by decide, rfl, rfl⟩) rfl (Nat.le_of_ble_eq_true rfl) rfl (Nat.le_of_ble_eq_true rfl) c_isLatin1_1 ?_
  refine Go.if_eq_f (tgt := 16) dJ0_charAt_5068e_4 (by decide) (by decide) ?_
  refine Go.aload_n dJ0_charAt_5068e_7 rfl ?_
  refine Go.strValue 1 dJ0_charAt_5068e_8 (by decide) flJ0_9 ?_
  refine Go.iload_n dJ0_charAt_5068e_11 rfl ?_
  refine Go.at 12 rfl ?_
  refine Go.callSi [vR 212, vI (nI 2)] [] dJ0_charAt_5068e_12 lkJ0_495 rfl (Nat.le_of_ble_eq_true rfl) rfl (Nat.le_of_ble_eq_true rfl) c_charL_1_2 ?_
  refine Go.ireturn .char dJ0_charAt_5068e_15 rfl rfl ?_
  exact ⟨rfl, rfl⟩
theorem c_charL_1_3 {V : VV} {d : Nat} {μ : Memo} : Ret V (d + 2) mJ1_charAt_3b067 [vR 212, vI (nI 3)] μ (some (vI (nI 119))) μ := by
  show Go V (d + 2) mJ1_charAt_3b067 0 [some (vR 212), some (vI (nI 3))] [] μ _
  refine Go.iload_n dJ1_charAt_3b067_0 rfl ?_
  refine Go.aload_n dJ1_charAt_3b067_1 rfl ?_
  refine Go.blength 1 dJ1_charAt_3b067_2 (by decide) ?_
  refine Go.callSv [vI (nI 3), vI (nI 4)] [] dJ1_charAt_3b067_3 lkJ1_9 rfl (Nat.le_of_ble_eq_true rfl) rfl (Nat.le_of_ble_eq_true rfl) (c_checkIndex 3 4 (by decide) (by decide)) ?_
  refine Go.aload_n dJ1_charAt_3b067_6 rfl ?_
  refine Go.iload_n dJ1_charAt_3b067_7 rfl ?_
  refine Go.at 8 rfl ?_
  refine Go.baload 1 3 dJ1_charAt_3b067_8 (by decide) (by decide) rfl ?_
  refine Go.sipush (v := nI 255) dJ1_charAt_3b067_9 rfl ?_
  refine Go.iand dJ1_charAt_3b067_12 ?_
  refine Go.i2c dJ1_charAt_3b067_13 ?_
  refine Go.topE (y := nI 119) (by decide) ?_
  refine Go.ireturn .char dJ1_charAt_3b067_14 rfl rfl ?_
  exact ⟨rfl, rfl⟩
theorem c_charAt_1_3 {V : VV} {d : Nat} {μ : Memo} : Ret V (d + 3) mJ0_charAt_5068e [vR 202, vI (nI 3)] μ (some (vI (nI 119))) μ := by
  show Go V (d + 3) mJ0_charAt_5068e 0 [some (vR 202), some (vI (nI 3))] [] μ _
  refine Go.aload_n dJ0_charAt_5068e_0 rfl ?_
  refine Go.callVi 202 [] [] dJ0_charAt_5068e_1 lkJ0_492 (Or.inr ⟨1, by decide, rfl, rfl⟩) rfl (Nat.le_of_ble_eq_true rfl) rfl (Nat.le_of_ble_eq_true rfl) c_isLatin1_1 ?_
  refine Go.if_eq_f (tgt := 16) dJ0_charAt_5068e_4 (by decide) (by decide) ?_
  refine Go.aload_n dJ0_charAt_5068e_7 rfl ?_
  refine Go.strValue 1 dJ0_charAt_5068e_8 (by decide) flJ0_9 ?_
  refine Go.iload_n dJ0_charAt_5068e_11 rfl ?_
  refine Go.at 12 rfl ?_
  refine Go.callSi [vR 212, vI (nI 3)] [] dJ0_charAt_5068e_12 lkJ0_495 rfl (Nat.le_of_ble_eq_true rfl) rfl (Nat.le_of_ble_eq_true rfl) c_charL_1_3 ?_
  refine Go.ireturn .char dJ0_charAt_5068e_15 rfl rfl ?_
  exact ⟨rfl, rfl⟩
theorem c_coder_2 {V : VV} {d : Nat} {μ : Memo} : Ret V (d) mJ0_coder_7d493 [vR 203] μ (some (vI 0)) μ := by
  show Go V (d) mJ0_coder_7d493 0 [some (vR 203)] [] μ _
  refine Go.getCompact dJ0_coder_7d493_0 flJ0_38 ?_
  refine Go.if_eq_f (tgt := 13) dJ0_coder_7d493_3 (by decide) (by decide) ?_
  refine Go.aload_n dJ0_coder_7d493_6 rfl ?_
  refine Go.strCoder 2 dJ0_coder_7d493_7 (by decide) flJ0_15 ?_
  refine Go.goto (tgt := 14) dJ0_coder_7d493_10 (by decide) ?_
  refine Go.ireturn .byte dJ0_coder_7d493_14 rfl rfl ?_
  exact ⟨rfl, rfl⟩
theorem c_isLatin1_2 {V : VV} {d : Nat} {μ : Memo} : Ret V (d) mJ0_isLatin1_aae02 [vR 203] μ (some (vI (nI 1))) μ := by
  show Go V (d) mJ0_isLatin1_aae02 0 [some (vR 203)] [] μ _
  refine Go.getCompact dJ0_isLatin1_aae02_0 flJ0_38 ?_
  refine Go.if_eq_f (tgt := 17) dJ0_isLatin1_aae02_3 (by decide) (by decide) ?_
  refine Go.aload_n dJ0_isLatin1_aae02_6 rfl ?_
  refine Go.strCoder 2 dJ0_isLatin1_aae02_7 (by decide) flJ0_15 ?_
  refine Go.if_ne_f (tgt := 17) dJ0_isLatin1_aae02_10 (by decide) (by decide) ?_
  refine Go.iconst (v := nI 1) dJ0_isLatin1_aae02_13 rfl ?_
  refine Go.at 14 rfl ?_
  refine Go.goto (tgt := 18) dJ0_isLatin1_aae02_14 (by decide) ?_
  refine Go.ireturn .boolean dJ0_isLatin1_aae02_18 rfl rfl ?_
  exact ⟨rfl, rfl⟩
theorem c_length_2 {V : VV} {d : Nat} {μ : Memo} : Ret V (d + 1) mJ0_length_8abf5 [vR 203] μ (some (vI (nI 4))) μ := by
  show Go V (d + 1) mJ0_length_8abf5 0 [some (vR 203)] [] μ _
  refine Go.aload_n dJ0_length_8abf5_0 rfl ?_
  refine Go.strValue 2 dJ0_length_8abf5_1 (by decide) flJ0_9 ?_
  refine Go.blength 2 dJ0_length_8abf5_4 (by decide) ?_
  refine Go.aload_n dJ0_length_8abf5_5 rfl ?_
  refine Go.callVi 203 [] [vI (nI 4)] dJ0_length_8abf5_6 lkJ0_335 (Or.inr ⟨2, by decide, rfl, rfl⟩) rfl (Nat.le_of_ble_eq_true rfl) rfl (Nat.le_of_ble_eq_true rfl) c_coder_2 ?_
  refine Go.ishr dJ0_length_8abf5_9 ?_
  refine Go.topE (y := nI 4) (by decide) ?_
  refine Go.at 10 rfl ?_
  refine Go.ireturn .int dJ0_length_8abf5_10 rfl rfl ?_
  exact ⟨rfl, rfl⟩
theorem c_charL_2_0 {V : VV} {d : Nat} {μ : Memo} : Ret V (d + 2) mJ1_charAt_3b067 [vR 213, vI (nI 0)] μ (some (vI (nI 114))) μ := by
  show Go V (d + 2) mJ1_charAt_3b067 0 [some (vR 213), some (vI (nI 0))] [] μ _
  refine Go.iload_n dJ1_charAt_3b067_0 rfl ?_
  refine Go.aload_n dJ1_charAt_3b067_1 rfl ?_
  refine Go.blength 2 dJ1_charAt_3b067_2 (by decide) ?_
  refine Go.callSv [vI (nI 0), vI (nI 4)] [] dJ1_charAt_3b067_3 lkJ1_9 rfl (Nat.le_of_ble_eq_true rfl) rfl (Nat.le_of_ble_eq_true rfl) (c_checkIndex 0 4 (by decide) (by decide)) ?_
  refine Go.aload_n dJ1_charAt_3b067_6 rfl ?_
  refine Go.iload_n dJ1_charAt_3b067_7 rfl ?_
  refine Go.at 8 rfl ?_
  refine Go.baload 2 0 dJ1_charAt_3b067_8 (by decide) (by decide) rfl ?_
  refine Go.sipush (v := nI 255) dJ1_charAt_3b067_9 rfl ?_
  refine Go.iand dJ1_charAt_3b067_12 ?_
  refine Go.i2c dJ1_charAt_3b067_13 ?_
  refine Go.topE (y := nI 114) (by decide) ?_
  refine Go.ireturn .char dJ1_charAt_3b067_14 rfl rfl ?_
  exact ⟨rfl, rfl⟩
theorem c_charAt_2_0 {V : VV} {d : Nat} {μ : Memo} : Ret V (d + 3) mJ0_charAt_5068e [vR 203, vI (nI 0)] μ (some (vI (nI 114))) μ := by
  show Go V (d + 3) mJ0_charAt_5068e 0 [some (vR 203), some (vI (nI 0))] [] μ _
  refine Go.aload_n dJ0_charAt_5068e_0 rfl ?_
  refine Go.callVi 203 [] [] dJ0_charAt_5068e_1 lkJ0_492 (Or.inr ⟨2, by decide, rfl, rfl⟩) rfl (Nat.le_of_ble_eq_true rfl) rfl (Nat.le_of_ble_eq_true rfl) c_isLatin1_2 ?_
  refine Go.if_eq_f (tgt := 16) dJ0_charAt_5068e_4 (by decide) (by decide) ?_
  refine Go.aload_n dJ0_charAt_5068e_7 rfl ?_
  refine Go.strValue 2 dJ0_charAt_5068e_8 (by decide) flJ0_9 ?_
  refine Go.iload_n dJ0_charAt_5068e_11 rfl ?_
  refine Go.at 12 rfl ?_
  refine Go.callSi [vR 213, vI (nI 0)] [] dJ0_charAt_5068e_12 lkJ0_495 rfl (Nat.le_of_ble_eq_true rfl) rfl (Nat.le_of_ble_eq_true rfl) c_charL_2_0 ?_
  refine Go.ireturn .char dJ0_charAt_5068e_15 rfl rfl ?_
  exact ⟨rfl, rfl⟩
theorem c_charL_2_1 {V : VV} {d : Nat} {μ : Memo} : Ret V (d + 2) mJ1_charAt_3b067 [vR 213, vI (nI 1)] μ (some (vI (nI 111))) μ := by
  show Go V (d + 2) mJ1_charAt_3b067 0 [some (vR 213), some (vI (nI 1))] [] μ _
  refine Go.iload_n dJ1_charAt_3b067_0 rfl ?_
  refine Go.aload_n dJ1_charAt_3b067_1 rfl ?_
  refine Go.blength 2 dJ1_charAt_3b067_2 (by decide) ?_
  refine Go.callSv [vI (nI 1), vI (nI 4)] [] dJ1_charAt_3b067_3 lkJ1_9 rfl (Nat.le_of_ble_eq_true rfl) rfl (Nat.le_of_ble_eq_true rfl) (c_checkIndex 1 4 (by decide) (by decide)) ?_
  refine Go.aload_n dJ1_charAt_3b067_6 rfl ?_
  refine Go.iload_n dJ1_charAt_3b067_7 rfl ?_
  refine Go.at 8 rfl ?_
  refine Go.baload 2 1 dJ1_charAt_3b067_8 (by decide) (by decide) rfl ?_
  refine Go.sipush (v := nI 255) dJ1_charAt_3b067_9 rfl ?_
  refine Go.iand dJ1_charAt_3b067_12 ?_
  refine Go.i2c dJ1_charAt_3b067_13 ?_
  refine Go.topE (y := nI 111) (by decide) ?_
  refine Go.ireturn .char dJ1_charAt_3b067_14 rfl rfl ?_
  exact ⟨rfl, rfl⟩
theorem c_charAt_2_1 {V : VV} {d : Nat} {μ : Memo} : Ret V (d + 3) mJ0_charAt_5068e [vR 203, vI (nI 1)] μ (some (vI (nI 111))) μ := by
  show Go V (d + 3) mJ0_charAt_5068e 0 [some (vR 203), some (vI (nI 1))] [] μ _
  refine Go.aload_n dJ0_charAt_5068e_0 rfl ?_
  refine Go.callVi 203 [] [] dJ0_charAt_5068e_1 lkJ0_492 (Or.inr ⟨2, by decide, rfl, rfl⟩) rfl (Nat.le_of_ble_eq_true rfl) rfl (Nat.le_of_ble_eq_true rfl) c_isLatin1_2 ?_
  refine Go.if_eq_f (tgt := 16) dJ0_charAt_5068e_4 (by decide) (by decide) ?_
  refine Go.aload_n dJ0_charAt_5068e_7 rfl ?_
  refine Go.strValue 2 dJ0_charAt_5068e_8 (by decide) flJ0_9 ?_
  refine Go.iload_n dJ0_charAt_5068e_11 rfl ?_
  refine Go.at 12 rfl ?_
  refine Go.callSi [vR 213, vI (nI 1)] [] dJ0_charAt_5068e_12 lkJ0_495 rfl (Nat.le_of_ble_eq_true rfl) rfl (Nat.le_of_ble_eq_true rfl) c_charL_2_1 ?_
  refine Go.ireturn .char dJ0_charAt_5068e_15 rfl rfl ?_
  exact ⟨rfl, rfl⟩
theorem c_charL_2_2 {V : VV} {d : Nat} {μ : Memo} : Ret V (d + 2) mJ1_charAt_3b067 [vR 213, vI (nI 2)] μ (some (vI (nI 111))) μ := by
  show Go V (d + 2) mJ1_charAt_3b067 0 [some (vR 213), some (vI (nI 2))] [] μ _
  refine Go.iload_n dJ1_charAt_3b067_0 rfl ?_
  refine Go.aload_n dJ1_charAt_3b067_1 rfl ?_
  refine Go.blength 2 dJ1_charAt_3b067_2 (by decide) ?_
  refine Go.callSv [vI (nI 2), vI (nI 4)] [] dJ1_charAt_3b067_3 lkJ1_9 rfl (Nat.le_of_ble_eq_true rfl) rfl (Nat.le_of_ble_eq_true rfl) (c_checkIndex 2 4 (by decide) (by decide)) ?_
  refine Go.aload_n dJ1_charAt_3b067_6 rfl ?_
  refine Go.iload_n dJ1_charAt_3b067_7 rfl ?_
  refine Go.at 8 rfl ?_
  refine Go.baload 2 2 dJ1_charAt_3b067_8 (by decide) (by decide) rfl ?_
  refine Go.sipush (v := nI 255) dJ1_charAt_3b067_9 rfl ?_
  refine Go.iand dJ1_charAt_3b067_12 ?_
  refine Go.i2c dJ1_charAt_3b067_13 ?_
  refine Go.topE (y := nI 111) (by decide) ?_
  refine Go.ireturn .char dJ1_charAt_3b067_14 rfl rfl ?_
  exact ⟨rfl, rfl⟩
theorem c_charAt_2_2 {V : VV} {d : Nat} {μ : Memo} : Ret V (d + 3) mJ0_charAt_5068e [vR 203, vI (nI 2)] μ (some (vI (nI 111))) μ := by
  show Go V (d + 3) mJ0_charAt_5068e 0 [some (vR 203), some (vI (nI 2))] [] μ _
  refine Go.aload_n dJ0_charAt_5068e_0 rfl ?_
  refine Go.callVi 203 [] [] dJ0_charAt_5068e_1 lkJ0_492 (Or.inr ⟨2, by decide, rfl, rfl⟩) rfl (Nat.le_of_ble_eq_true rfl) rfl (Nat.le_of_ble_eq_true rfl) c_isLatin1_2 ?_
  refine Go.if_eq_f (tgt := 16) dJ0_charAt_5068e_4 (by decide) (by decide) ?_
  refine Go.aload_n dJ0_charAt_5068e_7 rfl ?_
  refine Go.strValue 2 dJ0_charAt_5068e_8 (by decide) flJ0_9 ?_
  refine Go.iload_n dJ0_charAt_5068e_11 rfl ?_
  refine Go.at 12 rfl ?_
  refine Go.callSi [vR 213, vI (nI 2)] [] dJ0_charAt_5068e_12 lkJ0_495 rfl (Nat.le_of_ble_eq_true rfl) rfl (Nat.le_of_ble_eq_true rfl) c_charL_2_2 ?_
  refine Go.ireturn .char dJ0_charAt_5068e_15 rfl rfl ?_
  exact ⟨rfl, rfl⟩
theorem c_charL_2_3 {V : VV} {d : Nat} {μ : Memo} : Ret V (d + 2) mJ1_charAt_3b067 [vR 213, vI (nI 3)] μ (some (vI (nI 109))) μ := by
  show Go V (d + 2) mJ1_charAt_3b067 0 [some (vR 213), some (vI (nI 3))] [] μ _
  refine Go.iload_n dJ1_charAt_3b067_0 rfl ?_
  refine Go.aload_n dJ1_charAt_3b067_1 rfl ?_
  refine Go.blength 2 dJ1_charAt_3b067_2 (by decide) ?_
  refine Go.callSv [vI (nI 3), vI (nI 4)] [] dJ1_charAt_3b067_3 lkJ1_9 rfl (Nat.le_of_ble_eq_true rfl) rfl (Nat.le_of_ble_eq_true rfl) (c_checkIndex 3 4 (by decide) (by decide)) ?_
  refine Go.aload_n dJ1_charAt_3b067_6 rfl ?_
  refine Go.iload_n dJ1_charAt_3b067_7 rfl ?_
  refine Go.at 8 rfl ?_
  refine Go.baload 2 3 dJ1_charAt_3b067_8 (by decide) (by decide) rfl ?_
  refine Go.sipush (v := nI 255) dJ1_charAt_3b067_9 rfl ?_
  refine Go.iand dJ1_charAt_3b067_12 ?_
  refine Go.i2c dJ1_charAt_3b067_13 ?_
  refine Go.topE (y := nI 109) (by decide) ?_
  refine Go.ireturn .char dJ1_charAt_3b067_14 rfl rfl ?_
  exact ⟨rfl, rfl⟩
theorem c_charAt_2_3 {V : VV} {d : Nat} {μ : Memo} : Ret V (d + 3) mJ0_charAt_5068e [vR 203, vI (nI 3)] μ (some (vI (nI 109))) μ := by
  show Go V (d + 3) mJ0_charAt_5068e 0 [some (vR 203), some (vI (nI 3))] [] μ _
  refine Go.aload_n dJ0_charAt_5068e_0 rfl ?_
  refine Go.callVi 203 [] [] dJ0_charAt_5068e_1 lkJ0_492 (Or.inr ⟨2, by decide, rfl, rfl⟩) rfl (Nat.le_of_ble_eq_true rfl) rfl (Nat.le_of_ble_eq_true rfl) c_isLatin1_2 ?_
  refine Go.if_eq_f (tgt := 16) dJ0_charAt_5068e_4 (by decide) (by decide) ?_
  refine Go.aload_n dJ0_charAt_5068e_7 rfl ?_
  refine Go.strValue 2 dJ0_charAt_5068e_8 (by decide) flJ0_9 ?_
  refine Go.iload_n dJ0_charAt_5068e_11 rfl ?_
  refine Go.at 12 rfl ?_
  refine Go.callSi [vR 213, vI (nI 3)] [] dJ0_charAt_5068e_12 lkJ0_495 rfl (Nat.le_of_ble_eq_true rfl) rfl (Nat.le_of_ble_eq_true rfl) c_charL_2_3 ?_
  refine Go.ireturn .char dJ0_charAt_5068e_15 rfl rfl ?_
  exact ⟨rfl, rfl⟩
theorem c_coder_3 {V : VV} {d : Nat} {μ : Memo} : Ret V (d) mJ0_coder_7d493 [vR 204] μ (some (vI 0)) μ := by
  show Go V (d) mJ0_coder_7d493 0 [some (vR 204)] [] μ _
  refine Go.getCompact dJ0_coder_7d493_0 flJ0_38 ?_
  refine Go.if_eq_f (tgt := 13) dJ0_coder_7d493_3 (by decide) (by decide) ?_
  refine Go.aload_n dJ0_coder_7d493_6 rfl ?_
  refine Go.strCoder 3 dJ0_coder_7d493_7 (by decide) flJ0_15 ?_
  refine Go.goto (tgt := 14) dJ0_coder_7d493_10 (by decide) ?_
  refine Go.ireturn .byte dJ0_coder_7d493_14 rfl rfl ?_
  exact ⟨rfl, rfl⟩
theorem c_isLatin1_3 {V : VV} {d : Nat} {μ : Memo} : Ret V (d) mJ0_isLatin1_aae02 [vR 204] μ (some (vI (nI 1))) μ := by
  show Go V (d) mJ0_isLatin1_aae02 0 [some (vR 204)] [] μ _
  refine Go.getCompact dJ0_isLatin1_aae02_0 flJ0_38 ?_
  refine Go.if_eq_f (tgt := 17) dJ0_isLatin1_aae02_3 (by decide) (by decide) ?_
  refine Go.aload_n dJ0_isLatin1_aae02_6 rfl ?_
  refine Go.strCoder 3 dJ0_isLatin1_aae02_7 (by decide) flJ0_15 ?_
  refine Go.if_ne_f (tgt := 17) dJ0_isLatin1_aae02_10 (by decide) (by decide) ?_
  refine Go.iconst (v := nI 1) dJ0_isLatin1_aae02_13 rfl ?_
  refine Go.at 14 rfl ?_
  refine Go.goto (tgt := 18) dJ0_isLatin1_aae02_14 (by decide) ?_
  refine Go.ireturn .boolean dJ0_isLatin1_aae02_18 rfl rfl ?_
  exact ⟨rfl, rfl⟩
theorem c_length_3 {V : VV} {d : Nat} {μ : Memo} : Ret V (d + 1) mJ0_length_8abf5 [vR 204] μ (some (vI (nI 3))) μ := by
  show Go V (d + 1) mJ0_length_8abf5 0 [some (vR 204)] [] μ _
  refine Go.aload_n dJ0_length_8abf5_0 rfl ?_
  refine Go.strValue 3 dJ0_length_8abf5_1 (by decide) flJ0_9 ?_
  refine Go.blength 3 dJ0_length_8abf5_4 (by decide) ?_
  refine Go.aload_n dJ0_length_8abf5_5 rfl ?_
  refine Go.callVi 204 [] [vI (nI 3)] dJ0_length_8abf5_6 lkJ0_335 (Or.inr ⟨3, by decide, rfl, rfl⟩) rfl (Nat.le_of_ble_eq_true rfl) rfl (Nat.le_of_ble_eq_true rfl) c_coder_3 ?_
  refine Go.ishr dJ0_length_8abf5_9 ?_
  refine Go.topE (y := nI 3) (by decide) ?_
  refine Go.at 10 rfl ?_
  refine Go.ireturn .int dJ0_length_8abf5_10 rfl rfl ?_
  exact ⟨rfl, rfl⟩
theorem c_coder_4 {V : VV} {d : Nat} {μ : Memo} : Ret V (d) mJ0_coder_7d493 [vR 205] μ (some (vI 0)) μ := by
  show Go V (d) mJ0_coder_7d493 0 [some (vR 205)] [] μ _
  refine Go.getCompact dJ0_coder_7d493_0 flJ0_38 ?_
  refine Go.if_eq_f (tgt := 13) dJ0_coder_7d493_3 (by decide) (by decide) ?_
  refine Go.aload_n dJ0_coder_7d493_6 rfl ?_
  refine Go.strCoder 4 dJ0_coder_7d493_7 (by decide) flJ0_15 ?_
  refine Go.goto (tgt := 14) dJ0_coder_7d493_10 (by decide) ?_
  refine Go.ireturn .byte dJ0_coder_7d493_14 rfl rfl ?_
  exact ⟨rfl, rfl⟩
theorem c_isLatin1_4 {V : VV} {d : Nat} {μ : Memo} : Ret V (d) mJ0_isLatin1_aae02 [vR 205] μ (some (vI (nI 1))) μ := by
  show Go V (d) mJ0_isLatin1_aae02 0 [some (vR 205)] [] μ _
  refine Go.getCompact dJ0_isLatin1_aae02_0 flJ0_38 ?_
  refine Go.if_eq_f (tgt := 17) dJ0_isLatin1_aae02_3 (by decide) (by decide) ?_
  refine Go.aload_n dJ0_isLatin1_aae02_6 rfl ?_
  refine Go.strCoder 4 dJ0_isLatin1_aae02_7 (by decide) flJ0_15 ?_
  refine Go.if_ne_f (tgt := 17) dJ0_isLatin1_aae02_10 (by decide) (by decide) ?_
  refine Go.iconst (v := nI 1) dJ0_isLatin1_aae02_13 rfl ?_
  refine Go.at 14 rfl ?_
  refine Go.goto (tgt := 18) dJ0_isLatin1_aae02_14 (by decide) ?_
  refine Go.ireturn .boolean dJ0_isLatin1_aae02_18 rfl rfl ?_
  exact ⟨rfl, rfl⟩
theorem c_length_4 {V : VV} {d : Nat} {μ : Memo} : Ret V (d + 1) mJ0_length_8abf5 [vR 205] μ (some (vI (nI 2))) μ := by
  show Go V (d + 1) mJ0_length_8abf5 0 [some (vR 205)] [] μ _
  refine Go.aload_n dJ0_length_8abf5_0 rfl ?_
  refine Go.strValue 4 dJ0_length_8abf5_1 (by decide) flJ0_9 ?_
  refine Go.blength 4 dJ0_length_8abf5_4 (by decide) ?_
  refine Go.aload_n dJ0_length_8abf5_5 rfl ?_
  refine Go.callVi 205 [] [vI (nI 2)] dJ0_length_8abf5_6 lkJ0_335 (Or.inr ⟨4, by decide, rfl, rfl⟩) rfl (Nat.le_of_ble_eq_true rfl) rfl (Nat.le_of_ble_eq_true rfl) c_coder_4 ?_
  refine Go.ishr dJ0_length_8abf5_9 ?_
  refine Go.topE (y := nI 2) (by decide) ?_
  refine Go.at 10 rfl ?_
  refine Go.ireturn .int dJ0_length_8abf5_10 rfl rfl ?_
  exact ⟨rfl, rfl⟩
theorem c_coder_5 {V : VV} {d : Nat} {μ : Memo} : Ret V (d) mJ0_coder_7d493 [vR 206] μ (some (vI 0)) μ := by
  show Go V (d) mJ0_coder_7d493 0 [some (vR 206)] [] μ _
  refine Go.getCompact dJ0_coder_7d493_0 flJ0_38 ?_
  refine Go.if_eq_f (tgt := 13) dJ0_coder_7d493_3 (by decide) (by decide) ?_
  refine Go.aload_n dJ0_coder_7d493_6 rfl ?_
  refine Go.strCoder 5 dJ0_coder_7d493_7 (by decide) flJ0_15 ?_
  refine Go.goto (tgt := 14) dJ0_coder_7d493_10 (by decide) ?_
  refine Go.ireturn .byte dJ0_coder_7d493_14 rfl rfl ?_
  exact ⟨rfl, rfl⟩
theorem c_isLatin1_5 {V : VV} {d : Nat} {μ : Memo} : Ret V (d) mJ0_isLatin1_aae02 [vR 206] μ (some (vI (nI 1))) μ := by
  show Go V (d) mJ0_isLatin1_aae02 0 [some (vR 206)] [] μ _
  refine Go.getCompact dJ0_isLatin1_aae02_0 flJ0_38 ?_
  refine Go.if_eq_f (tgt := 17) dJ0_isLatin1_aae02_3 (by decide) (by decide) ?_
  refine Go.aload_n dJ0_isLatin1_aae02_6 rfl ?_
  refine Go.strCoder 5 dJ0_isLatin1_aae02_7 (by decide) flJ0_15 ?_
  refine Go.if_ne_f (tgt := 17) dJ0_isLatin1_aae02_10 (by decide) (by decide) ?_
  refine Go.iconst (v := nI 1) dJ0_isLatin1_aae02_13 rfl ?_
  refine Go.at 14 rfl ?_
  refine Go.goto (tgt := 18) dJ0_isLatin1_aae02_14 (by decide) ?_
  refine Go.ireturn .boolean dJ0_isLatin1_aae02_18 rfl rfl ?_
  exact ⟨rfl, rfl⟩
theorem c_length_5 {V : VV} {d : Nat} {μ : Memo} : Ret V (d + 1) mJ0_length_8abf5 [vR 206] μ (some (vI (nI 2))) μ := by
  show Go V (d + 1) mJ0_length_8abf5 0 [some (vR 206)] [] μ _
  refine Go.aload_n dJ0_length_8abf5_0 rfl ?_
  refine Go.strValue 5 dJ0_length_8abf5_1 (by decide) flJ0_9 ?_
  refine Go.blength 5 dJ0_length_8abf5_4 (by decide) ?_
  refine Go.aload_n dJ0_length_8abf5_5 rfl ?_
  refine Go.callVi 206 [] [vI (nI 2)] dJ0_length_8abf5_6 lkJ0_335 (Or.inr ⟨5, by decide, rfl, rfl⟩) rfl (Nat.le_of_ble_eq_true rfl) rfl (Nat.le_of_ble_eq_true rfl) c_coder_5 ?_
  refine Go.ishr dJ0_length_8abf5_9 ?_
  refine Go.topE (y := nI 2) (by decide) ?_
  refine Go.at 10 rfl ?_
  refine Go.ireturn .int dJ0_length_8abf5_10 rfl rfl ?_
  exact ⟨rfl, rfl⟩
theorem c_spells_0 {V : VV} {d : Nat} {μ : Memo} {N : Nat} {B : Nat → Nat} (hT : TpC μ N B) {b e : Nat} (hbe : b ≤ e) (heN : e ≤ N) (h5 : μ 33 5 = nI b) (h6 : μ 33 6 = nI e) : Ret V (d + 4) mX4_spells [vR 33, vR 201] μ (some (vI (bI (e = b + 4 ∧ B (b + 0) = 116 ∧ B (b + 1) = 105 ∧ B (b + 2) = 100 ∧ B (b + 3) = 101)))) μ := by
  show Go V (d + 4) mX4_spells 0 [some (vR 33), some (vR 201), none] [] μ _
  refine Go.aload_n dX4_spells_0 rfl ?_
  refine Go.getI dX4_spells_1 flX4_75 rfl ?_
  refine Go.topE (y := nI e) h6 ?_
  refine Go.aload_n dX4_spells_4 rfl ?_
  refine Go.getI dX4_spells_5 flX4_34 rfl ?_
  refine Go.topE (y := nI b) h5 ?_
  refine Go.isubN dX4_spells_8 hbe ?_
  refine Go.aload_n dX4_spells_9 rfl ?_
  refine Go.at 10 rfl ?_
  refine Go.callVi 201 [] [vI (nI (e - b))] dX4_spells_10 lkX4_92 (Or.inr ⟨0, by decide, rfl, rfl⟩) rfl (Nat.le_of_ble_eq_true rfl) rfl (Nat.le_of_ble_eq_true rfl) c_length_0 ?_
  refine Go.icmp_eq (tgt := 18) dX4_spells_13 (by decide) (fun h13 => ?_) (fun h13 => ?_)
  · -- 13 taken
    have he4 : e = b + 4 := by have := hT.1; rw [sI_eq, nT, nT] at h13; omega
    refine Go.iconst (v := nI 0) dX4_spells_18 rfl ?_
    refine Go.istore_n (ls' := [some (vR 33), some (vR 201), some (vI (nI 0))]) dX4_spells_19 (by decide) rfl ?_
    refine Go.iload_n dX4_spells_20 rfl ?_
    refine Go.aload_n dX4_spells_21 rfl ?_
    refine Go.callVi 201 [] [vI (nI 0)] dX4_spells_22 lkX4_92 (Or.inr ⟨0, by decide, rfl, rfl⟩) rfl (Nat.le_of_ble_eq_true rfl) rfl (Nat.le_of_ble_eq_true rfl) c_length_0 ?_
    refine Go.icmp_ge_f (tgt := 57) dX4_spells_25 (by decide) (by decide) ?_
    refine Go.at 28 rfl ?_
    refine Go.aload_n dX4_spells_28 rfl ?_
    refine Go.getR dX4_spells_29 flX4_18 rfl ?_
    refine Go.aload_n dX4_spells_32 rfl ?_
    refine Go.getI dX4_spells_33 flX4_34 rfl ?_
    refine Go.topE (y := nI b) h5 ?_
    refine Go.iload_n dX4_spells_36 rfl ?_
    refine Go.iaddN dX4_spells_37 ?_
    refine Go.at 38 rfl ?_
    refine Go.callVi 31 [vI (nI (b + 0))] [] dX4_spells_38 lkX4_96 (Or.inl ⟨_, _, _, rfl, rfl, rfl⟩) rfl (Nat.le_of_ble_eq_true rfl) rfl (Nat.le_of_ble_eq_true rfl) (c_byteAt hT (b + 0) (by omega)) ?_
    refine Go.aload_n dX4_spells_41 rfl ?_
    refine Go.iload_n dX4_spells_42 rfl ?_
    refine Go.callVi 201 [vI (nI 0)] [vI (nI (B (b + 0)))] dX4_spells_43 lkX4_99 (Or.inr ⟨0, by decide, rfl, rfl⟩) rfl (Nat.le_of_ble_eq_true rfl) rfl (Nat.le_of_ble_eq_true rfl) c_charAt_0_0 ?_
    refine Go.icmp_eq (tgt := 51) dX4_spells_46 (by decide) (fun g0 => ?_) (fun g0 => ?_)
    · -- 46 taken
      refine Go.iinc (v := nI 1) (ls' := [some (vR 33), some (vR 201), some (vI (nI 1))]) dX4_spells_51 rfl (by decide) (by decide) rfl ?_
      refine Go.goto (tgt := 20) dX4_spells_54 (by decide) ?_
      refine Go.iload_n dX4_spells_20 rfl ?_
      refine Go.aload_n dX4_spells_21 rfl ?_
      refine Go.callVi 201 [] [vI (nI 1)] dX4_spells_22 lkX4_92 (Or.inr ⟨0, by decide, rfl, rfl⟩) rfl (Nat.le_of_ble_eq_true rfl) rfl (Nat.le_of_ble_eq_true rfl) c_length_0 ?_
      refine Go.icmp_ge_f (tgt := 57) dX4_spells_25 (by decide) (by decide) ?_
      refine Go.at 28 rfl ?_
      refine Go.aload_n dX4_spells_28 rfl ?_
      refine Go.getR dX4_spells_29 flX4_18 rfl ?_
      refine Go.aload_n dX4_spells_32 rfl ?_
      refine Go.getI dX4_spells_33 flX4_34 rfl ?_
      refine Go.topE (y := nI b) h5 ?_
      refine Go.iload_n dX4_spells_36 rfl ?_
      refine Go.iaddN dX4_spells_37 ?_
      refine Go.at 38 rfl ?_
      refine Go.callVi 31 [vI (nI (b + 1))] [] dX4_spells_38 lkX4_96 (Or.inl ⟨_, _, _, rfl, rfl, rfl⟩) rfl (Nat.le_of_ble_eq_true rfl) rfl (Nat.le_of_ble_eq_true rfl) (c_byteAt hT (b + 1) (by omega)) ?_
      refine Go.aload_n dX4_spells_41 rfl ?_
      refine Go.iload_n dX4_spells_42 rfl ?_
      refine Go.callVi 201 [vI (nI 1)] [vI (nI (B (b + 1)))] dX4_spells_43 lkX4_99 (Or.inr ⟨0, by decide, rfl, rfl⟩) rfl (Nat.le_of_ble_eq_true rfl) rfl (Nat.le_of_ble_eq_true rfl) c_charAt_0_1 ?_
      refine Go.icmp_eq (tgt := 51) dX4_spells_46 (by decide) (fun g1 => ?_) (fun g1 => ?_)
      · -- 46 taken
        refine Go.iinc (v := nI 2) (ls' := [some (vR 33), some (vR 201), some (vI (nI 2))]) dX4_spells_51 rfl (by decide) (by decide) rfl ?_
        refine Go.goto (tgt := 20) dX4_spells_54 (by decide) ?_
        refine Go.iload_n dX4_spells_20 rfl ?_
        refine Go.aload_n dX4_spells_21 rfl ?_
        refine Go.callVi 201 [] [vI (nI 2)] dX4_spells_22 lkX4_92 (Or.inr ⟨0, by decide, rfl, rfl⟩) rfl (Nat.le_of_ble_eq_true rfl) rfl (Nat.le_of_ble_eq_true rfl) c_length_0 ?_
        refine Go.icmp_ge_f (tgt := 57) dX4_spells_25 (by decide) (by decide) ?_
        refine Go.at 28 rfl ?_
        refine Go.aload_n dX4_spells_28 rfl ?_
        refine Go.getR dX4_spells_29 flX4_18 rfl ?_
        refine Go.aload_n dX4_spells_32 rfl ?_
        refine Go.getI dX4_spells_33 flX4_34 rfl ?_
        refine Go.topE (y := nI b) h5 ?_
        refine Go.iload_n dX4_spells_36 rfl ?_
        refine Go.iaddN dX4_spells_37 ?_
        refine Go.at 38 rfl ?_
        refine Go.callVi 31 [vI (nI (b + 2))] [] dX4_spells_38 lkX4_96 (Or.inl ⟨_, _, _, rfl, rfl, rfl⟩) rfl (Nat.le_of_ble_eq_true rfl) rfl (Nat.le_of_ble_eq_true rfl) (c_byteAt hT (b + 2) (by omega)) ?_
        refine Go.aload_n dX4_spells_41 rfl ?_
        refine Go.iload_n dX4_spells_42 rfl ?_
        refine Go.callVi 201 [vI (nI 2)] [vI (nI (B (b + 2)))] dX4_spells_43 lkX4_99 (Or.inr ⟨0, by decide, rfl, rfl⟩) rfl (Nat.le_of_ble_eq_true rfl) rfl (Nat.le_of_ble_eq_true rfl) c_charAt_0_2 ?_
        refine Go.icmp_eq (tgt := 51) dX4_spells_46 (by decide) (fun g2 => ?_) (fun g2 => ?_)
        · -- 46 taken
          refine Go.iinc (v := nI 3) (ls' := [some (vR 33), some (vR 201), some (vI (nI 3))]) dX4_spells_51 rfl (by decide) (by decide) rfl ?_
          refine Go.goto (tgt := 20) dX4_spells_54 (by decide) ?_
          refine Go.iload_n dX4_spells_20 rfl ?_
          refine Go.aload_n dX4_spells_21 rfl ?_
          refine Go.callVi 201 [] [vI (nI 3)] dX4_spells_22 lkX4_92 (Or.inr ⟨0, by decide, rfl, rfl⟩) rfl (Nat.le_of_ble_eq_true rfl) rfl (Nat.le_of_ble_eq_true rfl) c_length_0 ?_
          refine Go.icmp_ge_f (tgt := 57) dX4_spells_25 (by decide) (by decide) ?_
          refine Go.at 28 rfl ?_
          refine Go.aload_n dX4_spells_28 rfl ?_
          refine Go.getR dX4_spells_29 flX4_18 rfl ?_
          refine Go.aload_n dX4_spells_32 rfl ?_
          refine Go.getI dX4_spells_33 flX4_34 rfl ?_
          refine Go.topE (y := nI b) h5 ?_
          refine Go.iload_n dX4_spells_36 rfl ?_
          refine Go.iaddN dX4_spells_37 ?_
          refine Go.at 38 rfl ?_
          refine Go.callVi 31 [vI (nI (b + 3))] [] dX4_spells_38 lkX4_96 (Or.inl ⟨_, _, _, rfl, rfl, rfl⟩) rfl (Nat.le_of_ble_eq_true rfl) rfl (Nat.le_of_ble_eq_true rfl) (c_byteAt hT (b + 3) (by omega)) ?_
          refine Go.aload_n dX4_spells_41 rfl ?_
          refine Go.iload_n dX4_spells_42 rfl ?_
          refine Go.callVi 201 [vI (nI 3)] [vI (nI (B (b + 3)))] dX4_spells_43 lkX4_99 (Or.inr ⟨0, by decide, rfl, rfl⟩) rfl (Nat.le_of_ble_eq_true rfl) rfl (Nat.le_of_ble_eq_true rfl) c_charAt_0_3 ?_
          refine Go.icmp_eq (tgt := 51) dX4_spells_46 (by decide) (fun g3 => ?_) (fun g3 => ?_)
          · -- 46 taken
            refine Go.iinc (v := nI 4) (ls' := [some (vR 33), some (vR 201), some (vI (nI 4))]) dX4_spells_51 rfl (by decide) (by decide) rfl ?_
            refine Go.goto (tgt := 20) dX4_spells_54 (by decide) ?_
            refine Go.iload_n dX4_spells_20 rfl ?_
            refine Go.aload_n dX4_spells_21 rfl ?_
            refine Go.callVi 201 [] [vI (nI 4)] dX4_spells_22 lkX4_92 (Or.inr ⟨0, by decide, rfl, rfl⟩) rfl (Nat.le_of_ble_eq_true rfl) rfl (Nat.le_of_ble_eq_true rfl) c_length_0 ?_
            refine Go.icmp_ge_t (tgt := 57) dX4_spells_25 (by decide) (by decide) ?_
            refine Go.at 57 rfl ?_
            refine Go.iconst (v := nI 1) dX4_spells_57 rfl ?_
            refine Go.ireturn .boolean dX4_spells_58 rfl rfl ?_
            exact ⟨congrArg (fun z => some (vI z)) (bI_t ⟨by have := hT.1; rw [sI_eq, nT, nT] at h13; omega, nI_inj g0 (hT.2.2 _ (by omega)).2, nI_inj g1 (hT.2.2 _ (by omega)).2, nI_inj g2 (hT.2.2 _ (by omega)).2, nI_inj g3 (hT.2.2 _ (by omega)).2⟩).symm, rfl⟩
          · -- 46 not
            refine Go.iconst (v := nI 0) dX4_spells_49 rfl ?_
            refine Go.ireturn .boolean dX4_spells_50 rfl rfl ?_
            exact ⟨congrArg (fun z => some (vI z)) (bI_f (fun z => g3 (congrArg nI (z.2.2.2.2)))).symm, rfl⟩
        · -- 46 not
          refine Go.iconst (v := nI 0) dX4_spells_49 rfl ?_
          refine Go.ireturn .boolean dX4_spells_50 rfl rfl ?_
          exact ⟨congrArg (fun z => some (vI z)) (bI_f (fun z => g2 (congrArg nI (z.2.2.2.1)))).symm, rfl⟩
      · -- 46 not
        refine Go.iconst (v := nI 0) dX4_spells_49 rfl ?_
        refine Go.ireturn .boolean dX4_spells_50 rfl rfl ?_
        exact ⟨congrArg (fun z => some (vI z)) (bI_f (fun z => g1 (congrArg nI (z.2.2.1)))).symm, rfl⟩
    · -- 46 not
      refine Go.iconst (v := nI 0) dX4_spells_49 rfl ?_
      refine Go.ireturn .boolean dX4_spells_50 rfl rfl ?_
      exact ⟨congrArg (fun z => some (vI z)) (bI_f (fun z => g0 (congrArg nI (z.2.1)))).symm, rfl⟩
  · -- 13 not
    refine Go.iconst (v := nI 0) dX4_spells_16 rfl ?_
    refine Go.ireturn .boolean dX4_spells_17 rfl rfl ?_
    exact ⟨congrArg (fun z => some (vI z)) (bI_f (fun z => h13 (by rw [show e - b = 4 by omega]))).symm, rfl⟩
theorem c_spells_1 {V : VV} {d : Nat} {μ : Memo} {N : Nat} {B : Nat → Nat} (hT : TpC μ N B) {b e : Nat} (hbe : b ≤ e) (heN : e ≤ N) (h5 : μ 33 5 = nI b) (h6 : μ 33 6 = nI e) : Ret V (d + 4) mX4_spells [vR 33, vR 202] μ (some (vI (bI (e = b + 4 ∧ B (b + 0) = 103 ∧ B (b + 1) = 114 ∧ B (b + 2) = 111 ∧ B (b + 3) = 119)))) μ := by
  show Go V (d + 4) mX4_spells 0 [some (vR 33), some (vR 202), none] [] μ _
  refine Go.aload_n dX4_spells_0 rfl ?_
  refine Go.getI dX4_spells_1 flX4_75 rfl ?_
  refine Go.topE (y := nI e) h6 ?_
  refine Go.aload_n dX4_spells_4 rfl ?_
  refine Go.getI dX4_spells_5 flX4_34 rfl ?_
  refine Go.topE (y := nI b) h5 ?_
  refine Go.isubN dX4_spells_8 hbe ?_
  refine Go.aload_n dX4_spells_9 rfl ?_
  refine Go.at 10 rfl ?_
  refine Go.callVi 202 [] [vI (nI (e - b))] dX4_spells_10 lkX4_92 (Or.inr ⟨1, by decide, rfl, rfl⟩) rfl (Nat.le_of_ble_eq_true rfl) rfl (Nat.le_of_ble_eq_true rfl) c_length_1 ?_
  refine Go.icmp_eq (tgt := 18) dX4_spells_13 (by decide) (fun h13 => ?_) (fun h13 => ?_)
  · -- 13 taken
    have he4 : e = b + 4 := by have := hT.1; rw [sI_eq, nT, nT] at h13; omega
    refine Go.iconst (v := nI 0) dX4_spells_18 rfl ?_
    refine Go.istore_n (ls' := [some (vR 33), some (vR 202), some (vI (nI 0))]) dX4_spells_19 (by decide) rfl ?_
    refine Go.iload_n dX4_spells_20 rfl ?_
    refine Go.aload_n dX4_spells_21 rfl ?_
    refine Go.callVi 202 [] [vI (nI 0)] dX4_spells_22 lkX4_92 (Or.inr ⟨1, by decide, rfl, rfl⟩) rfl (Nat.le_of_ble_eq_true rfl) rfl (Nat.le_of_ble_eq_true rfl) c_length_1 ?_
    refine Go.icmp_ge_f (tgt := 57) dX4_spells_25 (by decide) (by decide) ?_
    refine Go.at 28 rfl ?_
    refine Go.aload_n dX4_spells_28 rfl ?_
    refine Go.getR dX4_spells_29 flX4_18 rfl ?_
    refine Go.aload_n dX4_spells_32 rfl ?_
    refine Go.getI dX4_spells_33 flX4_34 rfl ?_
    refine Go.topE (y := nI b) h5 ?_
    refine Go.iload_n dX4_spells_36 rfl ?_
    refine Go.iaddN dX4_spells_37 ?_
    refine Go.at 38 rfl ?_
    refine Go.callVi 31 [vI (nI (b + 0))] [] dX4_spells_38 lkX4_96 (Or.inl ⟨_, _, _, rfl, rfl, rfl⟩) rfl (Nat.le_of_ble_eq_true rfl) rfl (Nat.le_of_ble_eq_true rfl) (c_byteAt hT (b + 0) (by omega)) ?_
    refine Go.aload_n dX4_spells_41 rfl ?_
    refine Go.iload_n dX4_spells_42 rfl ?_
    refine Go.callVi 202 [vI (nI 0)] [vI (nI (B (b + 0)))] dX4_spells_43 lkX4_99 (Or.inr ⟨1, by decide, rfl, rfl⟩) rfl (Nat.le_of_ble_eq_true rfl) rfl (Nat.le_of_ble_eq_true rfl) c_charAt_1_0 ?_
    refine Go.icmp_eq (tgt := 51) dX4_spells_46 (by decide) (fun g0 => ?_) (fun g0 => ?_)
    · -- 46 taken
      refine Go.iinc (v := nI 1) (ls' := [some (vR 33), some (vR 202), some (vI (nI 1))]) dX4_spells_51 rfl (by decide) (by decide) rfl ?_
      refine Go.goto (tgt := 20) dX4_spells_54 (by decide) ?_
      refine Go.iload_n dX4_spells_20 rfl ?_
      refine Go.aload_n dX4_spells_21 rfl ?_
      refine Go.callVi 202 [] [vI (nI 1)] dX4_spells_22 lkX4_92 (Or.inr ⟨1, by decide, rfl, rfl⟩) rfl (Nat.le_of_ble_eq_true rfl) rfl (Nat.le_of_ble_eq_true rfl) c_length_1 ?_
      refine Go.icmp_ge_f (tgt := 57) dX4_spells_25 (by decide) (by decide) ?_
      refine Go.at 28 rfl ?_
      refine Go.aload_n dX4_spells_28 rfl ?_
      refine Go.getR dX4_spells_29 flX4_18 rfl ?_
      refine Go.aload_n dX4_spells_32 rfl ?_
      refine Go.getI dX4_spells_33 flX4_34 rfl ?_
      refine Go.topE (y := nI b) h5 ?_
      refine Go.iload_n dX4_spells_36 rfl ?_
      refine Go.iaddN dX4_spells_37 ?_
      refine Go.at 38 rfl ?_
      refine Go.callVi 31 [vI (nI (b + 1))] [] dX4_spells_38 lkX4_96 (Or.inl ⟨_, _, _, rfl, rfl, rfl⟩) rfl (Nat.le_of_ble_eq_true rfl) rfl (Nat.le_of_ble_eq_true rfl) (c_byteAt hT (b + 1) (by omega)) ?_
      refine Go.aload_n dX4_spells_41 rfl ?_
      refine Go.iload_n dX4_spells_42 rfl ?_
      refine Go.callVi 202 [vI (nI 1)] [vI (nI (B (b + 1)))] dX4_spells_43 lkX4_99 (Or.inr ⟨1, by decide, rfl, rfl⟩) rfl (Nat.le_of_ble_eq_true rfl) rfl (Nat.le_of_ble_eq_true rfl) c_charAt_1_1 ?_
      refine Go.icmp_eq (tgt := 51) dX4_spells_46 (by decide) (fun g1 => ?_) (fun g1 => ?_)
      · -- 46 taken
        refine Go.iinc (v := nI 2) (ls' := [some (vR 33), some (vR 202), some (vI (nI 2))]) dX4_spells_51 rfl (by decide) (by decide) rfl ?_
        refine Go.goto (tgt := 20) dX4_spells_54 (by decide) ?_
        refine Go.iload_n dX4_spells_20 rfl ?_
        refine Go.aload_n dX4_spells_21 rfl ?_
        refine Go.callVi 202 [] [vI (nI 2)] dX4_spells_22 lkX4_92 (Or.inr ⟨1, by decide, rfl, rfl⟩) rfl (Nat.le_of_ble_eq_true rfl) rfl (Nat.le_of_ble_eq_true rfl) c_length_1 ?_
        refine Go.icmp_ge_f (tgt := 57) dX4_spells_25 (by decide) (by decide) ?_
        refine Go.at 28 rfl ?_
        refine Go.aload_n dX4_spells_28 rfl ?_
        refine Go.getR dX4_spells_29 flX4_18 rfl ?_
        refine Go.aload_n dX4_spells_32 rfl ?_
        refine Go.getI dX4_spells_33 flX4_34 rfl ?_
        refine Go.topE (y := nI b) h5 ?_
        refine Go.iload_n dX4_spells_36 rfl ?_
        refine Go.iaddN dX4_spells_37 ?_
        refine Go.at 38 rfl ?_
        refine Go.callVi 31 [vI (nI (b + 2))] [] dX4_spells_38 lkX4_96 (Or.inl ⟨_, _, _, rfl, rfl, rfl⟩) rfl (Nat.le_of_ble_eq_true rfl) rfl (Nat.le_of_ble_eq_true rfl) (c_byteAt hT (b + 2) (by omega)) ?_
        refine Go.aload_n dX4_spells_41 rfl ?_
        refine Go.iload_n dX4_spells_42 rfl ?_
        refine Go.callVi 202 [vI (nI 2)] [vI (nI (B (b + 2)))] dX4_spells_43 lkX4_99 (Or.inr ⟨1, by decide, rfl, rfl⟩) rfl (Nat.le_of_ble_eq_true rfl) rfl (Nat.le_of_ble_eq_true rfl) c_charAt_1_2 ?_
        refine Go.icmp_eq (tgt := 51) dX4_spells_46 (by decide) (fun g2 => ?_) (fun g2 => ?_)
        · -- 46 taken
          refine Go.iinc (v := nI 3) (ls' := [some (vR 33), some (vR 202), some (vI (nI 3))]) dX4_spells_51 rfl (by decide) (by decide) rfl ?_
          refine Go.goto (tgt := 20) dX4_spells_54 (by decide) ?_
          refine Go.iload_n dX4_spells_20 rfl ?_
          refine Go.aload_n dX4_spells_21 rfl ?_
          refine Go.callVi 202 [] [vI (nI 3)] dX4_spells_22 lkX4_92 (Or.inr ⟨1, by decide, rfl, rfl⟩) rfl (Nat.le_of_ble_eq_true rfl) rfl (Nat.le_of_ble_eq_true rfl) c_length_1 ?_
          refine Go.icmp_ge_f (tgt := 57) dX4_spells_25 (by decide) (by decide) ?_
          refine Go.at 28 rfl ?_
          refine Go.aload_n dX4_spells_28 rfl ?_
          refine Go.getR dX4_spells_29 flX4_18 rfl ?_
          refine Go.aload_n dX4_spells_32 rfl ?_
          refine Go.getI dX4_spells_33 flX4_34 rfl ?_
          refine Go.topE (y := nI b) h5 ?_
          refine Go.iload_n dX4_spells_36 rfl ?_
          refine Go.iaddN dX4_spells_37 ?_
          refine Go.at 38 rfl ?_
          refine Go.callVi 31 [vI (nI (b + 3))] [] dX4_spells_38 lkX4_96 (Or.inl ⟨_, _, _, rfl, rfl, rfl⟩) rfl (Nat.le_of_ble_eq_true rfl) rfl (Nat.le_of_ble_eq_true rfl) (c_byteAt hT (b + 3) (by omega)) ?_
          refine Go.aload_n dX4_spells_41 rfl ?_
          refine Go.iload_n dX4_spells_42 rfl ?_
          refine Go.callVi 202 [vI (nI 3)] [vI (nI (B (b + 3)))] dX4_spells_43 lkX4_99 (Or.inr ⟨1, by decide, rfl, rfl⟩) rfl (Nat.le_of_ble_eq_true rfl) rfl (Nat.le_of_ble_eq_true rfl) c_charAt_1_3 ?_
          refine Go.icmp_eq (tgt := 51) dX4_spells_46 (by decide) (fun g3 => ?_) (fun g3 => ?_)
          · -- 46 taken
            refine Go.iinc (v := nI 4) (ls' := [some (vR 33), some (vR 202), some (vI (nI 4))]) dX4_spells_51 rfl (by decide) (by decide) rfl ?_
            refine Go.goto (tgt := 20) dX4_spells_54 (by decide) ?_
            refine Go.iload_n dX4_spells_20 rfl ?_
            refine Go.aload_n dX4_spells_21 rfl ?_
            refine Go.callVi 202 [] [vI (nI 4)] dX4_spells_22 lkX4_92 (Or.inr ⟨1, by decide, rfl, rfl⟩) rfl (Nat.le_of_ble_eq_true rfl) rfl (Nat.le_of_ble_eq_true rfl) c_length_1 ?_
            refine Go.icmp_ge_t (tgt := 57) dX4_spells_25 (by decide) (by decide) ?_
            refine Go.at 57 rfl ?_
            refine Go.iconst (v := nI 1) dX4_spells_57 rfl ?_
            refine Go.ireturn .boolean dX4_spells_58 rfl rfl ?_
            exact ⟨congrArg (fun z => some (vI z)) (bI_t ⟨by have := hT.1; rw [sI_eq, nT, nT] at h13; omega, nI_inj g0 (hT.2.2 _ (by omega)).2, nI_inj g1 (hT.2.2 _ (by omega)).2, nI_inj g2 (hT.2.2 _ (by omega)).2, nI_inj g3 (hT.2.2 _ (by omega)).2⟩).symm, rfl⟩
          · -- 46 not
            refine Go.iconst (v := nI 0) dX4_spells_49 rfl ?_
            refine Go.ireturn .boolean dX4_spells_50 rfl rfl ?_
            exact ⟨congrArg (fun z => some (vI z)) (bI_f (fun z => g3 (congrArg nI (z.2.2.2.2)))).symm, rfl⟩
        · -- 46 not
          refine Go.iconst (v := nI 0) dX4_spells_49 rfl ?_
          refine Go.ireturn .boolean dX4_spells_50 rfl rfl ?_
          exact ⟨congrArg (fun z => some (vI z)) (bI_f (fun z => g2 (congrArg nI (z.2.2.2.1)))).symm, rfl⟩
      · -- 46 not
        refine Go.iconst (v := nI 0) dX4_spells_49 rfl ?_
        refine Go.ireturn .boolean dX4_spells_50 rfl rfl ?_
        exact ⟨congrArg (fun z => some (vI z)) (bI_f (fun z => g1 (congrArg nI (z.2.2.1)))).symm, rfl⟩
    · -- 46 not
      refine Go.iconst (v := nI 0) dX4_spells_49 rfl ?_
      refine Go.ireturn .boolean dX4_spells_50 rfl rfl ?_
      exact ⟨congrArg (fun z => some (vI z)) (bI_f (fun z => g0 (congrArg nI (z.2.1)))).symm, rfl⟩
  · -- 13 not
    refine Go.iconst (v := nI 0) dX4_spells_16 rfl ?_
    refine Go.ireturn .boolean dX4_spells_17 rfl rfl ?_
    exact ⟨congrArg (fun z => some (vI z)) (bI_f (fun z => h13 (by rw [show e - b = 4 by omega]))).symm, rfl⟩
theorem c_spells_2 {V : VV} {d : Nat} {μ : Memo} {N : Nat} {B : Nat → Nat} (hT : TpC μ N B) {b e : Nat} (hbe : b ≤ e) (heN : e ≤ N) (h5 : μ 33 5 = nI b) (h6 : μ 33 6 = nI e) : Ret V (d + 4) mX4_spells [vR 33, vR 203] μ (some (vI (bI (e = b + 4 ∧ B (b + 0) = 114 ∧ B (b + 1) = 111 ∧ B (b + 2) = 111 ∧ B (b + 3) = 109)))) μ := by
  show Go V (d + 4) mX4_spells 0 [some (vR 33), some (vR 203), none] [] μ _
  refine Go.aload_n dX4_spells_0 rfl ?_
  refine Go.getI dX4_spells_1 flX4_75 rfl ?_
  refine Go.topE (y := nI e) h6 ?_
  refine Go.aload_n dX4_spells_4 rfl ?_
  refine Go.getI dX4_spells_5 flX4_34 rfl ?_
  refine Go.topE (y := nI b) h5 ?_
  refine Go.isubN dX4_spells_8 hbe ?_
  refine Go.aload_n dX4_spells_9 rfl ?_
  refine Go.at 10 rfl ?_
  refine Go.callVi 203 [] [vI (nI (e - b))] dX4_spells_10 lkX4_92 (Or.inr ⟨2, by decide, rfl, rfl⟩) rfl (Nat.le_of_ble_eq_true rfl) rfl (Nat.le_of_ble_eq_true rfl) c_length_2 ?_
  refine Go.icmp_eq (tgt := 18) dX4_spells_13 (by decide) (fun h13 => ?_) (fun h13 => ?_)
  · -- 13 taken
    have he4 : e = b + 4 := by have := hT.1; rw [sI_eq, nT, nT] at h13; omega
    refine Go.iconst (v := nI 0) dX4_spells_18 rfl ?_
    refine Go.istore_n (ls' := [some (vR 33), some (vR 203), some (vI (nI 0))]) dX4_spells_19 (by decide) rfl ?_
    refine Go.iload_n dX4_spells_20 rfl ?_
    refine Go.aload_n dX4_spells_21 rfl ?_
    refine Go.callVi 203 [] [vI (nI 0)] dX4_spells_22 lkX4_92 (Or.inr ⟨2, by decide, rfl, rfl⟩) rfl (Nat.le_of_ble_eq_true rfl) rfl (Nat.le_of_ble_eq_true rfl) c_length_2 ?_
    refine Go.icmp_ge_f (tgt := 57) dX4_spells_25 (by decide) (by decide) ?_
    refine Go.at 28 rfl ?_
    refine Go.aload_n dX4_spells_28 rfl ?_
    refine Go.getR dX4_spells_29 flX4_18 rfl ?_
    refine Go.aload_n dX4_spells_32 rfl ?_
    refine Go.getI dX4_spells_33 flX4_34 rfl ?_
    refine Go.topE (y := nI b) h5 ?_
    refine Go.iload_n dX4_spells_36 rfl ?_
    refine Go.iaddN dX4_spells_37 ?_
    refine Go.at 38 rfl ?_
    refine Go.callVi 31 [vI (nI (b + 0))] [] dX4_spells_38 lkX4_96 (Or.inl ⟨_, _, _, rfl, rfl, rfl⟩) rfl (Nat.le_of_ble_eq_true rfl) rfl (Nat.le_of_ble_eq_true rfl) (c_byteAt hT (b + 0) (by omega)) ?_
    refine Go.aload_n dX4_spells_41 rfl ?_
    refine Go.iload_n dX4_spells_42 rfl ?_
    refine Go.callVi 203 [vI (nI 0)] [vI (nI (B (b + 0)))] dX4_spells_43 lkX4_99 (Or.inr ⟨2, by decide, rfl, rfl⟩) rfl (Nat.le_of_ble_eq_true rfl) rfl (Nat.le_of_ble_eq_true rfl) c_charAt_2_0 ?_
    refine Go.icmp_eq (tgt := 51) dX4_spells_46 (by decide) (fun g0 => ?_) (fun g0 => ?_)
    · -- 46 taken
      refine Go.iinc (v := nI 1) (ls' := [some (vR 33), some (vR 203), some (vI (nI 1))]) dX4_spells_51 rfl (by decide) (by decide) rfl ?_
      refine Go.goto (tgt := 20) dX4_spells_54 (by decide) ?_
      refine Go.iload_n dX4_spells_20 rfl ?_
      refine Go.aload_n dX4_spells_21 rfl ?_
      refine Go.callVi 203 [] [vI (nI 1)] dX4_spells_22 lkX4_92 (Or.inr ⟨2, by decide, rfl, rfl⟩) rfl (Nat.le_of_ble_eq_true rfl) rfl (Nat.le_of_ble_eq_true rfl) c_length_2 ?_
      refine Go.icmp_ge_f (tgt := 57) dX4_spells_25 (by decide) (by decide) ?_
      refine Go.at 28 rfl ?_
      refine Go.aload_n dX4_spells_28 rfl ?_
      refine Go.getR dX4_spells_29 flX4_18 rfl ?_
      refine Go.aload_n dX4_spells_32 rfl ?_
      refine Go.getI dX4_spells_33 flX4_34 rfl ?_
      refine Go.topE (y := nI b) h5 ?_
      refine Go.iload_n dX4_spells_36 rfl ?_
      refine Go.iaddN dX4_spells_37 ?_
      refine Go.at 38 rfl ?_
      refine Go.callVi 31 [vI (nI (b + 1))] [] dX4_spells_38 lkX4_96 (Or.inl ⟨_, _, _, rfl, rfl, rfl⟩) rfl (Nat.le_of_ble_eq_true rfl) rfl (Nat.le_of_ble_eq_true rfl) (c_byteAt hT (b + 1) (by omega)) ?_
      refine Go.aload_n dX4_spells_41 rfl ?_
      refine Go.iload_n dX4_spells_42 rfl ?_
      refine Go.callVi 203 [vI (nI 1)] [vI (nI (B (b + 1)))] dX4_spells_43 lkX4_99 (Or.inr ⟨2, by decide, rfl, rfl⟩) rfl (Nat.le_of_ble_eq_true rfl) rfl (Nat.le_of_ble_eq_true rfl) c_charAt_2_1 ?_
      refine Go.icmp_eq (tgt := 51) dX4_spells_46 (by decide) (fun g1 => ?_) (fun g1 => ?_)
      · -- 46 taken
        refine Go.iinc (v := nI 2) (ls' := [some (vR 33), some (vR 203), some (vI (nI 2))]) dX4_spells_51 rfl (by decide) (by decide) rfl ?_
        refine Go.goto (tgt := 20) dX4_spells_54 (by decide) ?_
        refine Go.iload_n dX4_spells_20 rfl ?_
        refine Go.aload_n dX4_spells_21 rfl ?_
        refine Go.callVi 203 [] [vI (nI 2)] dX4_spells_22 lkX4_92 (Or.inr ⟨2, by decide, rfl, rfl⟩) rfl (Nat.le_of_ble_eq_true rfl) rfl (Nat.le_of_ble_eq_true rfl) c_length_2 ?_
        refine Go.icmp_ge_f (tgt := 57) dX4_spells_25 (by decide) (by decide) ?_
        refine Go.at 28 rfl ?_
        refine Go.aload_n dX4_spells_28 rfl ?_
        refine Go.getR dX4_spells_29 flX4_18 rfl ?_
        refine Go.aload_n dX4_spells_32 rfl ?_
        refine Go.getI dX4_spells_33 flX4_34 rfl ?_
        refine Go.topE (y := nI b) h5 ?_
        refine Go.iload_n dX4_spells_36 rfl ?_
        refine Go.iaddN dX4_spells_37 ?_
        refine Go.at 38 rfl ?_
        refine Go.callVi 31 [vI (nI (b + 2))] [] dX4_spells_38 lkX4_96 (Or.inl ⟨_, _, _, rfl, rfl, rfl⟩) rfl (Nat.le_of_ble_eq_true rfl) rfl (Nat.le_of_ble_eq_true rfl) (c_byteAt hT (b + 2) (by omega)) ?_
        refine Go.aload_n dX4_spells_41 rfl ?_
        refine Go.iload_n dX4_spells_42 rfl ?_
        refine Go.callVi 203 [vI (nI 2)] [vI (nI (B (b + 2)))] dX4_spells_43 lkX4_99 (Or.inr ⟨2, by decide, rfl, rfl⟩) rfl (Nat.le_of_ble_eq_true rfl) rfl (Nat.le_of_ble_eq_true rfl) c_charAt_2_2 ?_
        refine Go.icmp_eq (tgt := 51) dX4_spells_46 (by decide) (fun g2 => ?_) (fun g2 => ?_)
        · -- 46 taken
          refine Go.iinc (v := nI 3) (ls' := [some (vR 33), some (vR 203), some (vI (nI 3))]) dX4_spells_51 rfl (by decide) (by decide) rfl ?_
          refine Go.goto (tgt := 20) dX4_spells_54 (by decide) ?_
          refine Go.iload_n dX4_spells_20 rfl ?_
          refine Go.aload_n dX4_spells_21 rfl ?_
          refine Go.callVi 203 [] [vI (nI 3)] dX4_spells_22 lkX4_92 (Or.inr ⟨2, by decide, rfl, rfl⟩) rfl (Nat.le_of_ble_eq_true rfl) rfl (Nat.le_of_ble_eq_true rfl) c_length_2 ?_
          refine Go.icmp_ge_f (tgt := 57) dX4_spells_25 (by decide) (by decide) ?_
          refine Go.at 28 rfl ?_
          refine Go.aload_n dX4_spells_28 rfl ?_
          refine Go.getR dX4_spells_29 flX4_18 rfl ?_
          refine Go.aload_n dX4_spells_32 rfl ?_
          refine Go.getI dX4_spells_33 flX4_34 rfl ?_
          refine Go.topE (y := nI b) h5 ?_
          refine Go.iload_n dX4_spells_36 rfl ?_
          refine Go.iaddN dX4_spells_37 ?_
          refine Go.at 38 rfl ?_
          refine Go.callVi 31 [vI (nI (b + 3))] [] dX4_spells_38 lkX4_96 (Or.inl ⟨_, _, _, rfl, rfl, rfl⟩) rfl (Nat.le_of_ble_eq_true rfl) rfl (Nat.le_of_ble_eq_true rfl) (c_byteAt hT (b + 3) (by omega)) ?_
          refine Go.aload_n dX4_spells_41 rfl ?_
          refine Go.iload_n dX4_spells_42 rfl ?_
          refine Go.callVi 203 [vI (nI 3)] [vI (nI (B (b + 3)))] dX4_spells_43 lkX4_99 (Or.inr ⟨2, by decide, rfl, rfl⟩) rfl (Nat.le_of_ble_eq_true rfl) rfl (Nat.le_of_ble_eq_true rfl) c_charAt_2_3 ?_
          refine Go.icmp_eq (tgt := 51) dX4_spells_46 (by decide) (fun g3 => ?_) (fun g3 => ?_)
          · -- 46 taken
            refine Go.iinc (v := nI 4) (ls' := [some (vR 33), some (vR 203), some (vI (nI 4))]) dX4_spells_51 rfl (by decide) (by decide) rfl ?_
            refine Go.goto (tgt := 20) dX4_spells_54 (by decide) ?_
            refine Go.iload_n dX4_spells_20 rfl ?_
            refine Go.aload_n dX4_spells_21 rfl ?_
            refine Go.callVi 203 [] [vI (nI 4)] dX4_spells_22 lkX4_92 (Or.inr ⟨2, by decide, rfl, rfl⟩) rfl (Nat.le_of_ble_eq_true rfl) rfl (Nat.le_of_ble_eq_true rfl) c_length_2 ?_
            refine Go.icmp_ge_t (tgt := 57) dX4_spells_25 (by decide) (by decide) ?_
            refine Go.at 57 rfl ?_
            refine Go.iconst (v := nI 1) dX4_spells_57 rfl ?_
            refine Go.ireturn .boolean dX4_spells_58 rfl rfl ?_
            exact ⟨congrArg (fun z => some (vI z)) (bI_t ⟨by have := hT.1; rw [sI_eq, nT, nT] at h13; omega, nI_inj g0 (hT.2.2 _ (by omega)).2, nI_inj g1 (hT.2.2 _ (by omega)).2, nI_inj g2 (hT.2.2 _ (by omega)).2, nI_inj g3 (hT.2.2 _ (by omega)).2⟩).symm, rfl⟩
          · -- 46 not
            refine Go.iconst (v := nI 0) dX4_spells_49 rfl ?_
            refine Go.ireturn .boolean dX4_spells_50 rfl rfl ?_
            exact ⟨congrArg (fun z => some (vI z)) (bI_f (fun z => g3 (congrArg nI (z.2.2.2.2)))).symm, rfl⟩
        · -- 46 not
          refine Go.iconst (v := nI 0) dX4_spells_49 rfl ?_
          refine Go.ireturn .boolean dX4_spells_50 rfl rfl ?_
          exact ⟨congrArg (fun z => some (vI z)) (bI_f (fun z => g2 (congrArg nI (z.2.2.2.1)))).symm, rfl⟩
      · -- 46 not
        refine Go.iconst (v := nI 0) dX4_spells_49 rfl ?_
        refine Go.ireturn .boolean dX4_spells_50 rfl rfl ?_
        exact ⟨congrArg (fun z => some (vI z)) (bI_f (fun z => g1 (congrArg nI (z.2.2.1)))).symm, rfl⟩
    · -- 46 not
      refine Go.iconst (v := nI 0) dX4_spells_49 rfl ?_
      refine Go.ireturn .boolean dX4_spells_50 rfl rfl ?_
      exact ⟨congrArg (fun z => some (vI z)) (bI_f (fun z => g0 (congrArg nI (z.2.1)))).symm, rfl⟩
  · -- 13 not
    refine Go.iconst (v := nI 0) dX4_spells_16 rfl ?_
    refine Go.ireturn .boolean dX4_spells_17 rfl rfl ?_
    exact ⟨congrArg (fun z => some (vI z)) (bI_f (fun z => h13 (by rw [show e - b = 4 by omega]))).symm, rfl⟩
def keyW (B : Nat → Nat) (b e : Nat) : Option Nat := if e = b + 4 ∧ B (b + 0) = 116 ∧ B (b + 1) = 105 ∧ B (b + 2) = 100 ∧ B (b + 3) = 101 then some 0 else if e = b + 4 ∧ B (b + 0) = 103 ∧ B (b + 1) = 114 ∧ B (b + 2) = 111 ∧ B (b + 3) = 119 then some 1 else if e = b + 4 ∧ B (b + 0) = 114 ∧ B (b + 1) = 111 ∧ B (b + 2) = 111 ∧ B (b + 3) = 109 then some 2 else none
theorem c_keyHere {V : VV} {d : Nat} {μ : Memo} {N : Nat} {B : Nat → Nat} (hT : TpC μ N B) {b e : Nat} (hbe : b ≤ e) (heN : e ≤ N) (h5 : μ 33 5 = nI b) (h6 : μ 33 6 = nI e) : Ret V (d + 5) mX4_keyHere [vR 33] μ (some (vI (oN (oI (keyW B b e))))) μ := by
  show Go V (d + 5) mX4_keyHere 0 [some (vR 33)] [] μ _
  refine Go.aload_n dX4_keyHere_0 rfl ?_
  refine Go.ldcS 0 dX4_keyHere_1 (by decide) rfl rfl ?_
  refine Go.callVi 33 [vR 201] [] dX4_keyHere_3 lkX4_84 (Or.inl ⟨_, _, _, rfl, rfl, rfl⟩) rfl (Nat.le_of_ble_eq_true rfl) rfl (Nat.le_of_ble_eq_true rfl) (c_spells_0 hT hbe heN h5 h6) ?_
  refine Go.if_eqb (tgt := 11) dX4_keyHere_6 (by decide) (fun h6_ => ?_) (fun h6_ => ?_)
  · -- 6 taken
    refine Go.aload_n dX4_keyHere_11 rfl ?_
    refine Go.ldcS 1 dX4_keyHere_12 (by decide) rfl rfl ?_
    refine Go.callVi 33 [vR 202] [] dX4_keyHere_14 lkX4_84 (Or.inl ⟨_, _, _, rfl, rfl, rfl⟩) rfl (Nat.le_of_ble_eq_true rfl) rfl (Nat.le_of_ble_eq_true rfl) (c_spells_1 hT hbe heN h5 h6) ?_
    refine Go.if_eqb (tgt := 22) dX4_keyHere_17 (by decide) (fun h17 => ?_) (fun h17 => ?_)
    · -- 17 taken
      refine Go.aload_n dX4_keyHere_22 rfl ?_
      refine Go.ldcS 2 dX4_keyHere_23 (by decide) rfl rfl ?_
      refine Go.callVi 33 [vR 203] [] dX4_keyHere_25 lkX4_84 (Or.inl ⟨_, _, _, rfl, rfl, rfl⟩) rfl (Nat.le_of_ble_eq_true rfl) rfl (Nat.le_of_ble_eq_true rfl) (c_spells_2 hT hbe heN h5 h6) ?_
      refine Go.if_eqb (tgt := 35) dX4_keyHere_28 (by decide) (fun h28 => ?_) (fun h28 => ?_)
      · -- 28 taken
        refine Go.ldc dX4_keyHere_35 cnX4_33 ?_
        refine Go.ireturn .int dX4_keyHere_37 rfl rfl ?_
        exact ⟨congrArg (fun z => some (vI z)) (by unfold keyW; rw [if_neg h6_, if_neg h17, if_neg h28]; decide), rfl⟩
      · -- 28 not
        refine Go.iconst (v := nI 2) dX4_keyHere_31 rfl ?_
        refine Go.goto (tgt := 37) dX4_keyHere_32 (by decide) ?_
        refine Go.ireturn .int dX4_keyHere_37 rfl rfl ?_
        exact ⟨congrArg (fun z => some (vI z)) (by unfold keyW; rw [if_neg h6_, if_neg h17, if_pos h28]; decide), rfl⟩
    · -- 17 not
      refine Go.iconst (v := nI 1) dX4_keyHere_20 rfl ?_
      refine Go.ireturn .int dX4_keyHere_21 rfl rfl ?_
      exact ⟨congrArg (fun z => some (vI z)) (by unfold keyW; rw [if_neg h6_, if_pos h17]; decide), rfl⟩
  · -- 6 not
    refine Go.iconst (v := nI 0) dX4_keyHere_9 rfl ?_
    refine Go.ireturn .int dX4_keyHere_10 rfl rfl ?_
    exact ⟨congrArg (fun z => some (vI z)) (by unfold keyW; rw [if_pos h6_]; decide), rfl⟩
