theorem nb0 (c : Nat) : nbO c 0 = if c + 6 < 30 then some (c + 6) else none := rfl
theorem nb1 (c : Nat) : nbO c 1 = if c % 6 = 5 then none else some (c + 1) := rfl
theorem nb2 (c : Nat) : nbO c 2 = if 6 ≤ c then some (c - 6) else none := rfl
theorem nb3 (c : Nat) : nbO c 3 = if c % 6 = 0 then none else some (c - 1) := rfl
theorem oNo_n : oN (oI none) = (-1000000005) := by decide
theorem oNo_s {q : Nat} (h : q < 1000) : oN (oI (some q)) = nI q := oN_nI (by omega)
theorem c_beside_0 {V : VV} {d : Nat} {μ : Memo} (c : Nat) (hc : c < 30) : Ret V (d) mX0_beside [vI (nI c), vI (nI 0)] μ (some (vI (oN (oI (nbO c 0))))) μ := by
  show Go V (d) mX0_beside 0 [some (vI (nI c)), some (vI (nI 0)), none] [] μ _
  refine Go.iload_n dX0_beside_0 rfl ?_
  refine Go.bipush (v := nI 6) dX0_beside_1 rfl ?_
  refine Go.iremE dX0_beside_3 (by decide) ?_
  refine Go.topE (y := nI (c % 6)) (pk_rem (by omega) (by decide) (by decide)) ?_
  refine Go.istore_n (ls' := [some (vI (nI c)), some (vI (nI 0)), some (vI (nI (c % 6)))]) dX0_beside_4 (by decide) rfl ?_
  refine Go.iload_n dX0_beside_5 rfl ?_
  refine Go.tsw (tgt := 36) (nI 0) rfl dX0_beside_6 (by decide) (by decide) rfl (by decide) ?_
  refine Go.iload_n dX0_beside_36 rfl ?_
  refine Go.bipush (v := nI 6) dX0_beside_37 rfl ?_
  refine Go.iaddN dX0_beside_39 ?_
  refine Go.bipush (v := nI 30) dX0_beside_40 rfl ?_
  refine Go.icmp_ge (tgt := 52) dX0_beside_42 (by decide) (fun h42 => ?_) (fun h42 => ?_)
  · -- 42 taken
    refine Go.ldc dX0_beside_52 cnX0_22 ?_
    refine Go.ireturn .int dX0_beside_54 rfl rfl ?_
    exact ⟨congrArg (fun z => some (vI z)) (by first | rw [nb0, if_pos (by (try simp only [sI_lt, sI_le, sI_eq, nT, Int32.toInt_zero] at *); omega), oNo_n] | rw [nb0, if_neg (by (try simp only [sI_lt, sI_le, sI_eq, nT, Int32.toInt_zero] at *); omega), oNo_n]), rfl⟩
  · -- 42 not
    refine Go.iload_n dX0_beside_45 rfl ?_
    refine Go.bipush (v := nI 6) dX0_beside_46 rfl ?_
    refine Go.iaddN dX0_beside_48 ?_
    refine Go.goto (tgt := 54) dX0_beside_49 (by decide) ?_
    refine Go.ireturn .int dX0_beside_54 rfl rfl ?_
    exact ⟨congrArg (fun z => some (vI z)) (by first | rw [nb0, if_pos (by (try simp only [sI_lt, sI_le, sI_eq, nT, Int32.toInt_zero] at *); omega), oNo_s (by omega)] | rw [nb0, if_neg (by (try simp only [sI_lt, sI_le, sI_eq, nT, Int32.toInt_zero] at *); omega), oNo_s (by omega)]), rfl⟩
theorem c_beside_1 {V : VV} {d : Nat} {μ : Memo} (c : Nat) (hc : c < 30) : Ret V (d) mX0_beside [vI (nI c), vI (nI 1)] μ (some (vI (oN (oI (nbO c 1))))) μ := by
  show Go V (d) mX0_beside 0 [some (vI (nI c)), some (vI (nI 1)), none] [] μ _
  refine Go.iload_n dX0_beside_0 rfl ?_
  refine Go.bipush (v := nI 6) dX0_beside_1 rfl ?_
  refine Go.iremE dX0_beside_3 (by decide) ?_
  refine Go.topE (y := nI (c % 6)) (pk_rem (by omega) (by decide) (by decide)) ?_
  refine Go.istore_n (ls' := [some (vI (nI c)), some (vI (nI 1)), some (vI (nI (c % 6)))]) dX0_beside_4 (by decide) rfl ?_
  refine Go.iload_n dX0_beside_5 rfl ?_
  refine Go.tsw (tgt := 55) (nI 1) rfl dX0_beside_6 (by decide) (by decide) rfl (by decide) ?_
  refine Go.iload_n dX0_beside_55 rfl ?_
  refine Go.iconst (v := nI 5) dX0_beside_56 rfl ?_
  refine Go.icmp_ge (tgt := 66) dX0_beside_57 (by decide) (fun h57 => ?_) (fun h57 => ?_)
  · -- 57 taken
    refine Go.ldc dX0_beside_66 cnX0_22 ?_
    refine Go.ireturn .int dX0_beside_68 rfl rfl ?_
    exact ⟨congrArg (fun z => some (vI z)) (by first | rw [nb1, if_pos (by (try simp only [sI_lt, sI_le, sI_eq, nT, Int32.toInt_zero] at *); omega), oNo_n] | rw [nb1, if_neg (by (try simp only [sI_lt, sI_le, sI_eq, nT, Int32.toInt_zero] at *); omega), oNo_n]), rfl⟩
  · -- 57 not
    refine Go.iload_n dX0_beside_60 rfl ?_
    refine Go.iconst (v := nI 1) dX0_beside_61 rfl ?_
    refine Go.iaddN dX0_beside_62 ?_
    refine Go.goto (tgt := 68) dX0_beside_63 (by decide) ?_
    refine Go.ireturn .int dX0_beside_68 rfl rfl ?_
    exact ⟨congrArg (fun z => some (vI z)) (by first | rw [nb1, if_pos (by (try simp only [sI_lt, sI_le, sI_eq, nT, Int32.toInt_zero] at *); omega), oNo_s (by omega)] | rw [nb1, if_neg (by (try simp only [sI_lt, sI_le, sI_eq, nT, Int32.toInt_zero] at *); omega), oNo_s (by omega)]), rfl⟩
theorem c_beside_2 {V : VV} {d : Nat} {μ : Memo} (c : Nat) (hc : c < 30) : Ret V (d) mX0_beside [vI (nI c), vI (nI 2)] μ (some (vI (oN (oI (nbO c 2))))) μ := by
  show Go V (d) mX0_beside 0 [some (vI (nI c)), some (vI (nI 2)), none] [] μ _
  refine Go.iload_n dX0_beside_0 rfl ?_
  refine Go.bipush (v := nI 6) dX0_beside_1 rfl ?_
  refine Go.iremE dX0_beside_3 (by decide) ?_
  refine Go.topE (y := nI (c % 6)) (pk_rem (by omega) (by decide) (by decide)) ?_
  refine Go.istore_n (ls' := [some (vI (nI c)), some (vI (nI 2)), some (vI (nI (c % 6)))]) dX0_beside_4 (by decide) rfl ?_
  refine Go.iload_n dX0_beside_5 rfl ?_
  refine Go.tsw (tgt := 69) (nI 2) rfl dX0_beside_6 (by decide) (by decide) rfl (by decide) ?_
  refine Go.iload_n dX0_beside_69 rfl ?_
  refine Go.bipush (v := nI 6) dX0_beside_70 rfl ?_
  refine Go.icmp_lt (tgt := 82) dX0_beside_72 (by decide) (fun h72 => ?_) (fun h72 => ?_)
  · -- 72 taken
    refine Go.ldc dX0_beside_82 cnX0_22 ?_
    refine Go.ireturn .int dX0_beside_84 rfl rfl ?_
    exact ⟨congrArg (fun z => some (vI z)) (by first | rw [nb2, if_pos (by (try simp only [sI_lt, sI_le, sI_eq, nT, Int32.toInt_zero] at *); omega), oNo_n] | rw [nb2, if_neg (by (try simp only [sI_lt, sI_le, sI_eq, nT, Int32.toInt_zero] at *); omega), oNo_n]), rfl⟩
  · -- 72 not
    refine Go.iload_n dX0_beside_75 rfl ?_
    refine Go.bipush (v := nI 6) dX0_beside_76 rfl ?_
    refine Go.isubN dX0_beside_78 (by (try simp only [sI_lt, sI_le, sI_eq, nT, Int32.toInt_zero] at *); omega) ?_
    refine Go.goto (tgt := 84) dX0_beside_79 (by decide) ?_
    refine Go.ireturn .int dX0_beside_84 rfl rfl ?_
    exact ⟨congrArg (fun z => some (vI z)) (by first | rw [nb2, if_pos (by (try simp only [sI_lt, sI_le, sI_eq, nT, Int32.toInt_zero] at *); omega), oNo_s (by omega)] | rw [nb2, if_neg (by (try simp only [sI_lt, sI_le, sI_eq, nT, Int32.toInt_zero] at *); omega), oNo_s (by omega)]), rfl⟩
theorem c_beside_3 {V : VV} {d : Nat} {μ : Memo} (c : Nat) (hc : c < 30) : Ret V (d) mX0_beside [vI (nI c), vI (nI 3)] μ (some (vI (oN (oI (nbO c 3))))) μ := by
  show Go V (d) mX0_beside 0 [some (vI (nI c)), some (vI (nI 3)), none] [] μ _
  refine Go.iload_n dX0_beside_0 rfl ?_
  refine Go.bipush (v := nI 6) dX0_beside_1 rfl ?_
  refine Go.iremE dX0_beside_3 (by decide) ?_
  refine Go.topE (y := nI (c % 6)) (pk_rem (by omega) (by decide) (by decide)) ?_
  refine Go.istore_n (ls' := [some (vI (nI c)), some (vI (nI 3)), some (vI (nI (c % 6)))]) dX0_beside_4 (by decide) rfl ?_
  refine Go.iload_n dX0_beside_5 rfl ?_
  refine Go.tsw (tgt := 85) (nI 3) rfl dX0_beside_6 (by decide) (by decide) rfl (by decide) ?_
  refine Go.iload_n dX0_beside_85 rfl ?_
  refine Go.if_le (tgt := 95) dX0_beside_86 (by decide) (fun h86 => ?_) (fun h86 => ?_)
  · -- 86 taken
    refine Go.ldc dX0_beside_95 cnX0_22 ?_
    refine Go.ireturn .int dX0_beside_97 rfl rfl ?_
    exact ⟨congrArg (fun z => some (vI z)) (by first | rw [nb3, if_pos (by (try simp only [sI_lt, sI_le, sI_eq, nT, Int32.toInt_zero] at *); omega), oNo_n] | rw [nb3, if_neg (by (try simp only [sI_lt, sI_le, sI_eq, nT, Int32.toInt_zero] at *); omega), oNo_n]), rfl⟩
  · -- 86 not
    refine Go.iload_n dX0_beside_89 rfl ?_
    refine Go.iconst (v := nI 1) dX0_beside_90 rfl ?_
    refine Go.isubN dX0_beside_91 (by (try simp only [sI_lt, sI_le, sI_eq, nT, Int32.toInt_zero] at *); omega) ?_
    refine Go.goto (tgt := 97) dX0_beside_92 (by decide) ?_
    refine Go.ireturn .int dX0_beside_97 rfl rfl ?_
    exact ⟨congrArg (fun z => some (vI z)) (by first | rw [nb3, if_pos (by (try simp only [sI_lt, sI_le, sI_eq, nT, Int32.toInt_zero] at *); omega), oNo_s (by omega)] | rw [nb3, if_neg (by (try simp only [sI_lt, sI_le, sI_eq, nT, Int32.toInt_zero] at *); omega), oNo_s (by omega)]), rfl⟩
theorem c_beside {V : VV} {d : Nat} {μ : Memo} (c i : Nat) (hc : c < 30) (hi : i < 4) : Ret V d mX0_beside [vI (nI c), vI (nI i)] μ (some (vI (oN (oI (nbO c i))))) μ := by
  have : i = 0 ∨ i = 1 ∨ i = 2 ∨ i = 3 := by omega
  rcases this with rfl | rfl | rfl | rfl
  · exact c_beside_0 c hc
  · exact c_beside_1 c hc
  · exact c_beside_2 c hc
  · exact c_beside_3 c hc
theorem m_beside_0 {V : VV} {d : Nat} {μ : Memo} (c : Nat) (hc : c < 30) : Ret V (d + 1) mX9_beside [vI (nI c), vI (nI 0)] μ (some (vI (oI (nbO c 0)))) μ := by
  show Go V (d + 1) mX9_beside 0 [some (vI (nI c)), some (vI (nI 0)), none, none] [] μ _
  refine Go.iload_n dX9_beside_0 rfl ?_
  refine Go.bipush (v := nI 6) dX9_beside_1 rfl ?_
  refine Go.iremE dX9_beside_3 (by decide) ?_
  refine Go.topE (y := nI (c % 6)) (pk_rem (by omega) (by decide) (by decide)) ?_
  refine Go.istore_n (ls' := [some (vI (nI c)), some (vI (nI 0)), some (vI (nI (c % 6))), none]) dX9_beside_4 (by decide) rfl ?_
  refine Go.iload_n dX9_beside_5 rfl ?_
  refine Go.if_ne_f (tgt := 16) dX9_beside_6 (by decide) (by decide) ?_
  refine Go.at 9 rfl ?_
  refine Go.iload_n dX9_beside_9 rfl ?_
  refine Go.bipush (v := nI 6) dX9_beside_10 rfl ?_
  refine Go.iaddN dX9_beside_12 ?_
  refine Go.goto (tgt := 59) dX9_beside_13 (by decide) ?_
  refine Go.istore_n (ls' := [some (vI (nI c)), some (vI (nI 0)), some (vI (nI (c % 6))), some (vI (nI (c + 6)))]) dX9_beside_59 (by decide) rfl ?_
  refine Go.iload_n dX9_beside_60 rfl ?_
  refine Go.at 61 rfl ?_
  refine Go.callSi [vI (nI (c + 6))] [] dX9_beside_61 lkX9_90 rfl (Nat.le_of_ble_eq_true rfl) rfl (Nat.le_of_ble_eq_true rfl) (m_isCell (nI (c + 6))) ?_
  refine Go.if_eqb (tgt := 71) dX9_beside_64 (by decide) (fun h64 => ?_) (fun h64 => ?_)
  · -- 64 taken
    refine Go.iconst (v := (-1)) dX9_beside_71 rfl ?_
    refine Go.ireturn .int dX9_beside_72 rfl rfl ?_
    exact ⟨congrArg (fun z => some (vI z)) (by first | (rw [nb0, if_pos (by (try simp only [sI_lt, sI_le, sI_eq, tI_sub, tI_n1, nT, Int32.toInt_zero] at *); omega)]; rfl) | (rw [nb0, if_neg (by (try simp only [sI_lt, sI_le, sI_eq, tI_sub, tI_n1, nT, Int32.toInt_zero] at *); omega)]; rfl)), rfl⟩
  · -- 64 not
    refine Go.iload_n dX9_beside_67 rfl ?_
    refine Go.goto (tgt := 72) dX9_beside_68 (by decide) ?_
    refine Go.ireturn .int dX9_beside_72 rfl rfl ?_
    exact ⟨congrArg (fun z => some (vI z)) (by first | (rw [nb0, if_pos (by (try simp only [sI_lt, sI_le, sI_eq, tI_sub, tI_n1, nT, Int32.toInt_zero] at *); omega)]; (show _ = nI _; first | with_reducible rfl | exact pk_sub (by (try simp only [sI_lt, sI_le, sI_eq, tI_sub, tI_n1, nT, Int32.toInt_zero] at *); omega))) | (rw [nb0, if_neg (by (try simp only [sI_lt, sI_le, sI_eq, tI_sub, tI_n1, nT, Int32.toInt_zero] at *); omega)]; (show _ = nI _; first | with_reducible rfl | exact pk_sub (by (try simp only [sI_lt, sI_le, sI_eq, tI_sub, tI_n1, nT, Int32.toInt_zero] at *); omega)))), rfl⟩
theorem m_beside_1 {V : VV} {d : Nat} {μ : Memo} (c : Nat) (hc : c < 30) : Ret V (d + 1) mX9_beside [vI (nI c), vI (nI 1)] μ (some (vI (oI (nbO c 1)))) μ := by
  show Go V (d + 1) mX9_beside 0 [some (vI (nI c)), some (vI (nI 1)), none, none] [] μ _
  refine Go.iload_n dX9_beside_0 rfl ?_
  refine Go.bipush (v := nI 6) dX9_beside_1 rfl ?_
  refine Go.iremE dX9_beside_3 (by decide) ?_
  refine Go.topE (y := nI (c % 6)) (pk_rem (by omega) (by decide) (by decide)) ?_
  refine Go.istore_n (ls' := [some (vI (nI c)), some (vI (nI 1)), some (vI (nI (c % 6))), none]) dX9_beside_4 (by decide) rfl ?_
  refine Go.iload_n dX9_beside_5 rfl ?_
  refine Go.if_ne_t (tgt := 16) dX9_beside_6 (by decide) (by decide) ?_
  refine Go.at 16 rfl ?_
  refine Go.iload_n dX9_beside_16 rfl ?_
  refine Go.iconst (v := nI 1) dX9_beside_17 rfl ?_
  refine Go.icmp_ne_f (tgt := 36) dX9_beside_18 (by decide) (by decide) ?_
  refine Go.iload_n dX9_beside_21 rfl ?_
  refine Go.iconst (v := nI 5) dX9_beside_22 rfl ?_
  refine Go.icmp_ne (tgt := 30) dX9_beside_23 (by decide) (fun h23 => ?_) (fun h23 => ?_)
  · -- 23 taken
    refine Go.iload_n dX9_beside_30 rfl ?_
    refine Go.iconst (v := nI 1) dX9_beside_31 rfl ?_
    refine Go.iaddN dX9_beside_32 ?_
    refine Go.goto (tgt := 59) dX9_beside_33 (by decide) ?_
    refine Go.istore_n (ls' := [some (vI (nI c)), some (vI (nI 1)), some (vI (nI (c % 6))), some (vI (nI (c + 1)))]) dX9_beside_59 (by decide) rfl ?_
    refine Go.iload_n dX9_beside_60 rfl ?_
    refine Go.at 61 rfl ?_
    refine Go.callSi [vI (nI (c + 1))] [] dX9_beside_61 lkX9_90 rfl (Nat.le_of_ble_eq_true rfl) rfl (Nat.le_of_ble_eq_true rfl) (m_isCell (nI (c + 1))) ?_
    refine Go.if_eqb (tgt := 71) dX9_beside_64 (by decide) (fun h64 => ?_) (fun h64 => ?_)
    · -- 64 taken
      refine Go.iconst (v := (-1)) dX9_beside_71 rfl ?_
      refine Go.ireturn .int dX9_beside_72 rfl rfl ?_
      exact ⟨congrArg (fun z => some (vI z)) (by first | (rw [nb1, if_pos (by (try simp only [sI_lt, sI_le, sI_eq, tI_sub, tI_n1, nT, Int32.toInt_zero] at *); omega)]; rfl) | (rw [nb1, if_neg (by (try simp only [sI_lt, sI_le, sI_eq, tI_sub, tI_n1, nT, Int32.toInt_zero] at *); omega)]; rfl)), rfl⟩
    · -- 64 not
      refine Go.iload_n dX9_beside_67 rfl ?_
      refine Go.goto (tgt := 72) dX9_beside_68 (by decide) ?_
      refine Go.ireturn .int dX9_beside_72 rfl rfl ?_
      exact ⟨congrArg (fun z => some (vI z)) (by first | (rw [nb1, if_pos (by (try simp only [sI_lt, sI_le, sI_eq, tI_sub, tI_n1, nT, Int32.toInt_zero] at *); omega)]; (show _ = nI _; first | with_reducible rfl | exact pk_sub (by (try simp only [sI_lt, sI_le, sI_eq, tI_sub, tI_n1, nT, Int32.toInt_zero] at *); omega))) | (rw [nb1, if_neg (by (try simp only [sI_lt, sI_le, sI_eq, tI_sub, tI_n1, nT, Int32.toInt_zero] at *); omega)]; (show _ = nI _; first | with_reducible rfl | exact pk_sub (by (try simp only [sI_lt, sI_le, sI_eq, tI_sub, tI_n1, nT, Int32.toInt_zero] at *); omega)))), rfl⟩
  · -- 23 not
    refine Go.iconst (v := (-1)) dX9_beside_26 rfl ?_
    refine Go.goto (tgt := 59) dX9_beside_27 (by decide) ?_
    refine Go.istore_n (ls' := [some (vI (nI c)), some (vI (nI 1)), some (vI (nI (c % 6))), some (vI (-1))]) dX9_beside_59 (by decide) rfl ?_
    refine Go.iload_n dX9_beside_60 rfl ?_
    refine Go.callSi [vI (-1)] [] dX9_beside_61 lkX9_90 rfl (Nat.le_of_ble_eq_true rfl) rfl (Nat.le_of_ble_eq_true rfl) (m_isCell (-1)) ?_
    refine Go.if_eqb (tgt := 71) dX9_beside_64 (by decide) (fun h64 => ?_) (fun h64 => ?_)
    · -- 64 taken
      refine Go.iconst (v := (-1)) dX9_beside_71 rfl ?_
      refine Go.ireturn .int dX9_beside_72 rfl rfl ?_
      exact ⟨congrArg (fun z => some (vI z)) (by first | (rw [nb1, if_pos (by (try simp only [sI_lt, sI_le, sI_eq, tI_sub, tI_n1, nT, Int32.toInt_zero] at *); omega)]; rfl) | (rw [nb1, if_neg (by (try simp only [sI_lt, sI_le, sI_eq, tI_sub, tI_n1, nT, Int32.toInt_zero] at *); omega)]; rfl)), rfl⟩
    · -- 64 not
      refine Go.iload_n dX9_beside_67 rfl ?_
      refine Go.goto (tgt := 72) dX9_beside_68 (by decide) ?_
      refine Go.ireturn .int dX9_beside_72 rfl rfl ?_
      exact ⟨congrArg (fun z => some (vI z)) (by first | (rw [nb1, if_pos (by (try simp only [sI_lt, sI_le, sI_eq, tI_sub, tI_n1, nT, Int32.toInt_zero] at *); omega)]; rfl) | (rw [nb1, if_neg (by (try simp only [sI_lt, sI_le, sI_eq, tI_sub, tI_n1, nT, Int32.toInt_zero] at *); omega)]; rfl)), rfl⟩
theorem m_beside_2 {V : VV} {d : Nat} {μ : Memo} (c : Nat) (hc : c < 30) : Ret V (d + 1) mX9_beside [vI (nI c), vI (nI 2)] μ (some (vI (oI (nbO c 2)))) μ := by
  show Go V (d + 1) mX9_beside 0 [some (vI (nI c)), some (vI (nI 2)), none, none] [] μ _
  refine Go.iload_n dX9_beside_0 rfl ?_
  refine Go.bipush (v := nI 6) dX9_beside_1 rfl ?_
  refine Go.iremE dX9_beside_3 (by decide) ?_
  refine Go.topE (y := nI (c % 6)) (pk_rem (by omega) (by decide) (by decide)) ?_
  refine Go.istore_n (ls' := [some (vI (nI c)), some (vI (nI 2)), some (vI (nI (c % 6))), none]) dX9_beside_4 (by decide) rfl ?_
  refine Go.iload_n dX9_beside_5 rfl ?_
  refine Go.if_ne_t (tgt := 16) dX9_beside_6 (by decide) (by decide) ?_
  refine Go.at 16 rfl ?_
  refine Go.iload_n dX9_beside_16 rfl ?_
  refine Go.iconst (v := nI 1) dX9_beside_17 rfl ?_
  refine Go.icmp_ne_t (tgt := 36) dX9_beside_18 (by decide) (by decide) ?_
  refine Go.iload_n dX9_beside_36 rfl ?_
  refine Go.iconst (v := nI 2) dX9_beside_37 rfl ?_
  refine Go.icmp_ne_f (tgt := 48) dX9_beside_38 (by decide) (by decide) ?_
  refine Go.at 41 rfl ?_
  refine Go.iload_n dX9_beside_41 rfl ?_
  refine Go.bipush (v := nI 6) dX9_beside_42 rfl ?_
  refine Go.isub dX9_beside_44 ?_
  refine Go.goto (tgt := 59) dX9_beside_45 (by decide) ?_
  refine Go.istore_n (ls' := [some (vI (nI c)), some (vI (nI 2)), some (vI (nI (c % 6))), some (vI ((nI c) - (nI 6)))]) dX9_beside_59 (by decide) rfl ?_
  refine Go.iload_n dX9_beside_60 rfl ?_
  refine Go.at 61 rfl ?_
  refine Go.callSi [vI ((nI c) - (nI 6))] [] dX9_beside_61 lkX9_90 rfl (Nat.le_of_ble_eq_true rfl) rfl (Nat.le_of_ble_eq_true rfl) (m_isCell ((nI c) - (nI 6))) ?_
  refine Go.if_eqb (tgt := 71) dX9_beside_64 (by decide) (fun h64 => ?_) (fun h64 => ?_)
  · -- 64 taken
    refine Go.iconst (v := (-1)) dX9_beside_71 rfl ?_
    refine Go.ireturn .int dX9_beside_72 rfl rfl ?_
    exact ⟨congrArg (fun z => some (vI z)) (by first | (rw [nb2, if_pos (by (try simp only [sI_lt, sI_le, sI_eq, tI_sub, tI_n1, nT, Int32.toInt_zero] at *); omega)]; rfl) | (rw [nb2, if_neg (by (try simp only [sI_lt, sI_le, sI_eq, tI_sub, tI_n1, nT, Int32.toInt_zero] at *); omega)]; rfl)), rfl⟩
  · -- 64 not
    refine Go.iload_n dX9_beside_67 rfl ?_
    refine Go.goto (tgt := 72) dX9_beside_68 (by decide) ?_
    refine Go.ireturn .int dX9_beside_72 rfl rfl ?_
    exact ⟨congrArg (fun z => some (vI z)) (by first | (rw [nb2, if_pos (by (try simp only [sI_lt, sI_le, sI_eq, tI_sub, tI_n1, nT, Int32.toInt_zero] at *); omega)]; (show _ = nI _; first | with_reducible rfl | exact pk_sub (by (try simp only [sI_lt, sI_le, sI_eq, tI_sub, tI_n1, nT, Int32.toInt_zero] at *); omega))) | (rw [nb2, if_neg (by (try simp only [sI_lt, sI_le, sI_eq, tI_sub, tI_n1, nT, Int32.toInt_zero] at *); omega)]; (show _ = nI _; first | with_reducible rfl | exact pk_sub (by (try simp only [sI_lt, sI_le, sI_eq, tI_sub, tI_n1, nT, Int32.toInt_zero] at *); omega)))), rfl⟩
theorem m_beside_3 {V : VV} {d : Nat} {μ : Memo} (c : Nat) (hc : c < 30) : Ret V (d + 1) mX9_beside [vI (nI c), vI (nI 3)] μ (some (vI (oI (nbO c 3)))) μ := by
  show Go V (d + 1) mX9_beside 0 [some (vI (nI c)), some (vI (nI 3)), none, none] [] μ _
  refine Go.iload_n dX9_beside_0 rfl ?_
  refine Go.bipush (v := nI 6) dX9_beside_1 rfl ?_
  refine Go.iremE dX9_beside_3 (by decide) ?_
  refine Go.topE (y := nI (c % 6)) (pk_rem (by omega) (by decide) (by decide)) ?_
  refine Go.istore_n (ls' := [some (vI (nI c)), some (vI (nI 3)), some (vI (nI (c % 6))), none]) dX9_beside_4 (by decide) rfl ?_
  refine Go.iload_n dX9_beside_5 rfl ?_
  refine Go.if_ne_t (tgt := 16) dX9_beside_6 (by decide) (by decide) ?_
  refine Go.at 16 rfl ?_
  refine Go.iload_n dX9_beside_16 rfl ?_
  refine Go.iconst (v := nI 1) dX9_beside_17 rfl ?_
  refine Go.icmp_ne_t (tgt := 36) dX9_beside_18 (by decide) (by decide) ?_
  refine Go.iload_n dX9_beside_36 rfl ?_
  refine Go.iconst (v := nI 2) dX9_beside_37 rfl ?_
  refine Go.icmp_ne_t (tgt := 48) dX9_beside_38 (by decide) (by decide) ?_
  refine Go.at 48 rfl ?_
  refine Go.iload_n dX9_beside_48 rfl ?_
  refine Go.if_ne (tgt := 56) dX9_beside_49 (by decide) (fun h49 => ?_) (fun h49 => ?_)
  · -- 49 taken
    refine Go.iload_n dX9_beside_56 rfl ?_
    refine Go.iconst (v := nI 1) dX9_beside_57 rfl ?_
    refine Go.isub dX9_beside_58 ?_
    refine Go.istore_n (ls' := [some (vI (nI c)), some (vI (nI 3)), some (vI (nI (c % 6))), some (vI ((nI c) - (nI 1)))]) dX9_beside_59 (by decide) rfl ?_
    refine Go.iload_n dX9_beside_60 rfl ?_
    refine Go.callSi [vI ((nI c) - (nI 1))] [] dX9_beside_61 lkX9_90 rfl (Nat.le_of_ble_eq_true rfl) rfl (Nat.le_of_ble_eq_true rfl) (m_isCell ((nI c) - (nI 1))) ?_
    refine Go.at 64 rfl ?_
    refine Go.if_eqb (tgt := 71) dX9_beside_64 (by decide) (fun h64 => ?_) (fun h64 => ?_)
    · -- 64 taken
      refine Go.iconst (v := (-1)) dX9_beside_71 rfl ?_
      refine Go.ireturn .int dX9_beside_72 rfl rfl ?_
      exact ⟨congrArg (fun z => some (vI z)) (by first | (rw [nb3, if_pos (by (try simp only [sI_lt, sI_le, sI_eq, tI_sub, tI_n1, nT, Int32.toInt_zero] at *); omega)]; rfl) | (rw [nb3, if_neg (by (try simp only [sI_lt, sI_le, sI_eq, tI_sub, tI_n1, nT, Int32.toInt_zero] at *); omega)]; rfl)), rfl⟩
    · -- 64 not
      refine Go.iload_n dX9_beside_67 rfl ?_
      refine Go.goto (tgt := 72) dX9_beside_68 (by decide) ?_
      refine Go.ireturn .int dX9_beside_72 rfl rfl ?_
      exact ⟨congrArg (fun z => some (vI z)) (by first | (rw [nb3, if_pos (by (try simp only [sI_lt, sI_le, sI_eq, tI_sub, tI_n1, nT, Int32.toInt_zero] at *); omega)]; (show _ = nI _; first | with_reducible rfl | exact pk_sub (by (try simp only [sI_lt, sI_le, sI_eq, tI_sub, tI_n1, nT, Int32.toInt_zero] at *); omega))) | (rw [nb3, if_neg (by (try simp only [sI_lt, sI_le, sI_eq, tI_sub, tI_n1, nT, Int32.toInt_zero] at *); omega)]; (show _ = nI _; first | with_reducible rfl | exact pk_sub (by (try simp only [sI_lt, sI_le, sI_eq, tI_sub, tI_n1, nT, Int32.toInt_zero] at *); omega)))), rfl⟩
  · -- 49 not
    refine Go.iconst (v := (-1)) dX9_beside_52 rfl ?_
    refine Go.goto (tgt := 59) dX9_beside_53 (by decide) ?_
    refine Go.istore_n (ls' := [some (vI (nI c)), some (vI (nI 3)), some (vI (nI (c % 6))), some (vI (-1))]) dX9_beside_59 (by decide) rfl ?_
    refine Go.iload_n dX9_beside_60 rfl ?_
    refine Go.callSi [vI (-1)] [] dX9_beside_61 lkX9_90 rfl (Nat.le_of_ble_eq_true rfl) rfl (Nat.le_of_ble_eq_true rfl) (m_isCell (-1)) ?_
    refine Go.if_eqb (tgt := 71) dX9_beside_64 (by decide) (fun h64 => ?_) (fun h64 => ?_)
    · -- 64 taken
      refine Go.iconst (v := (-1)) dX9_beside_71 rfl ?_
      refine Go.ireturn .int dX9_beside_72 rfl rfl ?_
      exact ⟨congrArg (fun z => some (vI z)) (by first | (rw [nb3, if_pos (by (try simp only [sI_lt, sI_le, sI_eq, tI_sub, tI_n1, nT, Int32.toInt_zero] at *); omega)]; rfl) | (rw [nb3, if_neg (by (try simp only [sI_lt, sI_le, sI_eq, tI_sub, tI_n1, nT, Int32.toInt_zero] at *); omega)]; rfl)), rfl⟩
    · -- 64 not
      refine Go.iload_n dX9_beside_67 rfl ?_
      refine Go.goto (tgt := 72) dX9_beside_68 (by decide) ?_
      refine Go.ireturn .int dX9_beside_72 rfl rfl ?_
      exact ⟨congrArg (fun z => some (vI z)) (by first | (rw [nb3, if_pos (by (try simp only [sI_lt, sI_le, sI_eq, tI_sub, tI_n1, nT, Int32.toInt_zero] at *); omega)]; rfl) | (rw [nb3, if_neg (by (try simp only [sI_lt, sI_le, sI_eq, tI_sub, tI_n1, nT, Int32.toInt_zero] at *); omega)]; rfl)), rfl⟩
theorem m_beside {V : VV} {d : Nat} {μ : Memo} (c i : Nat) (hc : c < 30) (hi : i < 4) : Ret V (d + 1) mX9_beside [vI (nI c), vI (nI i)] μ (some (vI (oI (nbO c i)))) μ := by
  have : i = 0 ∨ i = 1 ∨ i = 2 ∨ i = 3 := by omega
  rcases this with rfl | rfl | rfl | rfl
  · exact m_beside_0 c hc
  · exact m_beside_1 c hc
  · exact m_beside_2 c hc
  · exact m_beside_3 c hc
theorem m_spread_in {V : VV} {d : Nat} {μ : Memo} {Q : Option AVal → Memo → Prop} (x all : Int32) {c : Nat} (hc : c < 30) (hb : bt x c = true) (hk : Go V (d + 2) mX9_spread 54 [some (vI x), some (vI (addN all c 4)), some (vI (nI c)), some (vI (nI 4))] [] μ Q) :
    ∀ (j i : Nat), i + j = 4 → Go V (d + 2) mX9_spread 12 [some (vI x), some (vI (addN all c i)), some (vI (nI c)), some (vI (nI i))] [] μ Q
  | 0, i, h => by
    obtain rfl : i = 4 := by omega
    refine Go.iload_n dX9_spread_12 rfl ?_
    refine Go.iconst (v := nI 4) dX9_spread_13 rfl ?_
    refine Go.icmp_ge_t (tgt := 54) dX9_spread_14 (by decide) (by decide) ?_
    exact hk
  | j + 1, i, h => by
    have hi : i < 4 := by omega
    have hst : addN all c (i + 1) = addN all c i ||| (match nbO c i with | none => nI 0 | some q => nI 1 <<< (nI q &&& 31)) := by
      rw [addN]; cases nbO c i <;> rfl
    cases hq : nbO c i with
    | none =>
      rw [hq] at hst
      refine Go.iload_n dX9_spread_12 rfl ?_
      refine Go.iconst (v := nI 4) dX9_spread_13 rfl ?_
      refine Go.icmp_ge_f (tgt := 54) dX9_spread_14 (by decide) (nI_ge hi (by decide)) ?_
      refine Go.iload_n dX9_spread_17 rfl ?_
      refine Go.iload_n dX9_spread_18 rfl ?_
      refine Go.ishr dX9_spread_19 ?_
      refine Go.at 20 rfl ?_
      refine Go.iconst (v := nI 1) dX9_spread_20 rfl ?_
      refine Go.iand dX9_spread_21 ?_
      refine Go.iconst (v := nI 1) dX9_spread_22 rfl ?_
      refine Go.icmp_ne_f (tgt := 54) dX9_spread_23 (by decide) ((bitM1 (by omega) x).mpr hb) ?_
      refine Go.iload_n dX9_spread_26 rfl ?_
      refine Go.iload_n dX9_spread_27 rfl ?_
      refine Go.at 28 rfl ?_
      refine Go.iload_n dX9_spread_28 rfl ?_
      refine Go.callSi [vI (nI c), vI (nI i)] [vI (addN all c i)] dX9_spread_29 lkX9_137 rfl (Nat.le_of_ble_eq_true rfl) rfl (Nat.le_of_ble_eq_true rfl) (m_beside c i hc (by omega)) ?_
      refine Go.topE (y := (-1)) (by rw [hq]; rfl) ?_
      refine Go.if_ge_f (tgt := 39) dX9_spread_32 (by decide) (by decide) ?_
      refine Go.iconst (v := nI 0) dX9_spread_35 rfl ?_
      refine Go.goto (tgt := 46) dX9_spread_36 (by decide) ?_
      refine Go.ior dX9_spread_46 ?_
      refine Go.at 47 rfl ?_
      refine Go.istore_n (ls' := [some (vI x), some (vI ((addN all c i) ||| (nI 0))), some (vI (nI c)), some (vI (nI i))]) dX9_spread_47 (by decide) rfl ?_
      refine Go.iinc (v := nI (i + 1)) (ls' := [some (vI x), some (vI ((addN all c i) ||| (nI 0))), some (vI (nI c)), some (vI (nI (i + 1)))]) dX9_spread_48 rfl (nI_add _ _) (by decide) rfl ?_
      refine Go.goto (tgt := 12) dX9_spread_51 (by decide) ?_
      rw [← hst]
      exact m_spread_in x all hc hb hk j (i + 1) (by omega)
    | some q =>
      rw [hq] at hst
      have hq30 := nbO_lt hc hq
      refine Go.iload_n dX9_spread_12 rfl ?_
      refine Go.iconst (v := nI 4) dX9_spread_13 rfl ?_
      refine Go.icmp_ge_f (tgt := 54) dX9_spread_14 (by decide) (nI_ge hi (by decide)) ?_
      refine Go.iload_n dX9_spread_17 rfl ?_
      refine Go.iload_n dX9_spread_18 rfl ?_
      refine Go.ishr dX9_spread_19 ?_
      refine Go.at 20 rfl ?_
      refine Go.iconst (v := nI 1) dX9_spread_20 rfl ?_
      refine Go.iand dX9_spread_21 ?_
      refine Go.iconst (v := nI 1) dX9_spread_22 rfl ?_
      refine Go.icmp_ne_f (tgt := 54) dX9_spread_23 (by decide) ((bitM1 (by omega) x).mpr hb) ?_
      refine Go.iload_n dX9_spread_26 rfl ?_
      refine Go.iload_n dX9_spread_27 rfl ?_
      refine Go.at 28 rfl ?_
      refine Go.iload_n dX9_spread_28 rfl ?_
      refine Go.callSi [vI (nI c), vI (nI i)] [vI (addN all c i)] dX9_spread_29 lkX9_137 rfl (Nat.le_of_ble_eq_true rfl) rfl (Nat.le_of_ble_eq_true rfl) (m_beside c i hc (by omega)) ?_
      refine Go.topE (y := nI q) (by rw [hq]; rfl) ?_
      refine Go.if_ge_t (tgt := 39) dX9_spread_32 (by decide) (nI_pos' (by omega)) ?_
      refine Go.iconst (v := nI 1) dX9_spread_39 rfl ?_
      refine Go.iload_n dX9_spread_40 rfl ?_
      refine Go.iload_n dX9_spread_41 rfl ?_
      refine Go.at 42 rfl ?_
      refine Go.callSi [vI (nI c), vI (nI i)] [vI (nI 1), vI (addN all c i)] dX9_spread_42 lkX9_137 rfl (Nat.le_of_ble_eq_true rfl) rfl (Nat.le_of_ble_eq_true rfl) (m_beside c i hc (by omega)) ?_
      refine Go.topE (y := nI q) (by rw [hq]; rfl) ?_
      refine Go.ishl dX9_spread_45 ?_
      refine Go.ior dX9_spread_46 ?_
      refine Go.istore_n (ls' := [some (vI x), some (vI ((addN all c i) ||| ((nI 1) <<< ((nI q) &&& 31)))), some (vI (nI c)), some (vI (nI i))]) dX9_spread_47 (by decide) rfl ?_
      refine Go.iinc (v := nI (i + 1)) (ls' := [some (vI x), some (vI ((addN all c i) ||| ((nI 1) <<< ((nI q) &&& 31)))), some (vI (nI c)), some (vI (nI (i + 1)))]) dX9_spread_48 rfl (nI_add _ _) (by decide) rfl ?_
      refine Go.goto (tgt := 12) dX9_spread_51 (by decide) ?_
      refine Go.at 12 rfl ?_
      rw [← hst]
      exact m_spread_in x all hc hb hk j (i + 1) (by omega)
theorem m_spread_lp {V : VV} {d : Nat} {μ : Memo} (x : Int32) :
    ∀ (j c : Nat) (i : Option AVal), c + j = 30 → Go V (d + 2) mX9_spread 4 [some (vI x), some (vI (spM x c)), some (vI (nI c)), none] [] μ (fun r' μ'' => r' = some (vI (spM x 30)) ∧ μ'' = μ)
  | 0, c, _, h => by
    obtain rfl : c = 30 := by omega
    refine Go.iload_n dX9_spread_4 rfl ?_
    refine Go.bipush (v := nI 30) dX9_spread_5 rfl ?_
    refine Go.icmp_ge_t (tgt := 60) dX9_spread_7 (by decide) (by decide) ?_
    refine Go.iload_n dX9_spread_60 rfl ?_
    refine Go.ireturn .int dX9_spread_61 rfl rfl ?_
    exact ⟨rfl, rfl⟩
  | j + 1, c, _, h => by
    have hc : c < 30 := by omega
    by_cases hb : bt x c = true
    · -- in it
      refine Go.iload_n dX9_spread_4 rfl ?_
      refine Go.bipush (v := nI 30) dX9_spread_5 rfl ?_
      refine Go.icmp_ge_f (tgt := 60) dX9_spread_7 (by decide) (nI_ge hc (by decide)) ?_
      refine Go.iconst (v := nI 0) dX9_spread_10 rfl ?_
      refine Go.istore_n (ls' := [some (vI x), some (vI (spM x c)), some (vI (nI c)), some (vI (nI 0))]) dX9_spread_11 (by decide) rfl ?_
      refine m_spread_in x (spM x c) hc hb ?_ 4 0 (by omega)
      refine Go.iinc (v := nI (c + 1)) (ls' := [some (vI x), some (vI (addN (spM x c) c 4)), some (vI (nI (c + 1))), some (vI (nI 4))]) dX9_spread_54 rfl (nI_add _ _) (by decide) rfl ?_
      refine Go.goto (tgt := 4) dX9_spread_57 (by decide) ?_
      rw [show addN (spM x c) c 4 = spM x (c + 1) from (by rw [spM, if_pos hb])]
      refine Go.mask [true, true, true, false] rfl ?_
      exact m_spread_lp x j (c + 1) none (by omega)
    · -- not in it
      refine Go.iload_n dX9_spread_4 rfl ?_
      refine Go.bipush (v := nI 30) dX9_spread_5 rfl ?_
      refine Go.icmp_ge_f (tgt := 60) dX9_spread_7 (by decide) (nI_ge hc (by decide)) ?_
      refine Go.iconst (v := nI 0) dX9_spread_10 rfl ?_
      refine Go.istore_n (ls' := [some (vI x), some (vI (spM x c)), some (vI (nI c)), some (vI (nI 0))]) dX9_spread_11 (by decide) rfl ?_
      refine Go.iload_n dX9_spread_12 rfl ?_
      refine Go.at 13 rfl ?_
      refine Go.iconst (v := nI 4) dX9_spread_13 rfl ?_
      refine Go.icmp_ge_f (tgt := 54) dX9_spread_14 (by decide) (by decide) ?_
      refine Go.iload_n dX9_spread_17 rfl ?_
      refine Go.iload_n dX9_spread_18 rfl ?_
      refine Go.ishr dX9_spread_19 ?_
      refine Go.iconst (v := nI 1) dX9_spread_20 rfl ?_
      refine Go.at 21 rfl ?_
      refine Go.iand dX9_spread_21 ?_
      refine Go.iconst (v := nI 1) dX9_spread_22 rfl ?_
      refine Go.icmp_ne_t (tgt := 54) dX9_spread_23 (by decide) (fun z => hb ((bitM1 (by omega) x).mp z)) ?_
      refine Go.iinc (v := nI (c + 1)) (ls' := [some (vI x), some (vI (spM x c)), some (vI (nI (c + 1))), some (vI (nI 0))]) dX9_spread_54 rfl (nI_add _ _) (by decide) rfl ?_
      refine Go.goto (tgt := 4) dX9_spread_57 (by decide) ?_
      rw [show spM x c = spM x (c + 1) from (by rw [spM, if_neg hb])]
      refine Go.mask [true, true, true, false] rfl ?_
      exact m_spread_lp x j (c + 1) none (by omega)
theorem m_spread {V : VV} {d : Nat} {μ : Memo} (x : Int32) : Ret V (d + 2) mX9_spread [vI x] μ (some (vI (spM x 30))) μ := by
  show Go V (d + 2) mX9_spread 0 [some (vI x), none, none, none] [] μ _
  refine Go.iload_n dX9_spread_0 rfl ?_
  refine Go.istore_n (ls' := [some (vI x), some (vI x), none, none]) dX9_spread_1 (by decide) rfl ?_
  refine Go.iconst (v := nI 0) dX9_spread_2 rfl ?_
  refine Go.istore_n (ls' := [some (vI x), some (vI x), some (vI (nI 0)), none]) dX9_spread_3 (by decide) rfl ?_
  exact m_spread_lp x 30 0 none (by omega)
theorem m_partOf_lp {V : VV} {d : Nat} {μ : Memo} {set : Int32} (hS : S30 set) {c : Nat} (hc : c < 30) (hcb : bt set c = true) :
    ∀ (j k : Nat) (was : Int32), k + j = 31 → (k = 0 ∧ was = nI 0 ∨ ∃ k', k = k' + 1 ∧ was = itP set (nI 1 <<< (nI c &&& 31)) k') → (∀ i, i + 1 < k → itP set (nI 1 <<< (nI c &&& 31)) i ≠ itP set (nI 1 <<< (nI c &&& 31)) (i + 1)) →
      Go V (d + 3) mX9_partOf 6 [some (vI set), some (vI (nI c)), some (vI (itP set (nI 1 <<< (nI c &&& 31)) k)), some (vI was)] [] μ (fun r' μ'' => r' = some (vI (ptF set c)) ∧ μ'' = μ)
  | 0, k, was, h, hw, hne => by
    obtain rfl : k = 31 := by omega
    have hg := itP_grow hS (one_sub hc hcb) (one_cnt c hc) 30 (fun i hi => hne i (by omega))
    have := cntB_le (itP set (nI 1 <<< (nI c &&& 31)) 30) 30
    omega
  | j + 1, k, was, h, hw, hne => by
    have hS1 : S30 (itP set (nI 1 <<< (nI c &&& 31)) k) := itP_S30 hS (sub_S30 (one_sub hc hcb) hS) k
    refine Go.iload_n dX9_partOf_6 rfl ?_
    refine Go.iload_n dX9_partOf_7 rfl ?_
    refine Go.icmp_eq (tgt := 23) dX9_partOf_8 (by decide) (fun h8 => ?_) (fun h8 => ?_)
    · -- 8 taken
      refine Go.iload_n dX9_partOf_23 rfl ?_
      refine Go.ireturn .int dX9_partOf_24 rfl rfl ?_
      refine ⟨congrArg (fun z => some (vI z)) ?_, rfl⟩
      rcases hw with ⟨rfl, rfl⟩ | ⟨k', rfl, rfl⟩
      · exact absurd h8 (by
          have := one_cnt c hc
          intro e
          have e2 : itP set (nI 1 <<< (nI c &&& 31)) 0 = nI 1 <<< (nI c &&& 31) := rfl
          rw [e2] at e
          rw [e] at this
          exact absurd this (by decide +kernel))
      · rw [h8]; exact (itP_fix (by omega) h8.symm).symm
    · -- 8 not
      refine Go.iload_n dX9_partOf_11 rfl ?_
      refine Go.istore_n (ls' := [some (vI set), some (vI (nI c)), some (vI (itP set (nI 1 <<< (nI c &&& 31)) k)), some (vI (itP set (nI 1 <<< (nI c &&& 31)) k))]) dX9_partOf_12 (by decide) rfl ?_
      refine Go.iload_n dX9_partOf_13 rfl ?_
      refine Go.callSi [vI (itP set (nI 1 <<< (nI c &&& 31)) k)] [] dX9_partOf_14 lkX9_140 rfl (Nat.le_of_ble_eq_true rfl) rfl (Nat.le_of_ble_eq_true rfl) ((m_spread (itP set (nI 1 <<< (nI c &&& 31)) k)).eq (spM_eq hS1)) ?_
      refine Go.iload_n dX9_partOf_17 rfl ?_
      refine Go.iand dX9_partOf_18 ?_
      refine Go.at 19 rfl ?_
      refine Go.istore_n (ls' := [some (vI set), some (vI (nI c)), some (vI ((sprF (itP set (nI 1 <<< (nI c &&& 31)) k)) &&& set)), some (vI (itP set (nI 1 <<< (nI c &&& 31)) k))]) dX9_partOf_19 (by decide) rfl ?_
      refine Go.goto (tgt := 6) dX9_partOf_20 (by decide) ?_
      refine m_partOf_lp hS hc hcb j (k + 1) _ (by omega) (Or.inr ⟨k, rfl, rfl⟩) ?_
      intro i hi
      rcases Nat.lt_or_ge (i + 1) k with q | q
      · exact hne i q
      · rcases hw with ⟨rfl, rfl⟩ | ⟨k', rfl, rfl⟩
        · omega
        · obtain rfl : i = k' := by omega
          exact fun e => h8 e.symm
theorem m_partOf {V : VV} {d : Nat} {μ : Memo} {set : Int32} (hS : S30 set) {c : Nat} (hc : c < 30) (hcb : bt set c = true) : Ret V (d + 3) mX9_partOf [vI set, vI (nI c)] μ (some (vI (ptF set c))) μ := by
  show Go V (d + 3) mX9_partOf 0 [some (vI set), some (vI (nI c)), none, none] [] μ _
  refine Go.iconst (v := nI 1) dX9_partOf_0 rfl ?_
  refine Go.iload_n dX9_partOf_1 rfl ?_
  refine Go.ishl dX9_partOf_2 ?_
  refine Go.istore_n (ls' := [some (vI set), some (vI (nI c)), some (vI ((nI 1) <<< ((nI c) &&& 31))), none]) dX9_partOf_3 (by decide) rfl ?_
  refine Go.iconst (v := nI 0) dX9_partOf_4 rfl ?_
  refine Go.istore_n (ls' := [some (vI set), some (vI (nI c)), some (vI ((nI 1) <<< ((nI c) &&& 31))), some (vI (nI 0))]) dX9_partOf_5 (by decide) rfl ?_
  refine Go.at 6 rfl ?_
  exact m_partOf_lp hS hc hcb 31 0 _ (by omega) (Or.inl ⟨rfl, rfl⟩) (fun i hi => absurd hi (by omega))
theorem m_partsOf_lp {V : VV} {d : Nat} {μ : Memo} {set : Int32} (hS : S30 set) :
    ∀ (j c : Nat) (L : Int32) (n : Nat), c + j = 30 → sub30 L set → Go V (d + 4) mX9_partsOf 6 [some (vI set), some (vI L), some (vI (nI n)), some (vI (nI c))] [] μ (fun r' μ'' => r' = some (vI (nI (scanF set j c L n))) ∧ μ'' = μ)
  | 0, c, L, n, h, hL => by
    obtain rfl : c = 30 := by omega
    refine Go.iload_n dX9_partsOf_6 rfl ?_
    refine Go.bipush (v := nI 30) dX9_partsOf_7 rfl ?_
    refine Go.icmp_ge_t (tgt := 40) dX9_partsOf_9 (by decide) (by decide) ?_
    refine Go.iload_n dX9_partsOf_40 rfl ?_
    refine Go.ireturn .int dX9_partsOf_41 rfl rfl ?_
    exact ⟨rfl, rfl⟩
  | j + 1, c, L, n, h, hL => by
    have hc : c < 30 := by omega
    rw [scanF]
    by_cases hb : bt L c = true
    · rw [if_pos hb]
      have hcb := hL c hb
      refine Go.iload_n dX9_partsOf_6 rfl ?_
      refine Go.bipush (v := nI 30) dX9_partsOf_7 rfl ?_
      refine Go.icmp_ge_f (tgt := 40) dX9_partsOf_9 (by decide) (nI_ge hc (by decide)) ?_
      refine Go.iload_n dX9_partsOf_12 rfl ?_
      refine Go.iload_n dX9_partsOf_13 rfl ?_
      refine Go.ishr dX9_partsOf_14 ?_
      refine Go.at 15 rfl ?_
      refine Go.iconst (v := nI 1) dX9_partsOf_15 rfl ?_
      refine Go.iand dX9_partsOf_16 ?_
      refine Go.iconst (v := nI 1) dX9_partsOf_17 rfl ?_
      refine Go.icmp_ne_f (tgt := 34) dX9_partsOf_18 (by decide) ((bitM1 (by omega) L).mpr hb) ?_
      refine Go.iload_n dX9_partsOf_21 rfl ?_
      refine Go.iload_n dX9_partsOf_22 rfl ?_
      refine Go.at 23 rfl ?_
      refine Go.iload_n dX9_partsOf_23 rfl ?_
      refine Go.callSi [vI set, vI (nI c)] [vI L] dX9_partsOf_24 lkX9_143 rfl (Nat.le_of_ble_eq_true rfl) rfl (Nat.le_of_ble_eq_true rfl) (m_partOf hS hc hcb) ?_
      refine Go.iconst (v := (-1)) dX9_partsOf_27 rfl ?_
      refine Go.ixor dX9_partsOf_28 ?_
      refine Go.iand dX9_partsOf_29 ?_
      refine Go.istore_n (ls' := [some (vI set), some (vI (L &&& ((ptF set c) ^^^ (-1)))), some (vI (nI n)), some (vI (nI c))]) dX9_partsOf_30 (by decide) rfl ?_
      refine Go.at 31 rfl ?_
      refine Go.iinc (v := nI (n + 1)) (ls' := [some (vI set), some (vI (L &&& ((ptF set c) ^^^ (-1)))), some (vI (nI (n + 1))), some (vI (nI c))]) dX9_partsOf_31 rfl (nI_add _ _) (by decide) rfl ?_
      refine Go.iinc (v := nI (c + 1)) (ls' := [some (vI set), some (vI (L &&& ((ptF set c) ^^^ (-1)))), some (vI (nI (n + 1))), some (vI (nI (c + 1)))]) dX9_partsOf_34 rfl (nI_add _ _) (by decide) rfl ?_
      refine Go.goto (tgt := 6) dX9_partsOf_37 (by decide) ?_
      exact m_partsOf_lp hS j (c + 1) _ (n + 1) (by omega) (fun i hi => by rw [b_and, Bool.and_eq_true] at hi; exact hL i hi.1)
    · rw [if_neg hb]
      refine Go.iload_n dX9_partsOf_6 rfl ?_
      refine Go.bipush (v := nI 30) dX9_partsOf_7 rfl ?_
      refine Go.icmp_ge_f (tgt := 40) dX9_partsOf_9 (by decide) (nI_ge hc (by decide)) ?_
      refine Go.iload_n dX9_partsOf_12 rfl ?_
      refine Go.iload_n dX9_partsOf_13 rfl ?_
      refine Go.ishr dX9_partsOf_14 ?_
      refine Go.at 15 rfl ?_
      refine Go.iconst (v := nI 1) dX9_partsOf_15 rfl ?_
      refine Go.iand dX9_partsOf_16 ?_
      refine Go.iconst (v := nI 1) dX9_partsOf_17 rfl ?_
      refine Go.icmp_ne_t (tgt := 34) dX9_partsOf_18 (by decide) (fun z => hb ((bitM1 (by omega) L).mp z)) ?_
      refine Go.iinc (v := nI (c + 1)) (ls' := [some (vI set), some (vI L), some (vI (nI n)), some (vI (nI (c + 1)))]) dX9_partsOf_34 rfl (nI_add _ _) (by decide) rfl ?_
      refine Go.goto (tgt := 6) dX9_partsOf_37 (by decide) ?_
      refine Go.at 6 rfl ?_
      exact m_partsOf_lp hS j (c + 1) L n (by omega) hL
theorem m_partsOf {V : VV} {d : Nat} {μ : Memo} {set : Int32} (hS : S30 set) : Ret V (d + 4) mX9_partsOf [vI set] μ (some (vI (nI (scanF set 30 0 set 0)))) μ := by
  show Go V (d + 4) mX9_partsOf 0 [some (vI set), none, none, none] [] μ _
  refine Go.iload_n dX9_partsOf_0 rfl ?_
  refine Go.istore_n (ls' := [some (vI set), some (vI set), none, none]) dX9_partsOf_1 (by decide) rfl ?_
  refine Go.iconst (v := nI 0) dX9_partsOf_2 rfl ?_
  refine Go.istore_n (ls' := [some (vI set), some (vI set), some (vI (nI 0)), none]) dX9_partsOf_3 (by decide) rfl ?_
  refine Go.iconst (v := nI 0) dX9_partsOf_4 rfl ?_
  refine Go.istore_n (ls' := [some (vI set), some (vI set), some (vI (nI 0)), some (vI (nI 0))]) dX9_partsOf_5 (by decide) rfl ?_
  refine Go.at 6 rfl ?_
  exact m_partsOf_lp hS 30 0 set 0 (by omega) (fun _ h => h)
theorem c_partAround_lp {V : VV} {d : Nat} {μ : Memo} (some_ set : Int32) :
    ∀ (j k : Nat), k + j = 30 → Go V (d + 1) mX0_partAround 6 [some (vI some_), some (vI set), some (vI (itP set (some_ &&& set) k)), some (vI (nI k))] [] μ (fun r' μ'' => r' = some (vI (itP set (some_ &&& set) 30)) ∧ μ'' = μ)
  | 0, k, h => by
    obtain rfl : k = 30 := by omega
    refine Go.iload_n dX0_partAround_6 rfl ?_
    refine Go.bipush (v := nI 30) dX0_partAround_7 rfl ?_
    refine Go.icmp_ge_t (tgt := 25) dX0_partAround_9 (by decide) (by decide) ?_
    refine Go.iload_n dX0_partAround_25 rfl ?_
    refine Go.ireturn .int dX0_partAround_26 rfl rfl ?_
    exact ⟨rfl, rfl⟩
  | j + 1, k, h => by
    have hk : k < 30 := by omega
    refine Go.iload_n dX0_partAround_6 rfl ?_
    refine Go.bipush (v := nI 30) dX0_partAround_7 rfl ?_
    refine Go.icmp_ge_f (tgt := 25) dX0_partAround_9 (by decide) (nI_ge hk (by decide)) ?_
    refine Go.iload_n dX0_partAround_12 rfl ?_
    refine Go.callSi [vI (itP set (some_ &&& set) k)] [] dX0_partAround_13 lkX0_14 rfl (Nat.le_of_ble_eq_true rfl) rfl (Nat.le_of_ble_eq_true rfl) (c_spread (itP set (some_ &&& set) k)) ?_
    refine Go.iload_n dX0_partAround_16 rfl ?_
    refine Go.at 17 rfl ?_
    refine Go.iand dX0_partAround_17 ?_
    refine Go.istore_n (ls' := [some (vI some_), some (vI set), some (vI ((sprF (itP set (some_ &&& set) k)) &&& set)), some (vI (nI k))]) dX0_partAround_18 (by decide) rfl ?_
    refine Go.iinc (v := nI (k + 1)) (ls' := [some (vI some_), some (vI set), some (vI ((sprF (itP set (some_ &&& set) k)) &&& set)), some (vI (nI (k + 1)))]) dX0_partAround_19 rfl (nI_add _ _) (by decide) rfl ?_
    refine Go.goto (tgt := 6) dX0_partAround_22 (by decide) ?_
    exact c_partAround_lp some_ set j (k + 1) (by omega)
theorem c_partAround {V : VV} {d : Nat} {μ : Memo} (some_ set : Int32) : Ret V (d + 1) mX0_partAround [vI some_, vI set] μ (some (vI (itP set (some_ &&& set) 30))) μ := by
  show Go V (d + 1) mX0_partAround 0 [some (vI some_), some (vI set), none, none] [] μ _
  refine Go.iload_n dX0_partAround_0 rfl ?_
  refine Go.iload_n dX0_partAround_1 rfl ?_
  refine Go.iand dX0_partAround_2 ?_
  refine Go.istore_n (ls' := [some (vI some_), some (vI set), some (vI (some_ &&& set)), none]) dX0_partAround_3 (by decide) rfl ?_
  refine Go.iconst (v := nI 0) dX0_partAround_4 rfl ?_
  refine Go.istore_n (ls' := [some (vI some_), some (vI set), some (vI (some_ &&& set)), some (vI (nI 0))]) dX0_partAround_5 (by decide) rfl ?_
  refine Go.at 6 rfl ?_
  exact c_partAround_lp some_ set 30 0 (by omega)
theorem c_partsOf_lp {V : VV} {d : Nat} {μ : Memo} {set : Int32} (hS : S30 set) :
    ∀ (j k : Nat) (L : Int32) (n : Nat), k + j = 30 → clos set L → cntB L 30 ≤ j → Go V (d + 2) mX0_partsOf 6 [some (vI set), some (vI (nI n)), some (vI L), some (vI (nI k))] [] μ (fun r' μ'' => r' = some (vI (nI (scanF set 30 0 L n))) ∧ μ'' = μ)
  | 0, k, L, n, h, hL, hcn => by
    obtain rfl : k = 30 := by omega
    have hz : L = 0 := cnt0 (sub_S30 hL.1 hS) (by omega)
    have hsc : scanF set 30 0 L n = n := scan_zero set L n (fun i _ => by rw [hz, b_0]; decide)
    rw [hsc]
    refine Go.iload_n dX0_partsOf_6 rfl ?_
    refine Go.bipush (v := nI 30) dX0_partsOf_7 rfl ?_
    refine Go.icmp_ge_t (tgt := 38) dX0_partsOf_9 (by decide) (by decide) ?_
    refine Go.iload_n dX0_partsOf_38 rfl ?_
    refine Go.ireturn .int dX0_partsOf_39 rfl rfl ?_
    exact ⟨rfl, rfl⟩
  | j + 1, k, L, n, h, hL, hcn => by
    have hk : k < 30 := by omega
    by_cases hz : L = 0
    · have hsc : scanF set 30 0 L n = n := scan_zero set L n (fun i _ => by rw [hz, b_0]; decide)
      rw [hsc]
      refine Go.iload_n dX0_partsOf_6 rfl ?_
      refine Go.bipush (v := nI 30) dX0_partsOf_7 rfl ?_
      refine Go.icmp_ge_f (tgt := 38) dX0_partsOf_9 (by decide) (nI_ge hk (by decide)) ?_
      refine Go.iload_n dX0_partsOf_12 rfl ?_
      refine Go.if_eq_t (tgt := 38) dX0_partsOf_13 (by decide) hz ?_
      refine Go.iload_n dX0_partsOf_38 rfl ?_
      refine Go.at 39 rfl ?_
      refine Go.ireturn .int dX0_partsOf_39 rfl rfl ?_
      exact ⟨rfl, rfl⟩
    · obtain ⟨c, hc, hb, hlow⟩ := low_exists (sub_S30 hL.1 hS) hz
      have hlb := lowbit hc hb hlow
      have hpa : itP L ((L &&& -L) &&& L) 30 = ptF set c := by
        rw [hlb, show (nI 1 <<< (nI c &&& 31)) &&& L = nI 1 <<< (nI c &&& 31) from ?_]
        · exact pt_clos hS hL hc hb
        · apply b_ext
          intro i hi
          rw [b_and, bt_one (by omega)]
          by_cases e : i = c
          · subst e; rw [hb, Bool.and_true]
          · rw [decide_eq_false e, Bool.false_and]
      rw [scan_low hS hL hc hb hlow]
      refine Go.iload_n dX0_partsOf_6 rfl ?_
      refine Go.bipush (v := nI 30) dX0_partsOf_7 rfl ?_
      refine Go.icmp_ge_f (tgt := 38) dX0_partsOf_9 (by decide) (nI_ge hk (by decide)) ?_
      refine Go.iload_n dX0_partsOf_12 rfl ?_
      refine Go.if_eq_f (tgt := 38) dX0_partsOf_13 (by decide) hz ?_
      refine Go.iload_n dX0_partsOf_16 rfl ?_
      refine Go.at 17 rfl ?_
      refine Go.iload_n dX0_partsOf_17 rfl ?_
      refine Go.iload_n dX0_partsOf_18 rfl ?_
      refine Go.ineg dX0_partsOf_19 ?_
      refine Go.iand dX0_partsOf_20 ?_
      refine Go.iload_n dX0_partsOf_21 rfl ?_
      refine Go.callSi [vI (L &&& (-L)), vI L] [vI L] dX0_partsOf_22 lkX0_18 rfl (Nat.le_of_ble_eq_true rfl) rfl (Nat.le_of_ble_eq_true rfl) (c_partAround (L &&& (-L)) L) ?_
      refine Go.topE (y := ptF set c) hpa ?_
      refine Go.at 25 rfl ?_
      refine Go.iconst (v := (-1)) dX0_partsOf_25 rfl ?_
      refine Go.ixor dX0_partsOf_26 ?_
      refine Go.iand dX0_partsOf_27 ?_
      refine Go.istore_n (ls' := [some (vI set), some (vI (nI n)), some (vI (L &&& ((ptF set c) ^^^ (-1)))), some (vI (nI k))]) dX0_partsOf_28 (by decide) rfl ?_
      refine Go.iinc (v := nI (n + 1)) (ls' := [some (vI set), some (vI (nI (n + 1))), some (vI (L &&& ((ptF set c) ^^^ (-1)))), some (vI (nI k))]) dX0_partsOf_29 rfl (nI_add _ _) (by decide) rfl ?_
      refine Go.iinc (v := nI (k + 1)) (ls' := [some (vI set), some (vI (nI (n + 1))), some (vI (L &&& ((ptF set c) ^^^ (-1)))), some (vI (nI (k + 1)))]) dX0_partsOf_32 rfl (nI_add _ _) (by decide) rfl ?_
      refine Go.at 35 rfl ?_
      refine Go.goto (tgt := 6) dX0_partsOf_35 (by decide) ?_
      exact c_partsOf_lp hS j (k + 1) _ (n + 1) (by omega) (clos_cut hS hL hc hb) (by have := cut_cnt hS hL hc hb; omega)
theorem c_partsOf {V : VV} {d : Nat} {μ : Memo} {set : Int32} (hS : S30 set) : Ret V (d + 2) mX0_partsOf [vI set] μ (some (vI (nI (scanF set 30 0 set 0)))) μ := by
  show Go V (d + 2) mX0_partsOf 0 [some (vI set), none, none, none] [] μ _
  refine Go.iconst (v := nI 0) dX0_partsOf_0 rfl ?_
  refine Go.istore_n (ls' := [some (vI set), some (vI (nI 0)), none, none]) dX0_partsOf_1 (by decide) rfl ?_
  refine Go.iload_n dX0_partsOf_2 rfl ?_
  refine Go.istore_n (ls' := [some (vI set), some (vI (nI 0)), some (vI set), none]) dX0_partsOf_3 (by decide) rfl ?_
  refine Go.iconst (v := nI 0) dX0_partsOf_4 rfl ?_
  refine Go.istore_n (ls' := [some (vI set), some (vI (nI 0)), some (vI set), some (vI (nI 0))]) dX0_partsOf_5 (by decide) rfl ?_
  refine Go.at 6 rfl ?_
  exact c_partsOf_lp hS 30 0 set 0 (by omega) (clos_self set) (cntB_le _ _)
/-- the first beside that is in a set, from place i on -/
def fbF (set : Int32) (c : Nat) : Nat → Nat → Option Nat
  | 0, _ => none
  | j + 1, i => match nbO c i with
    | none => fbF set c j (i + 1)
    | some q => if bt set q = true then some q else fbF set c j (i + 1)
theorem c_firstBeside_lp {V : VV} {d : Nat} {μ : Memo} (set : Int32) {c : Nat} (hc : c < 30) :
    ∀ (j i : Nat), i + j = 4 → Go V (d + 1) mX0_firstBeside 2 [some (vI (nI c)), some (vI set), some (vI (nI i)), none] [] μ (fun r' μ'' => r' = some (vI (oN (oI (fbF set c j i)))) ∧ μ'' = μ)
  | 0, i, h => by
    obtain rfl : i = 4 := by omega
    refine Go.iload_n dX0_firstBeside_2 rfl ?_
    refine Go.iconst (v := nI 4) dX0_firstBeside_3 rfl ?_
    refine Go.icmp_ge_t (tgt := 35) dX0_firstBeside_4 (by decide) (by decide) ?_
    refine Go.ldc dX0_firstBeside_35 cnX0_22 ?_
    refine Go.ireturn .int dX0_firstBeside_37 rfl rfl ?_
    exact ⟨rfl, rfl⟩
  | j + 1, i, h => by
    have hi : i < 4 := by omega
    rw [fbF]
    cases hq : nbO c i with
    | none =>
      show Go V (d + 1) mX0_firstBeside 2 _ _ _ (fun r' μ'' => r' = some (vI (oN (oI (fbF set c j (i + 1))))) ∧ μ'' = μ)
      refine Go.iload_n dX0_firstBeside_2 rfl ?_
      refine Go.iconst (v := nI 4) dX0_firstBeside_3 rfl ?_
      refine Go.icmp_ge_f (tgt := 35) dX0_firstBeside_4 (by decide) (nI_ge hi (by decide)) ?_
      refine Go.iload_n dX0_firstBeside_7 rfl ?_
      refine Go.iload_n dX0_firstBeside_8 rfl ?_
      refine Go.callSi [vI (nI c), vI (nI i)] [] dX0_firstBeside_9 lkX0_23 rfl (Nat.le_of_ble_eq_true rfl) rfl (Nat.le_of_ble_eq_true rfl) (c_beside c i hc (by omega)) ?_
      refine Go.topE (y := (-1000000005)) (by rw [hq]; decide) ?_
      refine Go.at 12 rfl ?_
      refine Go.istore_n (ls' := [some (vI (nI c)), some (vI set), some (vI (nI i)), some (vI (-1000000005))]) dX0_firstBeside_12 (by decide) rfl ?_
      refine Go.iload_n dX0_firstBeside_13 rfl ?_
      refine Go.ldc dX0_firstBeside_14 cnX0_22 ?_
      refine Go.icmp_eq_t (tgt := 29) dX0_firstBeside_16 (by decide) (by decide) ?_
      refine Go.iinc (v := nI (i + 1)) (ls' := [some (vI (nI c)), some (vI set), some (vI (nI (i + 1))), some (vI (-1000000005))]) dX0_firstBeside_29 rfl (nI_add _ _) (by decide) rfl ?_
      refine Go.goto (tgt := 2) dX0_firstBeside_32 (by decide) ?_
      refine Go.at 2 rfl ?_
      refine Go.mask [true, true, true, false] rfl ?_
      exact c_firstBeside_lp set hc j (i + 1) (by omega)
    | some q =>
      have hq30 := nbO_lt hc hq
      show Go V (d + 1) mX0_firstBeside 2 _ _ _ (fun r' μ'' => r' = some (vI (oN (oI (if bt set q = true then some q else fbF set c j (i + 1))))) ∧ μ'' = μ)
      by_cases hb : bt set q = true
      · rw [if_pos hb]
        refine Go.iload_n dX0_firstBeside_2 rfl ?_
        refine Go.iconst (v := nI 4) dX0_firstBeside_3 rfl ?_
        refine Go.icmp_ge_f (tgt := 35) dX0_firstBeside_4 (by decide) (nI_ge hi (by decide)) ?_
        refine Go.iload_n dX0_firstBeside_7 rfl ?_
        refine Go.iload_n dX0_firstBeside_8 rfl ?_
        refine Go.callSi [vI (nI c), vI (nI i)] [] dX0_firstBeside_9 lkX0_23 rfl (Nat.le_of_ble_eq_true rfl) rfl (Nat.le_of_ble_eq_true rfl) (c_beside c i hc (by omega)) ?_
        refine Go.topE (y := nI q) (by rw [hq]; exact oNo_s (by omega)) ?_
        refine Go.at 12 rfl ?_
        refine Go.istore_n (ls' := [some (vI (nI c)), some (vI set), some (vI (nI i)), some (vI (nI q))]) dX0_firstBeside_12 (by decide) rfl ?_
        refine Go.iload_n dX0_firstBeside_13 rfl ?_
        refine Go.ldc dX0_firstBeside_14 cnX0_22 ?_
        refine Go.icmp_eq_f (tgt := 29) dX0_firstBeside_16 (by decide) (nI_NONE (by omega)) ?_
        refine Go.iload_n dX0_firstBeside_19 rfl ?_
        refine Go.iload_n dX0_firstBeside_20 rfl ?_
        refine Go.at 21 rfl ?_
        refine Go.callSi [vI set, vI (nI q)] [] dX0_firstBeside_21 lkX0_26 rfl (Nat.le_of_ble_eq_true rfl) rfl (Nat.le_of_ble_eq_true rfl) (c_has set (nI q)) ?_
        refine Go.if_eqb_f (tgt := 29) dX0_firstBeside_24 (by decide) ((bitU1 (by omega) set).mpr hb) ?_
        refine Go.iload_n dX0_firstBeside_27 rfl ?_
        refine Go.ireturn .int dX0_firstBeside_28 rfl rfl ?_
        exact ⟨by rw [oNo_s (by omega)], rfl⟩
      · rw [if_neg hb]
        refine Go.iload_n dX0_firstBeside_2 rfl ?_
        refine Go.iconst (v := nI 4) dX0_firstBeside_3 rfl ?_
        refine Go.icmp_ge_f (tgt := 35) dX0_firstBeside_4 (by decide) (nI_ge hi (by decide)) ?_
        refine Go.iload_n dX0_firstBeside_7 rfl ?_
        refine Go.iload_n dX0_firstBeside_8 rfl ?_
        refine Go.callSi [vI (nI c), vI (nI i)] [] dX0_firstBeside_9 lkX0_23 rfl (Nat.le_of_ble_eq_true rfl) rfl (Nat.le_of_ble_eq_true rfl) (c_beside c i hc (by omega)) ?_
        refine Go.topE (y := nI q) (by rw [hq]; exact oNo_s (by omega)) ?_
        refine Go.at 12 rfl ?_
        refine Go.istore_n (ls' := [some (vI (nI c)), some (vI set), some (vI (nI i)), some (vI (nI q))]) dX0_firstBeside_12 (by decide) rfl ?_
        refine Go.iload_n dX0_firstBeside_13 rfl ?_
        refine Go.ldc dX0_firstBeside_14 cnX0_22 ?_
        refine Go.icmp_eq_f (tgt := 29) dX0_firstBeside_16 (by decide) (nI_NONE (by omega)) ?_
        refine Go.iload_n dX0_firstBeside_19 rfl ?_
        refine Go.iload_n dX0_firstBeside_20 rfl ?_
        refine Go.at 21 rfl ?_
        refine Go.callSi [vI set, vI (nI q)] [] dX0_firstBeside_21 lkX0_26 rfl (Nat.le_of_ble_eq_true rfl) rfl (Nat.le_of_ble_eq_true rfl) (c_has set (nI q)) ?_
        refine Go.if_eqb_t (tgt := 29) dX0_firstBeside_24 (by decide) (fun z => hb ((bitU1 (by omega) set).mp z)) ?_
        refine Go.iinc (v := nI (i + 1)) (ls' := [some (vI (nI c)), some (vI set), some (vI (nI (i + 1))), some (vI (nI q))]) dX0_firstBeside_29 rfl (nI_add _ _) (by decide) rfl ?_
        refine Go.goto (tgt := 2) dX0_firstBeside_32 (by decide) ?_
        refine Go.mask [true, true, true, false] rfl ?_
        exact c_firstBeside_lp set hc j (i + 1) (by omega)
theorem c_firstBeside {V : VV} {d : Nat} {μ : Memo} (set : Int32) {c : Nat} (hc : c < 30) : Ret V (d + 1) mX0_firstBeside [vI (nI c), vI set] μ (some (vI (oN (oI (fbF set c 4 0))))) μ := by
  show Go V (d + 1) mX0_firstBeside 0 [some (vI (nI c)), some (vI set), none, none] [] μ _
  refine Go.iconst (v := nI 0) dX0_firstBeside_0 rfl ?_
  refine Go.istore_n (ls' := [some (vI (nI c)), some (vI set), some (vI (nI 0)), none]) dX0_firstBeside_1 (by decide) rfl ?_
  exact c_firstBeside_lp set hc 4 0 (by omega)
