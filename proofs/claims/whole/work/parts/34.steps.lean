def opnd (N : Nat) (B : Nat → Nat) (key b : Nat) : Option Int32 := if flw N B b then none else if srt N B b = 3 then (if en N B b - b ≤ 4 then some (nI (numN B 0 b (en N B b - b))) else none) else if srt N B b = 2 then (if en N B b = b + 1 then (match nmF key (B b) with | some q => some ((-1) - nI q) | none => none) else none) else none
def onO (o : Option Int32) : Int32 := match o with | some v => v | none => (-1000000005)
theorem en_in {N : Nat} {B : Nat → Nat} {b σ : Nat} (hb : b < N) (hσ : srt N B b = σ) (h4 : σ ≠ 4) {q : Nat} (h1 : b ≤ q) (h2 : q < en N B b) : srt N B q = σ := by
  unfold en at h2
  rw [if_pos hb, if_neg (by omega), hσ] at h2
  exact enF_in 96 b q h1 h2
theorem nmF_lt {key c q : Nat} (hq : nmF key c = some q) : q < 3 := by
  unfold nmF at hq
  revert hq; (repeat' split) <;> intro hq <;> first | (injection hq with hq; omega) | contradiction
theorem n1_sub {q : Nat} (h : q < 3) : ¬ ((-1) - nI q : Int32) = (-1000000005) := by
  have : q = 0 ∨ q = 1 ∨ q = 2 := by omega
  rcases this with rfl | rfl | rfl <;> decide
theorem opnd_ne {N : Nat} {B : Nat → Nat} {key b : Nat} {v : Int32} (hb : b < N) (h : opnd N B key b = some v) : ¬ v = (-1000000005) := by
  unfold opnd at h
  split at h
  · contradiction
  · split at h
    · rename_i h3
      split at h
      · rename_i h4
        injection h with h
        subst h
        have := numN_lt (N := N) (B := B) (en N B b - b) 0 b (fun t ht => srt_dig (en_in hb h3 (by decide) (by omega) (by omega)))
        have p : 10 ^ (en N B b - b) ≤ 10 ^ 4 := Nat.pow_le_pow_right (by decide) h4
        intro z
        rw [sI_eq, nT, tI_NONE] at z
        omega
      · contradiction
    · split at h
      · split at h
        · cases hq : nmF key (B b) with
          | none => rw [hq] at h; contradiction
          | some q =>
            rw [hq] at h
            simp only [] at h
            injection h with h
            subst h
            exact n1_sub (nmF_lt hq)
        · contradiction
      · contradiction
theorem c_operandHere_0 {V : VV} {d : Nat} {μ : Memo} {N : Nat} {B : Nat → Nat} (hT : TpC μ N B) {b : Nat} (hb : b < N) (h5 : μ 33 5 = nI b) (h6 : μ 33 6 = nI (en N B b)) (hk : μ 33 0 = nI 0) : Ret V (d + 5) mX4_operandHere [vR 33] μ (some (vI (onO (opnd N B 0 b)))) μ := by
  show Go V (d + 5) mX4_operandHere 0 [some (vR 33)] [] μ _
  have hN := hT.1
  have hbe := en_gt (B := B) hb
  have heN := en_le (N := N) (B := B) (Nat.le_of_lt hb)
  have hs4 := srt_le (N := N) (B := B) b
  by_cases hf : flw N B b
  · skip
    refine Go.aload_n dX4_operandHere_0 rfl ?_
    refine Go.callVi 33 [] [] dX4_operandHere_1 lkX4_115 (Or.inl ⟨_, _, _, rfl, rfl, rfl⟩) rfl (Nat.le_of_ble_eq_true rfl) rfl (Nat.le_of_ble_eq_true rfl) (c_followsWord hT (by omega) h5) ?_
    refine Go.if_eqb_f (tgt := 10) dX4_operandHere_4 (by decide) hf ?_
    refine Go.ldc dX4_operandHere_7 cnX4_33 ?_
    refine Go.ireturn .int dX4_operandHere_9 rfl rfl ?_
    exact ⟨congrArg (fun z => some (vI z)) (by unfold opnd; rw [if_pos hf]; rfl), rfl⟩
  · by_cases hs : srt N B b = 3
    · skip
      refine Go.aload_n dX4_operandHere_0 rfl ?_
      refine Go.callVi 33 [] [] dX4_operandHere_1 lkX4_115 (Or.inl ⟨_, _, _, rfl, rfl, rfl⟩) rfl (Nat.le_of_ble_eq_true rfl) rfl (Nat.le_of_ble_eq_true rfl) (c_followsWord hT (by omega) h5) ?_
      refine Go.if_eqb_t (tgt := 10) dX4_operandHere_4 (by decide) hf ?_
      refine Go.aload_n dX4_operandHere_10 rfl ?_
      refine Go.getR dX4_operandHere_11 flX4_18 rfl ?_
      refine Go.aload_n dX4_operandHere_14 rfl ?_
      refine Go.at 15 rfl ?_
      refine Go.getI dX4_operandHere_15 flX4_34 rfl ?_
      refine Go.topE (y := nI b) h5 ?_
      refine Go.callVi 31 [vI (nI b)] [] dX4_operandHere_18 lkX4_78 (Or.inl ⟨_, _, _, rfl, rfl, rfl⟩) rfl (Nat.le_of_ble_eq_true rfl) rfl (Nat.le_of_ble_eq_true rfl) (c_sortAt hT b (by omega)) ?_
      refine Go.topE (y := nI 3) (by rw [hs]) ?_
      refine Go.lswV (tgt := 48) (nI 3) rfl dX4_operandHere_21 (by decide) rfl (by decide) ?_
      refine Go.aload_n dX4_operandHere_48 rfl ?_
      refine Go.callVi 33 [] [] dX4_operandHere_49 lkX4_118 (Or.inl ⟨_, _, _, rfl, rfl, rfl⟩) rfl (Nat.le_of_ble_eq_true rfl) rfl (Nat.le_of_ble_eq_true rfl) (c_numberHere hT (by omega) heN h5 h6 (fun t ht => srt_dig (en_in hb hs (by decide) (by omega) (by omega)))) ?_
      refine Go.ireturn .int dX4_operandHere_52 rfl rfl ?_
      exact ⟨congrArg (fun z => some (vI z)) (by unfold opnd; rw [if_neg hf, if_pos hs]; split <;> rfl), rfl⟩
    · by_cases hs2 : srt N B b = 2
      · skip
        refine Go.aload_n dX4_operandHere_0 rfl ?_
        refine Go.callVi 33 [] [] dX4_operandHere_1 lkX4_115 (Or.inl ⟨_, _, _, rfl, rfl, rfl⟩) rfl (Nat.le_of_ble_eq_true rfl) rfl (Nat.le_of_ble_eq_true rfl) (c_followsWord hT (by omega) h5) ?_
        refine Go.if_eqb_t (tgt := 10) dX4_operandHere_4 (by decide) hf ?_
        refine Go.aload_n dX4_operandHere_10 rfl ?_
        refine Go.getR dX4_operandHere_11 flX4_18 rfl ?_
        refine Go.aload_n dX4_operandHere_14 rfl ?_
        refine Go.at 15 rfl ?_
        refine Go.getI dX4_operandHere_15 flX4_34 rfl ?_
        refine Go.topE (y := nI b) h5 ?_
        refine Go.callVi 31 [vI (nI b)] [] dX4_operandHere_18 lkX4_78 (Or.inl ⟨_, _, _, rfl, rfl, rfl⟩) rfl (Nat.le_of_ble_eq_true rfl) rfl (Nat.le_of_ble_eq_true rfl) (c_sortAt hT b (by omega)) ?_
        refine Go.topE (y := nI 2) (by rw [hs2]) ?_
        refine Go.lswV (tgt := 53) (nI 2) rfl dX4_operandHere_21 (by decide) rfl (by decide) ?_
        refine Go.aload_n dX4_operandHere_53 rfl ?_
        refine Go.callVi 33 [] [] dX4_operandHere_54 lkX4_121 (Or.inl ⟨_, _, _, rfl, rfl, rfl⟩) rfl (Nat.le_of_ble_eq_true rfl) rfl (Nat.le_of_ble_eq_true rfl) (c_nameHere_0 hT hb (by omega) heN h5 h6 hk) ?_
        refine Go.ireturn .int dX4_operandHere_57 rfl rfl ?_
        exact ⟨congrArg (fun z => some (vI z)) (by unfold opnd; rw [if_neg hf, if_neg hs, if_pos hs2]; by_cases he1 : en N B b = b + 1 <;> simp only [he1, if_true, if_false] <;> first | rfl | (cases nmF 0 (B b) <;> rfl)), rfl⟩
      · have g2 : ¬ nI (srt N B b) = nI 2 := fun z => hs2 (nI_inj z (by omega))
        have g3 : ¬ nI (srt N B b) = nI 3 := fun z => hs (nI_inj z (by omega))
        refine Go.aload_n dX4_operandHere_0 rfl ?_
        refine Go.callVi 33 [] [] dX4_operandHere_1 lkX4_115 (Or.inl ⟨_, _, _, rfl, rfl, rfl⟩) rfl (Nat.le_of_ble_eq_true rfl) rfl (Nat.le_of_ble_eq_true rfl) (c_followsWord hT (by omega) h5) ?_
        refine Go.if_eqb_t (tgt := 10) dX4_operandHere_4 (by decide) hf ?_
        refine Go.aload_n dX4_operandHere_10 rfl ?_
        refine Go.getR dX4_operandHere_11 flX4_18 rfl ?_
        refine Go.aload_n dX4_operandHere_14 rfl ?_
        refine Go.at 15 rfl ?_
        refine Go.getI dX4_operandHere_15 flX4_34 rfl ?_
        refine Go.topE (y := nI b) h5 ?_
        refine Go.callVi 31 [vI (nI b)] [] dX4_operandHere_18 lkX4_78 (Or.inl ⟨_, _, _, rfl, rfl, rfl⟩) rfl (Nat.le_of_ble_eq_true rfl) rfl (Nat.le_of_ble_eq_true rfl) (c_sortAt hT b (by omega)) ?_
        refine Go.lsw (tgt := 58) (off := 37) dX4_operandHere_21 (by decide) (by show Op.lookupswitch.offset [(2, 32), (3, 27)] 37 _ = (37 : Int); rw [lv_osw (a := 2) g2 rfl, lv_osw (a := 3) g3 rfl]; rfl) (by decide) ?_
        refine Go.ldc dX4_operandHere_58 cnX4_33 ?_
        refine Go.ireturn .int dX4_operandHere_60 rfl rfl ?_
        exact ⟨congrArg (fun z => some (vI z)) (by unfold opnd; rw [if_neg hf, if_neg hs, if_neg hs2]; rfl), rfl⟩
theorem c_operandHere_1 {V : VV} {d : Nat} {μ : Memo} {N : Nat} {B : Nat → Nat} (hT : TpC μ N B) {b : Nat} (hb : b < N) (h5 : μ 33 5 = nI b) (h6 : μ 33 6 = nI (en N B b)) (hk : μ 33 0 = nI 1) : Ret V (d + 5) mX4_operandHere [vR 33] μ (some (vI (onO (opnd N B 1 b)))) μ := by
  show Go V (d + 5) mX4_operandHere 0 [some (vR 33)] [] μ _
  have hN := hT.1
  have hbe := en_gt (B := B) hb
  have heN := en_le (N := N) (B := B) (Nat.le_of_lt hb)
  have hs4 := srt_le (N := N) (B := B) b
  by_cases hf : flw N B b
  · skip
    refine Go.aload_n dX4_operandHere_0 rfl ?_
    refine Go.callVi 33 [] [] dX4_operandHere_1 lkX4_115 (Or.inl ⟨_, _, _, rfl, rfl, rfl⟩) rfl (Nat.le_of_ble_eq_true rfl) rfl (Nat.le_of_ble_eq_true rfl) (c_followsWord hT (by omega) h5) ?_
    refine Go.if_eqb_f (tgt := 10) dX4_operandHere_4 (by decide) hf ?_
    refine Go.ldc dX4_operandHere_7 cnX4_33 ?_
    refine Go.ireturn .int dX4_operandHere_9 rfl rfl ?_
    exact ⟨congrArg (fun z => some (vI z)) (by unfold opnd; rw [if_pos hf]; rfl), rfl⟩
  · by_cases hs : srt N B b = 3
    · skip
      refine Go.aload_n dX4_operandHere_0 rfl ?_
      refine Go.callVi 33 [] [] dX4_operandHere_1 lkX4_115 (Or.inl ⟨_, _, _, rfl, rfl, rfl⟩) rfl (Nat.le_of_ble_eq_true rfl) rfl (Nat.le_of_ble_eq_true rfl) (c_followsWord hT (by omega) h5) ?_
      refine Go.if_eqb_t (tgt := 10) dX4_operandHere_4 (by decide) hf ?_
      refine Go.aload_n dX4_operandHere_10 rfl ?_
      refine Go.getR dX4_operandHere_11 flX4_18 rfl ?_
      refine Go.aload_n dX4_operandHere_14 rfl ?_
      refine Go.at 15 rfl ?_
      refine Go.getI dX4_operandHere_15 flX4_34 rfl ?_
      refine Go.topE (y := nI b) h5 ?_
      refine Go.callVi 31 [vI (nI b)] [] dX4_operandHere_18 lkX4_78 (Or.inl ⟨_, _, _, rfl, rfl, rfl⟩) rfl (Nat.le_of_ble_eq_true rfl) rfl (Nat.le_of_ble_eq_true rfl) (c_sortAt hT b (by omega)) ?_
      refine Go.topE (y := nI 3) (by rw [hs]) ?_
      refine Go.lswV (tgt := 48) (nI 3) rfl dX4_operandHere_21 (by decide) rfl (by decide) ?_
      refine Go.aload_n dX4_operandHere_48 rfl ?_
      refine Go.callVi 33 [] [] dX4_operandHere_49 lkX4_118 (Or.inl ⟨_, _, _, rfl, rfl, rfl⟩) rfl (Nat.le_of_ble_eq_true rfl) rfl (Nat.le_of_ble_eq_true rfl) (c_numberHere hT (by omega) heN h5 h6 (fun t ht => srt_dig (en_in hb hs (by decide) (by omega) (by omega)))) ?_
      refine Go.ireturn .int dX4_operandHere_52 rfl rfl ?_
      exact ⟨congrArg (fun z => some (vI z)) (by unfold opnd; rw [if_neg hf, if_pos hs]; split <;> rfl), rfl⟩
    · by_cases hs2 : srt N B b = 2
      · skip
        refine Go.aload_n dX4_operandHere_0 rfl ?_
        refine Go.callVi 33 [] [] dX4_operandHere_1 lkX4_115 (Or.inl ⟨_, _, _, rfl, rfl, rfl⟩) rfl (Nat.le_of_ble_eq_true rfl) rfl (Nat.le_of_ble_eq_true rfl) (c_followsWord hT (by omega) h5) ?_
        refine Go.if_eqb_t (tgt := 10) dX4_operandHere_4 (by decide) hf ?_
        refine Go.aload_n dX4_operandHere_10 rfl ?_
        refine Go.getR dX4_operandHere_11 flX4_18 rfl ?_
        refine Go.aload_n dX4_operandHere_14 rfl ?_
        refine Go.at 15 rfl ?_
        refine Go.getI dX4_operandHere_15 flX4_34 rfl ?_
        refine Go.topE (y := nI b) h5 ?_
        refine Go.callVi 31 [vI (nI b)] [] dX4_operandHere_18 lkX4_78 (Or.inl ⟨_, _, _, rfl, rfl, rfl⟩) rfl (Nat.le_of_ble_eq_true rfl) rfl (Nat.le_of_ble_eq_true rfl) (c_sortAt hT b (by omega)) ?_
        refine Go.topE (y := nI 2) (by rw [hs2]) ?_
        refine Go.lswV (tgt := 53) (nI 2) rfl dX4_operandHere_21 (by decide) rfl (by decide) ?_
        refine Go.aload_n dX4_operandHere_53 rfl ?_
        refine Go.callVi 33 [] [] dX4_operandHere_54 lkX4_121 (Or.inl ⟨_, _, _, rfl, rfl, rfl⟩) rfl (Nat.le_of_ble_eq_true rfl) rfl (Nat.le_of_ble_eq_true rfl) (c_nameHere_1 hT hb (by omega) heN h5 h6 hk) ?_
        refine Go.ireturn .int dX4_operandHere_57 rfl rfl ?_
        exact ⟨congrArg (fun z => some (vI z)) (by unfold opnd; rw [if_neg hf, if_neg hs, if_pos hs2]; by_cases he1 : en N B b = b + 1 <;> simp only [he1, if_true, if_false] <;> first | rfl | (cases nmF 1 (B b) <;> rfl)), rfl⟩
      · have g2 : ¬ nI (srt N B b) = nI 2 := fun z => hs2 (nI_inj z (by omega))
        have g3 : ¬ nI (srt N B b) = nI 3 := fun z => hs (nI_inj z (by omega))
        refine Go.aload_n dX4_operandHere_0 rfl ?_
        refine Go.callVi 33 [] [] dX4_operandHere_1 lkX4_115 (Or.inl ⟨_, _, _, rfl, rfl, rfl⟩) rfl (Nat.le_of_ble_eq_true rfl) rfl (Nat.le_of_ble_eq_true rfl) (c_followsWord hT (by omega) h5) ?_
        refine Go.if_eqb_t (tgt := 10) dX4_operandHere_4 (by decide) hf ?_
        refine Go.aload_n dX4_operandHere_10 rfl ?_
        refine Go.getR dX4_operandHere_11 flX4_18 rfl ?_
        refine Go.aload_n dX4_operandHere_14 rfl ?_
        refine Go.at 15 rfl ?_
        refine Go.getI dX4_operandHere_15 flX4_34 rfl ?_
        refine Go.topE (y := nI b) h5 ?_
        refine Go.callVi 31 [vI (nI b)] [] dX4_operandHere_18 lkX4_78 (Or.inl ⟨_, _, _, rfl, rfl, rfl⟩) rfl (Nat.le_of_ble_eq_true rfl) rfl (Nat.le_of_ble_eq_true rfl) (c_sortAt hT b (by omega)) ?_
        refine Go.lsw (tgt := 58) (off := 37) dX4_operandHere_21 (by decide) (by show Op.lookupswitch.offset [(2, 32), (3, 27)] 37 _ = (37 : Int); rw [lv_osw (a := 2) g2 rfl, lv_osw (a := 3) g3 rfl]; rfl) (by decide) ?_
        refine Go.ldc dX4_operandHere_58 cnX4_33 ?_
        refine Go.ireturn .int dX4_operandHere_60 rfl rfl ?_
        exact ⟨congrArg (fun z => some (vI z)) (by unfold opnd; rw [if_neg hf, if_neg hs, if_neg hs2]; rfl), rfl⟩
theorem c_operandHere_2 {V : VV} {d : Nat} {μ : Memo} {N : Nat} {B : Nat → Nat} (hT : TpC μ N B) {b : Nat} (hb : b < N) (h5 : μ 33 5 = nI b) (h6 : μ 33 6 = nI (en N B b)) (hk : μ 33 0 = nI 2) : Ret V (d + 5) mX4_operandHere [vR 33] μ (some (vI (onO (opnd N B 2 b)))) μ := by
  show Go V (d + 5) mX4_operandHere 0 [some (vR 33)] [] μ _
  have hN := hT.1
  have hbe := en_gt (B := B) hb
  have heN := en_le (N := N) (B := B) (Nat.le_of_lt hb)
  have hs4 := srt_le (N := N) (B := B) b
  by_cases hf : flw N B b
  · skip
    refine Go.aload_n dX4_operandHere_0 rfl ?_
    refine Go.callVi 33 [] [] dX4_operandHere_1 lkX4_115 (Or.inl ⟨_, _, _, rfl, rfl, rfl⟩) rfl (Nat.le_of_ble_eq_true rfl) rfl (Nat.le_of_ble_eq_true rfl) (c_followsWord hT (by omega) h5) ?_
    refine Go.if_eqb_f (tgt := 10) dX4_operandHere_4 (by decide) hf ?_
    refine Go.ldc dX4_operandHere_7 cnX4_33 ?_
    refine Go.ireturn .int dX4_operandHere_9 rfl rfl ?_
    exact ⟨congrArg (fun z => some (vI z)) (by unfold opnd; rw [if_pos hf]; rfl), rfl⟩
  · by_cases hs : srt N B b = 3
    · skip
      refine Go.aload_n dX4_operandHere_0 rfl ?_
      refine Go.callVi 33 [] [] dX4_operandHere_1 lkX4_115 (Or.inl ⟨_, _, _, rfl, rfl, rfl⟩) rfl (Nat.le_of_ble_eq_true rfl) rfl (Nat.le_of_ble_eq_true rfl) (c_followsWord hT (by omega) h5) ?_
      refine Go.if_eqb_t (tgt := 10) dX4_operandHere_4 (by decide) hf ?_
      refine Go.aload_n dX4_operandHere_10 rfl ?_
      refine Go.getR dX4_operandHere_11 flX4_18 rfl ?_
      refine Go.aload_n dX4_operandHere_14 rfl ?_
      refine Go.at 15 rfl ?_
      refine Go.getI dX4_operandHere_15 flX4_34 rfl ?_
      refine Go.topE (y := nI b) h5 ?_
      refine Go.callVi 31 [vI (nI b)] [] dX4_operandHere_18 lkX4_78 (Or.inl ⟨_, _, _, rfl, rfl, rfl⟩) rfl (Nat.le_of_ble_eq_true rfl) rfl (Nat.le_of_ble_eq_true rfl) (c_sortAt hT b (by omega)) ?_
      refine Go.topE (y := nI 3) (by rw [hs]) ?_
      refine Go.lswV (tgt := 48) (nI 3) rfl dX4_operandHere_21 (by decide) rfl (by decide) ?_
      refine Go.aload_n dX4_operandHere_48 rfl ?_
      refine Go.callVi 33 [] [] dX4_operandHere_49 lkX4_118 (Or.inl ⟨_, _, _, rfl, rfl, rfl⟩) rfl (Nat.le_of_ble_eq_true rfl) rfl (Nat.le_of_ble_eq_true rfl) (c_numberHere hT (by omega) heN h5 h6 (fun t ht => srt_dig (en_in hb hs (by decide) (by omega) (by omega)))) ?_
      refine Go.ireturn .int dX4_operandHere_52 rfl rfl ?_
      exact ⟨congrArg (fun z => some (vI z)) (by unfold opnd; rw [if_neg hf, if_pos hs]; split <;> rfl), rfl⟩
    · by_cases hs2 : srt N B b = 2
      · skip
        refine Go.aload_n dX4_operandHere_0 rfl ?_
        refine Go.callVi 33 [] [] dX4_operandHere_1 lkX4_115 (Or.inl ⟨_, _, _, rfl, rfl, rfl⟩) rfl (Nat.le_of_ble_eq_true rfl) rfl (Nat.le_of_ble_eq_true rfl) (c_followsWord hT (by omega) h5) ?_
        refine Go.if_eqb_t (tgt := 10) dX4_operandHere_4 (by decide) hf ?_
        refine Go.aload_n dX4_operandHere_10 rfl ?_
        refine Go.getR dX4_operandHere_11 flX4_18 rfl ?_
        refine Go.aload_n dX4_operandHere_14 rfl ?_
        refine Go.at 15 rfl ?_
        refine Go.getI dX4_operandHere_15 flX4_34 rfl ?_
        refine Go.topE (y := nI b) h5 ?_
        refine Go.callVi 31 [vI (nI b)] [] dX4_operandHere_18 lkX4_78 (Or.inl ⟨_, _, _, rfl, rfl, rfl⟩) rfl (Nat.le_of_ble_eq_true rfl) rfl (Nat.le_of_ble_eq_true rfl) (c_sortAt hT b (by omega)) ?_
        refine Go.topE (y := nI 2) (by rw [hs2]) ?_
        refine Go.lswV (tgt := 53) (nI 2) rfl dX4_operandHere_21 (by decide) rfl (by decide) ?_
        refine Go.aload_n dX4_operandHere_53 rfl ?_
        refine Go.callVi 33 [] [] dX4_operandHere_54 lkX4_121 (Or.inl ⟨_, _, _, rfl, rfl, rfl⟩) rfl (Nat.le_of_ble_eq_true rfl) rfl (Nat.le_of_ble_eq_true rfl) (c_nameHere_2 hT hb (by omega) heN h5 h6 hk) ?_
        refine Go.ireturn .int dX4_operandHere_57 rfl rfl ?_
        exact ⟨congrArg (fun z => some (vI z)) (by unfold opnd; rw [if_neg hf, if_neg hs, if_pos hs2]; by_cases he1 : en N B b = b + 1 <;> simp only [he1, if_true, if_false] <;> first | rfl | (cases nmF 2 (B b) <;> rfl)), rfl⟩
      · have g2 : ¬ nI (srt N B b) = nI 2 := fun z => hs2 (nI_inj z (by omega))
        have g3 : ¬ nI (srt N B b) = nI 3 := fun z => hs (nI_inj z (by omega))
        refine Go.aload_n dX4_operandHere_0 rfl ?_
        refine Go.callVi 33 [] [] dX4_operandHere_1 lkX4_115 (Or.inl ⟨_, _, _, rfl, rfl, rfl⟩) rfl (Nat.le_of_ble_eq_true rfl) rfl (Nat.le_of_ble_eq_true rfl) (c_followsWord hT (by omega) h5) ?_
        refine Go.if_eqb_t (tgt := 10) dX4_operandHere_4 (by decide) hf ?_
        refine Go.aload_n dX4_operandHere_10 rfl ?_
        refine Go.getR dX4_operandHere_11 flX4_18 rfl ?_
        refine Go.aload_n dX4_operandHere_14 rfl ?_
        refine Go.at 15 rfl ?_
        refine Go.getI dX4_operandHere_15 flX4_34 rfl ?_
        refine Go.topE (y := nI b) h5 ?_
        refine Go.callVi 31 [vI (nI b)] [] dX4_operandHere_18 lkX4_78 (Or.inl ⟨_, _, _, rfl, rfl, rfl⟩) rfl (Nat.le_of_ble_eq_true rfl) rfl (Nat.le_of_ble_eq_true rfl) (c_sortAt hT b (by omega)) ?_
        refine Go.lsw (tgt := 58) (off := 37) dX4_operandHere_21 (by decide) (by show Op.lookupswitch.offset [(2, 32), (3, 27)] 37 _ = (37 : Int); rw [lv_osw (a := 2) g2 rfl, lv_osw (a := 3) g3 rfl]; rfl) (by decide) ?_
        refine Go.ldc dX4_operandHere_58 cnX4_33 ?_
        refine Go.ireturn .int dX4_operandHere_60 rfl rfl ?_
        exact ⟨congrArg (fun z => some (vI z)) (by unfold opnd; rw [if_neg hf, if_neg hs, if_neg hs2]; rfl), rfl⟩
theorem c_operandHere {V : VV} {d : Nat} {μ : Memo} {N : Nat} {B : Nat → Nat} (hT : TpC μ N B) {b key : Nat} (hb : b < N) (h5 : μ 33 5 = nI b) (h6 : μ 33 6 = nI (en N B b)) (hk : μ 33 0 = nI key) (hk3 : key < 3) : Ret V (d + 5) mX4_operandHere [vR 33] μ (some (vI (onO (opnd N B key b)))) μ := by
  have : key = 0 ∨ key = 1 ∨ key = 2 := by omega
  rcases this with rfl | rfl | rfl
  · exact c_operandHere_0 hT hb h5 h6 hk
  · exact c_operandHere_1 hT hb h5 h6 hk
  · exact c_operandHere_2 hT hb h5 h6 hk
def pieceC (N : Nat) (B : Nat → Nat) (key b : Nat) (P R : List Int32) (ok : Nat) : Option (List Int32 × List Int32 × Nat × Int32) :=
  if B b = 40 then (if cntL (nI 40) P + 1 ≤ 8 then some (nI 40 :: P, R, ok, nI 1) else none)
  else if B b = 33 then (if cntL (nI 33) P + 1 ≤ 8 then some (nI 33 :: P, R, ok, nI 1) else none)
  else match opnd N B key b with
    | none => none
    | some v => some ((endP P (v :: R)).1, (endP P (v :: R)).2, ok + 1, nI 0)
theorem Rst.psh40 {μ : Memo} {P R : List Int32} {ok : Nat} {due : Int32} (h : Rst μ P R ok due) : Rst (ms (ms (ms μ 33 9 (nI (cntL (nI 40) P + 1))) 35 P.length (nI 40)) 33 8 (nI (P.length + 1))) (nI 40 :: P) R ok due := by
  obtain ⟨a1, a2, a3, a4, a5, a6, a7, a8⟩ := h
  refine ⟨by simp (disch := omega) only [ms_self, ms_ne, upd_self, upd_ne]; rfl, ?_, by simp (disch := omega) only [ms_self, ms_ne, upd_self, upd_ne]; exact a3, ?_, by simp (disch := omega) only [ms_self, ms_ne, upd_self, upd_ne]; rw [cntL, if_pos rfl], by simp (disch := omega) only [ms_self, ms_ne, upd_self, upd_ne]; rw [cntL, if_neg (by decide)]; exact a6, by simp (disch := omega) only [ms_self, ms_ne, upd_self, upd_ne]; exact a7, by simp (disch := omega) only [ms_self, ms_ne, upd_self, upd_ne]; exact a8⟩
  · simp (disch := omega) only [ms_self, ms_ne, upd_self, upd_ne]; exact a2.push _
  · simp (disch := omega) only [ms_self, ms_ne, upd_self, upd_ne]; exact a4
theorem Rst.psh33 {μ : Memo} {P R : List Int32} {ok : Nat} {due : Int32} (h : Rst μ P R ok due) : Rst (ms (ms (ms μ 33 10 (nI (cntL (nI 33) P + 1))) 35 P.length (nI 33)) 33 8 (nI (P.length + 1))) (nI 33 :: P) R ok due := by
  obtain ⟨a1, a2, a3, a4, a5, a6, a7, a8⟩ := h
  refine ⟨by simp (disch := omega) only [ms_self, ms_ne, upd_self, upd_ne]; rfl, ?_, by simp (disch := omega) only [ms_self, ms_ne, upd_self, upd_ne]; exact a3, ?_, by simp (disch := omega) only [ms_self, ms_ne, upd_self, upd_ne]; rw [cntL, if_neg (by decide)]; exact a5, by simp (disch := omega) only [ms_self, ms_ne, upd_self, upd_ne]; rw [cntL, if_pos rfl], by simp (disch := omega) only [ms_self, ms_ne, upd_self, upd_ne]; exact a7, by simp (disch := omega) only [ms_self, ms_ne, upd_self, upd_ne]; exact a8⟩
  · simp (disch := omega) only [ms_self, ms_ne, upd_self, upd_ne]; exact a2.push _
  · simp (disch := omega) only [ms_self, ms_ne, upd_self, upd_ne]; exact a4
theorem Rst.okk {μ : Memo} {P R : List Int32} {ok : Nat} {due : Int32} (h : Rst μ P R ok due) : Rst (ms μ 33 1 (nI (ok + 1))) P R (ok + 1) due := by
  obtain ⟨a1, a2, a3, a4, a5, a6, a7, a8⟩ := h
  exact ⟨by simp (disch := omega) only [ms_self, ms_ne, upd_self, upd_ne]; exact a1, by simp (disch := omega) only [ms_self, ms_ne, upd_self, upd_ne]; exact a2, by simp (disch := omega) only [ms_self, ms_ne, upd_self, upd_ne]; exact a3, by simp (disch := omega) only [ms_self, ms_ne, upd_self, upd_ne]; exact a4, by simp (disch := omega) only [ms_self, ms_ne, upd_self, upd_ne]; exact a5, by simp (disch := omega) only [ms_self, ms_ne, upd_self, upd_ne]; exact a6, by simp (disch := omega) only [ms_self, ms_ne, upd_self, upd_ne], by simp (disch := omega) only [ms_self, ms_ne, upd_self, upd_ne]; exact a8⟩
theorem Rst.due1 {μ : Memo} {P R : List Int32} {ok : Nat} {due : Int32} (h : Rst μ P R ok due) (x : Int32) : Rst (ms μ 33 11 x) P R ok x := by
  obtain ⟨a1, a2, a3, a4, a5, a6, a7, a8⟩ := h
  exact ⟨by simp (disch := omega) only [ms_self, ms_ne, upd_self, upd_ne]; exact a1, by simp (disch := omega) only [ms_self, ms_ne, upd_self, upd_ne]; exact a2, by simp (disch := omega) only [ms_self, ms_ne, upd_self, upd_ne]; exact a3, by simp (disch := omega) only [ms_self, ms_ne, upd_self, upd_ne]; exact a4, by simp (disch := omega) only [ms_self, ms_ne, upd_self, upd_ne]; exact a5, by simp (disch := omega) only [ms_self, ms_ne, upd_self, upd_ne]; exact a6, by simp (disch := omega) only [ms_self, ms_ne, upd_self, upd_ne]; exact a7, by simp (disch := omega) only [ms_self, ms_ne, upd_self, upd_ne]⟩
theorem c_takePiece {V : VV} {d : Nat} {μ : Memo} {N : Nat} {B : Nat → Nat} (hT : TpC μ N B) {b key : Nat} (hb : b < N) (h5 : μ 33 5 = nI b) (h6 : μ 33 6 = nI (en N B b)) (hk : μ 33 0 = nI key) (hk3 : key < 3) {P R : List Int32} {ok : Nat} (h : Rst μ P R ok (nI 1)) (hl : P.length + R.length < 96) (h48 : cntL (nI 40) P ≤ 8) (h38 : cntL (nI 33) P ≤ 8) :
    (∀ P' R' ok' due', pieceC N B key b P R ok = some (P', R', ok', due') → RetI V (d + 6) mX4_takePiece [vR 33] μ (nI 1) (fun μ1 => Rst μ1 P' R' ok' due' ∧ FrR μ μ1)) ∧
    (pieceC N B key b P R ok = none → RetI V (d + 6) mX4_takePiece [vR 33] μ (nI 0) (fun μ1 => FrR μ μ1)) := by
  have hN := hT.1
  have hB := (hT.2.2 b hb).2
  unfold pieceC
  by_cases e40 : B b = 40
  · rw [if_pos e40]
    by_cases hc : cntL (nI 40) P + 1 ≤ 8
    · rw [if_pos hc]
      refine ⟨fun P' R' ok' due' e => ?_, fun e => by contradiction⟩
      injection e with e
      injection e with e1 e
      injection e with e2 e
      injection e with e3 e4
      subst e1 e2 e3 e4
      show Go V (d + 6) mX4_takePiece 0 [some (vR 33), none, none] [] μ _
      refine Go.aload_n dX4_takePiece_0 rfl ?_
      refine Go.getR dX4_takePiece_1 flX4_18 rfl ?_
      refine Go.aload_n dX4_takePiece_4 rfl ?_
      refine Go.getI dX4_takePiece_5 flX4_34 rfl ?_
      refine Go.topE (y := nI b) h5 ?_
      refine Go.callVi 31 [vI (nI b)] [] dX4_takePiece_8 lkX4_96 (Or.inl ⟨_, _, _, rfl, rfl, rfl⟩) rfl (Nat.le_of_ble_eq_true rfl) rfl (Nat.le_of_ble_eq_true rfl) (c_byteAt hT b (by omega)) ?_
      refine Go.topE (y := nI 40) (by rw [e40]) ?_
      refine Go.istore_n (ls' := [some (vR 33), some (vI (nI 40)), none]) dX4_takePiece_11 (by decide) rfl ?_
      refine Go.at 12 rfl ?_
      refine Go.iload_n dX4_takePiece_12 rfl ?_
      refine Go.bipush (v := nI 40) dX4_takePiece_13 rfl ?_
      refine Go.icmp_ne_f (tgt := 48) dX4_takePiece_15 (by decide) (by decide) ?_
      refine Go.aload_n dX4_takePiece_18 rfl ?_
      refine Go.dupR dX4_takePiece_19 ?_
      refine Go.getI dX4_takePiece_20 flX4_56 rfl ?_
      refine Go.topE (y := nI (cntL (nI 40) P)) h.2.2.2.2.1 ?_
      refine Go.at 23 rfl ?_
      refine Go.iconst (v := nI 1) dX4_takePiece_23 rfl ?_
      refine Go.iaddN dX4_takePiece_24 ?_
      refine Go.put dX4_takePiece_25 flX4_56 rfl rfl rfl rfl ?_
      refine Go.aload_n dX4_takePiece_28 rfl ?_
      refine Go.iload_n dX4_takePiece_29 rfl ?_
      refine Go.callVv 33 [vI (nI 40)] [] dX4_takePiece_30 lkX4_103 (Or.inl ⟨_, _, _, rfl, rfl, rfl⟩) rfl (Nat.le_of_ble_eq_true rfl) rfl (Nat.le_of_ble_eq_true rfl) (c_rpush (n := P.length) (by simp (disch := omega) only [ms_self, ms_ne, upd_self, upd_ne]; exact h.1) (by omega) (nI 40)) ?_
      refine Go.at 33 rfl ?_
      refine Go.aload_n dX4_takePiece_33 rfl ?_
      refine Go.getI dX4_takePiece_34 flX4_56 rfl ?_
      refine Go.topE (y := nI (cntL (nI 40) P + 1)) (by simp (disch := omega) only [ms_self, ms_ne, upd_self, upd_ne]) ?_
      refine Go.bipush (v := nI 8) dX4_takePiece_37 rfl ?_
      refine Go.icmp_gt_f (tgt := 46) dX4_takePiece_39 (by decide) (by rw [sI_lt, nT, nT]; omega) ?_
      refine Go.iconst (v := nI 1) dX4_takePiece_42 rfl ?_
      refine Go.goto (tgt := 47) dX4_takePiece_43 (by decide) ?_
      refine Go.at 47 rfl ?_
      refine Go.ireturn .boolean dX4_takePiece_47 rfl rfl ?_
      exact ⟨rfl, h.psh40, ((((FrR.rf _).f _ (by decide) (by decide) (by decide)).a _ (Or.inr rfl)).f _ (by decide) (by decide) (by decide))⟩
    · rw [if_neg hc]
      refine ⟨fun P' R' ok' due' e => (by contradiction), fun e => ?_⟩
      show Go V (d + 6) mX4_takePiece 0 [some (vR 33), none, none] [] μ _
      refine Go.aload_n dX4_takePiece_0 rfl ?_
      refine Go.getR dX4_takePiece_1 flX4_18 rfl ?_
      refine Go.aload_n dX4_takePiece_4 rfl ?_
      refine Go.getI dX4_takePiece_5 flX4_34 rfl ?_
      refine Go.topE (y := nI b) h5 ?_
      refine Go.callVi 31 [vI (nI b)] [] dX4_takePiece_8 lkX4_96 (Or.inl ⟨_, _, _, rfl, rfl, rfl⟩) rfl (Nat.le_of_ble_eq_true rfl) rfl (Nat.le_of_ble_eq_true rfl) (c_byteAt hT b (by omega)) ?_
      refine Go.topE (y := nI 40) (by rw [e40]) ?_
      refine Go.istore_n (ls' := [some (vR 33), some (vI (nI 40)), none]) dX4_takePiece_11 (by decide) rfl ?_
      refine Go.at 12 rfl ?_
      refine Go.iload_n dX4_takePiece_12 rfl ?_
      refine Go.bipush (v := nI 40) dX4_takePiece_13 rfl ?_
      refine Go.icmp_ne_f (tgt := 48) dX4_takePiece_15 (by decide) (by decide) ?_
      refine Go.aload_n dX4_takePiece_18 rfl ?_
      refine Go.dupR dX4_takePiece_19 ?_
      refine Go.getI dX4_takePiece_20 flX4_56 rfl ?_
      refine Go.topE (y := nI (cntL (nI 40) P)) h.2.2.2.2.1 ?_
      refine Go.at 23 rfl ?_
      refine Go.iconst (v := nI 1) dX4_takePiece_23 rfl ?_
      refine Go.iaddN dX4_takePiece_24 ?_
      refine Go.put dX4_takePiece_25 flX4_56 rfl rfl rfl rfl ?_
      refine Go.aload_n dX4_takePiece_28 rfl ?_
      refine Go.iload_n dX4_takePiece_29 rfl ?_
      refine Go.callVv 33 [vI (nI 40)] [] dX4_takePiece_30 lkX4_103 (Or.inl ⟨_, _, _, rfl, rfl, rfl⟩) rfl (Nat.le_of_ble_eq_true rfl) rfl (Nat.le_of_ble_eq_true rfl) (c_rpush (n := P.length) (by simp (disch := omega) only [ms_self, ms_ne, upd_self, upd_ne]; exact h.1) (by omega) (nI 40)) ?_
      refine Go.at 33 rfl ?_
      refine Go.aload_n dX4_takePiece_33 rfl ?_
      refine Go.getI dX4_takePiece_34 flX4_56 rfl ?_
      refine Go.topE (y := nI (cntL (nI 40) P + 1)) (by simp (disch := omega) only [ms_self, ms_ne, upd_self, upd_ne]) ?_
      refine Go.bipush (v := nI 8) dX4_takePiece_37 rfl ?_
      refine Go.icmp_gt_t (tgt := 46) dX4_takePiece_39 (by decide) (by rw [sI_lt, nT, nT]; omega) ?_
      refine Go.iconst (v := nI 0) dX4_takePiece_46 rfl ?_
      refine Go.ireturn .boolean dX4_takePiece_47 rfl rfl ?_
      exact ⟨rfl, ((((FrR.rf _).f _ (by decide) (by decide) (by decide)).a _ (Or.inr rfl)).f _ (by decide) (by decide) (by decide))⟩
  · rw [if_neg e40]
    have n40 : ¬ nI (B b) = nI 40 := fun z => e40 (nI_inj z hB)
    by_cases e33 : B b = 33
    · rw [if_pos e33]
      by_cases hc : cntL (nI 33) P + 1 ≤ 8
      · rw [if_pos hc]
        refine ⟨fun P' R' ok' due' e => ?_, fun e => by contradiction⟩
        injection e with e
        injection e with e1 e
        injection e with e2 e
        injection e with e3 e4
        subst e1 e2 e3 e4
        show Go V (d + 6) mX4_takePiece 0 [some (vR 33), none, none] [] μ _
        refine Go.aload_n dX4_takePiece_0 rfl ?_
        refine Go.getR dX4_takePiece_1 flX4_18 rfl ?_
        refine Go.aload_n dX4_takePiece_4 rfl ?_
        refine Go.getI dX4_takePiece_5 flX4_34 rfl ?_
        refine Go.topE (y := nI b) h5 ?_
        refine Go.callVi 31 [vI (nI b)] [] dX4_takePiece_8 lkX4_96 (Or.inl ⟨_, _, _, rfl, rfl, rfl⟩) rfl (Nat.le_of_ble_eq_true rfl) rfl (Nat.le_of_ble_eq_true rfl) (c_byteAt hT b (by omega)) ?_
        refine Go.topE (y := nI 33) (by rw [e33]) ?_
        refine Go.istore_n (ls' := [some (vR 33), some (vI (nI 33)), none]) dX4_takePiece_11 (by decide) rfl ?_
        refine Go.at 12 rfl ?_
        refine Go.iload_n dX4_takePiece_12 rfl ?_
        refine Go.bipush (v := nI 40) dX4_takePiece_13 rfl ?_
        refine Go.icmp_ne_t (tgt := 48) dX4_takePiece_15 (by decide) (by decide) ?_
        refine Go.iload_n dX4_takePiece_48 rfl ?_
        refine Go.bipush (v := nI 33) dX4_takePiece_49 rfl ?_
        refine Go.icmp_ne_f (tgt := 84) dX4_takePiece_51 (by decide) (by decide) ?_
        refine Go.at 54 rfl ?_
        refine Go.aload_n dX4_takePiece_54 rfl ?_
        refine Go.dupR dX4_takePiece_55 ?_
        refine Go.getI dX4_takePiece_56 flX4_72 rfl ?_
        refine Go.topE (y := nI (cntL (nI 33) P)) h.2.2.2.2.2.1 ?_
        refine Go.iconst (v := nI 1) dX4_takePiece_59 rfl ?_
        refine Go.iaddN dX4_takePiece_60 ?_
        refine Go.put dX4_takePiece_61 flX4_72 rfl rfl rfl rfl ?_
        refine Go.at 64 rfl ?_
        refine Go.aload_n dX4_takePiece_64 rfl ?_
        refine Go.iload_n dX4_takePiece_65 rfl ?_
        refine Go.callVv 33 [vI (nI 33)] [] dX4_takePiece_66 lkX4_103 (Or.inl ⟨_, _, _, rfl, rfl, rfl⟩) rfl (Nat.le_of_ble_eq_true rfl) rfl (Nat.le_of_ble_eq_true rfl) (c_rpush (n := P.length) (by simp (disch := omega) only [ms_self, ms_ne, upd_self, upd_ne]; exact h.1) (by omega) (nI 33)) ?_
        refine Go.aload_n dX4_takePiece_69 rfl ?_
        refine Go.getI dX4_takePiece_70 flX4_72 rfl ?_
        refine Go.topE (y := nI (cntL (nI 33) P + 1)) (by simp (disch := omega) only [ms_self, ms_ne, upd_self, upd_ne]) ?_
        refine Go.bipush (v := nI 8) dX4_takePiece_73 rfl ?_
        refine Go.at 75 rfl ?_
        refine Go.icmp_gt_f (tgt := 82) dX4_takePiece_75 (by decide) (by rw [sI_lt, nT, nT]; omega) ?_
        refine Go.iconst (v := nI 1) dX4_takePiece_78 rfl ?_
        refine Go.goto (tgt := 83) dX4_takePiece_79 (by decide) ?_
        refine Go.ireturn .boolean dX4_takePiece_83 rfl rfl ?_
        exact ⟨rfl, h.psh33, ((((FrR.rf _).f _ (by decide) (by decide) (by decide)).a _ (Or.inr rfl)).f _ (by decide) (by decide) (by decide))⟩
      · rw [if_neg hc]
        refine ⟨fun P' R' ok' due' e => (by contradiction), fun e => ?_⟩
        show Go V (d + 6) mX4_takePiece 0 [some (vR 33), none, none] [] μ _
        refine Go.aload_n dX4_takePiece_0 rfl ?_
        refine Go.getR dX4_takePiece_1 flX4_18 rfl ?_
        refine Go.aload_n dX4_takePiece_4 rfl ?_
        refine Go.getI dX4_takePiece_5 flX4_34 rfl ?_
        refine Go.topE (y := nI b) h5 ?_
        refine Go.callVi 31 [vI (nI b)] [] dX4_takePiece_8 lkX4_96 (Or.inl ⟨_, _, _, rfl, rfl, rfl⟩) rfl (Nat.le_of_ble_eq_true rfl) rfl (Nat.le_of_ble_eq_true rfl) (c_byteAt hT b (by omega)) ?_
        refine Go.topE (y := nI 33) (by rw [e33]) ?_
        refine Go.istore_n (ls' := [some (vR 33), some (vI (nI 33)), none]) dX4_takePiece_11 (by decide) rfl ?_
        refine Go.at 12 rfl ?_
        refine Go.iload_n dX4_takePiece_12 rfl ?_
        refine Go.bipush (v := nI 40) dX4_takePiece_13 rfl ?_
        refine Go.icmp_ne_t (tgt := 48) dX4_takePiece_15 (by decide) (by decide) ?_
        refine Go.iload_n dX4_takePiece_48 rfl ?_
        refine Go.bipush (v := nI 33) dX4_takePiece_49 rfl ?_
        refine Go.icmp_ne_f (tgt := 84) dX4_takePiece_51 (by decide) (by decide) ?_
        refine Go.at 54 rfl ?_
        refine Go.aload_n dX4_takePiece_54 rfl ?_
        refine Go.dupR dX4_takePiece_55 ?_
        refine Go.getI dX4_takePiece_56 flX4_72 rfl ?_
        refine Go.topE (y := nI (cntL (nI 33) P)) h.2.2.2.2.2.1 ?_
        refine Go.iconst (v := nI 1) dX4_takePiece_59 rfl ?_
        refine Go.iaddN dX4_takePiece_60 ?_
        refine Go.put dX4_takePiece_61 flX4_72 rfl rfl rfl rfl ?_
        refine Go.at 64 rfl ?_
        refine Go.aload_n dX4_takePiece_64 rfl ?_
        refine Go.iload_n dX4_takePiece_65 rfl ?_
        refine Go.callVv 33 [vI (nI 33)] [] dX4_takePiece_66 lkX4_103 (Or.inl ⟨_, _, _, rfl, rfl, rfl⟩) rfl (Nat.le_of_ble_eq_true rfl) rfl (Nat.le_of_ble_eq_true rfl) (c_rpush (n := P.length) (by simp (disch := omega) only [ms_self, ms_ne, upd_self, upd_ne]; exact h.1) (by omega) (nI 33)) ?_
        refine Go.aload_n dX4_takePiece_69 rfl ?_
        refine Go.getI dX4_takePiece_70 flX4_72 rfl ?_
        refine Go.topE (y := nI (cntL (nI 33) P + 1)) (by simp (disch := omega) only [ms_self, ms_ne, upd_self, upd_ne]) ?_
        refine Go.bipush (v := nI 8) dX4_takePiece_73 rfl ?_
        refine Go.at 75 rfl ?_
        refine Go.icmp_gt_t (tgt := 82) dX4_takePiece_75 (by decide) (by rw [sI_lt, nT, nT]; omega) ?_
        refine Go.iconst (v := nI 0) dX4_takePiece_82 rfl ?_
        refine Go.ireturn .boolean dX4_takePiece_83 rfl rfl ?_
        exact ⟨rfl, ((((FrR.rf _).f _ (by decide) (by decide) (by decide)).a _ (Or.inr rfl)).f _ (by decide) (by decide) (by decide))⟩
    · rw [if_neg e33]
      have n33 : ¬ nI (B b) = nI 33 := fun z => e33 (nI_inj z hB)
      cases ho : opnd N B key b with
      | none =>
        refine ⟨fun P' R' ok' due' e => (by contradiction), fun e => ?_⟩
        show Go V (d + 6) mX4_takePiece 0 [some (vR 33), none, none] [] μ _
        refine Go.aload_n dX4_takePiece_0 rfl ?_
        refine Go.getR dX4_takePiece_1 flX4_18 rfl ?_
        refine Go.aload_n dX4_takePiece_4 rfl ?_
        refine Go.getI dX4_takePiece_5 flX4_34 rfl ?_
        refine Go.topE (y := nI b) h5 ?_
        refine Go.callVi 31 [vI (nI b)] [] dX4_takePiece_8 lkX4_96 (Or.inl ⟨_, _, _, rfl, rfl, rfl⟩) rfl (Nat.le_of_ble_eq_true rfl) rfl (Nat.le_of_ble_eq_true rfl) (c_byteAt hT b (by omega)) ?_
        refine Go.istore_n (ls' := [some (vR 33), some (vI (nI (B b))), none]) dX4_takePiece_11 (by decide) rfl ?_
        refine Go.at 12 rfl ?_
        refine Go.iload_n dX4_takePiece_12 rfl ?_
        refine Go.bipush (v := nI 40) dX4_takePiece_13 rfl ?_
        refine Go.icmp_ne_t (tgt := 48) dX4_takePiece_15 (by decide) n40 ?_
        refine Go.iload_n dX4_takePiece_48 rfl ?_
        refine Go.bipush (v := nI 33) dX4_takePiece_49 rfl ?_
        refine Go.icmp_ne_t (tgt := 84) dX4_takePiece_51 (by decide) n33 ?_
        refine Go.at 84 rfl ?_
        refine Go.aload_n dX4_takePiece_84 rfl ?_
        refine Go.callVi 33 [] [] dX4_takePiece_85 lkX4_106 (Or.inl ⟨_, _, _, rfl, rfl, rfl⟩) rfl (Nat.le_of_ble_eq_true rfl) rfl (Nat.le_of_ble_eq_true rfl) (c_operandHere hT hb h5 h6 hk hk3) ?_
        refine Go.topE (y := (-1000000005)) (by rw [ho]; rfl) ?_
        refine Go.istore_n (ls' := [some (vR 33), some (vI (nI (B b))), some (vI (-1000000005))]) dX4_takePiece_88 (by decide) rfl ?_
        refine Go.iload_n dX4_takePiece_89 rfl ?_
        refine Go.ldc dX4_takePiece_90 cnX4_33 ?_
        refine Go.icmp_ne_f (tgt := 97) dX4_takePiece_92 (by decide) (by decide) ?_
        refine Go.at 95 rfl ?_
        refine Go.iconst (v := nI 0) dX4_takePiece_95 rfl ?_
        refine Go.ireturn .boolean dX4_takePiece_96 rfl rfl ?_
        exact ⟨rfl, FrR.rf _⟩
      | some v =>
        have hv := opnd_ne hb ho
        refine ⟨fun P' R' ok' due' e => ?_, fun e => by contradiction⟩
        injection e with e
        injection e with e1 e
        injection e with e2 e
        injection e with e3 e4
        subst e1 e2 e3 e4
        show Go V (d + 6) mX4_takePiece 0 [some (vR 33), none, none] [] μ _
        refine Go.aload_n dX4_takePiece_0 rfl ?_
        refine Go.getR dX4_takePiece_1 flX4_18 rfl ?_
        refine Go.aload_n dX4_takePiece_4 rfl ?_
        refine Go.getI dX4_takePiece_5 flX4_34 rfl ?_
        refine Go.topE (y := nI b) h5 ?_
        refine Go.callVi 31 [vI (nI b)] [] dX4_takePiece_8 lkX4_96 (Or.inl ⟨_, _, _, rfl, rfl, rfl⟩) rfl (Nat.le_of_ble_eq_true rfl) rfl (Nat.le_of_ble_eq_true rfl) (c_byteAt hT b (by omega)) ?_
        refine Go.istore_n (ls' := [some (vR 33), some (vI (nI (B b))), none]) dX4_takePiece_11 (by decide) rfl ?_
        refine Go.at 12 rfl ?_
        refine Go.iload_n dX4_takePiece_12 rfl ?_
        refine Go.bipush (v := nI 40) dX4_takePiece_13 rfl ?_
        refine Go.icmp_ne_t (tgt := 48) dX4_takePiece_15 (by decide) n40 ?_
        refine Go.iload_n dX4_takePiece_48 rfl ?_
        refine Go.bipush (v := nI 33) dX4_takePiece_49 rfl ?_
        refine Go.icmp_ne_t (tgt := 84) dX4_takePiece_51 (by decide) n33 ?_
        refine Go.at 84 rfl ?_
        refine Go.aload_n dX4_takePiece_84 rfl ?_
        refine Go.callVi 33 [] [] dX4_takePiece_85 lkX4_106 (Or.inl ⟨_, _, _, rfl, rfl, rfl⟩) rfl (Nat.le_of_ble_eq_true rfl) rfl (Nat.le_of_ble_eq_true rfl) (c_operandHere hT hb h5 h6 hk hk3) ?_
        refine Go.topE (y := v) (by rw [ho]; rfl) ?_
        refine Go.istore_n (ls' := [some (vR 33), some (vI (nI (B b))), some (vI v)]) dX4_takePiece_88 (by decide) rfl ?_
        refine Go.iload_n dX4_takePiece_89 rfl ?_
        refine Go.ldc dX4_takePiece_90 cnX4_33 ?_
        refine Go.icmp_ne_t (tgt := 97) dX4_takePiece_92 (by decide) hv ?_
        refine Go.at 97 rfl ?_
        refine Go.aload_n dX4_takePiece_97 rfl ?_
        refine Go.iload_n dX4_takePiece_98 rfl ?_
        refine Go.callVv 33 [vI v] [] dX4_takePiece_99 lkX4_109 (Or.inl ⟨_, _, _, rfl, rfl, rfl⟩) rfl (Nat.le_of_ble_eq_true rfl) rfl (Nat.le_of_ble_eq_true rfl) (c_rput (n := R.length) h.2.2.1 (by omega) v) ?_
        refine Go.aload_n dX4_takePiece_102 rfl ?_
        refine Go.dupR dX4_takePiece_103 ?_
        refine Go.getI dX4_takePiece_104 flX4_63 rfl ?_
        refine Go.topE (y := nI ok) (by simp (disch := omega) only [ms_self, ms_ne, upd_self, upd_ne]; exact h.2.2.2.2.2.2.1) ?_
        refine Go.at 107 rfl ?_
        refine Go.iconst (v := nI 1) dX4_takePiece_107 rfl ?_
        refine Go.iaddN dX4_takePiece_108 ?_
        refine Go.put dX4_takePiece_109 flX4_63 rfl rfl rfl rfl ?_
        refine Go.aload_n dX4_takePiece_112 rfl ?_
        refine Go.callVu 33 [] [] dX4_takePiece_113 lkX4_112 (Or.inl ⟨_, _, _, rfl, rfl, rfl⟩) rfl (Nat.le_of_ble_eq_true rfl) rfl (Nat.le_of_ble_eq_true rfl) (c_endPiece (h.ptv v).okk (by simp only [List.length_cons]; omega) h38) (fun μ1 k1 => ?_)
        refine Go.iconst (v := nI 1) dX4_takePiece_116 rfl ?_
        refine Go.at 117 rfl ?_
        refine Go.ireturn .boolean dX4_takePiece_117 rfl rfl ?_
        exact ⟨rfl, k1.1, ((((FrR.rf _).a _ (Or.inl rfl)).f _ (by decide) (by decide) (by decide)).f _ (by decide) (by decide) (by decide)).tr k1.2⟩
