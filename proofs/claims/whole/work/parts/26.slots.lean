theorem lgc_le (x y : Int64) : (lg_cmp x y ≤ 0) ↔ x.toInt ≤ y.toInt := by
  have := lgc_gt x y
  rw [sI_lt, Int32.toInt_zero] at this
  rw [sI_le, Int32.toInt_zero]
  omega
theorem nT24 {N : Nat} (h : N ≤ 24) : (nI N).toInt = N := by rw [nT]; omega
theorem lt0I (x : Int32) : x < 0 ↔ x.toInt < 0 := by rw [sI_lt, Int32.toInt_zero]
theorem hpl_iff (x m : Int32) {N : Nat} (hN : N ≤ 24) : (0 ≤ x ∧ 0 ≤ m ∧ x ≤ nI N ∧ m ≤ nI N - x) ↔ (0 ≤ x.toInt ∧ 0 ≤ m.toInt ∧ x.toInt + m.toInt ≤ N) := by
  rw [sI_le, sI_le, sI_le, sI_le, Int32.toInt_zero, nT24 hN]
  constructor
  · rintro ⟨h1, h2, h3, h4⟩
    have e : (nI N - x).toInt = N - x.toInt := by rw [tI_sub, nT24 hN]; omega
    rw [e] at h4; omega
  · rintro ⟨h1, h2, h3⟩
    have e : (nI N - x).toInt = N - x.toInt := by rw [tI_sub, nT24 hN]; omega
    rw [e]; omega
theorem natI {x : Int32} {N : Nat} (h : 0 ≤ x.toInt) (h2 : x.toInt ≤ N) (hN : N < 1000) : ∃ p, p ≤ N ∧ x = nI p := ⟨x.toInt.toNat, by omega, by rw [sI_eq, nT]; omega⟩
theorem c_reads_lp {V : VV} {d : Nat} {μ0 : Memo} {s vs : Nat → Int32} (hI0 : Isl 7 μ0 s) (hX0 : Txr μ0 s) (hT : TxtsOK s) {k n : Nat} (hk : k < 4) (hn : n ≤ 24) (en : μ0 (53 + k) 1 = nI n) (hv : ∀ i, i < 24 → vs i = μ0 (57 + k) i) :
    ∀ (j i : Nat) (μ : Memo), i + j = n → Fr [1, 6] μ0 μ → Go V (d + 4) mX1_firstNotLevel 2 [some (vR 7), some (vR (53 + k)), some (vI (nI i)), none] [] μ (fun r' μ'' => r' = some (vI (rdsL vs s i j)) ∧ Fr [1, 6] μ0 μ'')
  | 0, i, μ, hij, hf => by
    obtain rfl : i = n := by omega
    refine Go.iload_n dX1_firstNotLevel_2 rfl ?_
    refine Go.aload_n dX1_firstNotLevel_3 rfl ?_
    refine Go.getI dX1_firstNotLevel_4 flX1_163 (shA hk).2.1 ?_
    refine Go.topE (y := nI i) ((congrFun (hf (53 + k) (by simp only [List.mem_cons, List.not_mem_nil, or_false]; omega)) 1).trans en) ?_
    refine Go.icmp_ge_t (tgt := 40) dX1_firstNotLevel_7 (by decide) (by rw [sI_le]; exact Int.le_refl _) ?_
    refine Go.ldc dX1_firstNotLevel_40 cnX1_41 ?_
    refine Go.ireturn .int dX1_firstNotLevel_42 rfl rfl ?_
    exact ⟨rfl, hf⟩
  | j + 1, i, μ, hij, hf => by
    have hi : i < n := by omega
    rw [rdsL]
    have hI : Isl 7 μ s := hI0.fr isB7 hf
    have hX : Txr μ s := hX0.fr hT.1 hf
    refine Go.iload_n dX1_firstNotLevel_2 rfl ?_
    refine Go.aload_n dX1_firstNotLevel_3 rfl ?_
    refine Go.getI dX1_firstNotLevel_4 flX1_163 (shA hk).2.1 ?_
    refine Go.topE (y := nI n) ((congrFun (hf (53 + k) (by simp only [List.mem_cons, List.not_mem_nil, or_false]; omega)) 1).trans en) ?_
    refine Go.icmp_ge_f (tgt := 40) dX1_firstNotLevel_7 (by decide) (nI_ge hi (by omega)) ?_
    refine Go.aload_n dX1_firstNotLevel_10 rfl ?_
    refine Go.getR dX1_firstNotLevel_11 flX1_168 (shA hk).2.2.1 ?_
    refine Go.at 14 rfl ?_
    refine Go.iload_n dX1_firstNotLevel_14 rfl ?_
    refine Go.iaload i dX1_firstNotLevel_15 (shA hk).2.2.2.1 (by omega) rfl ?_
    refine Go.topE (y := vs i) ((congrFun (hf (57 + k) (by simp only [List.mem_cons, List.not_mem_nil, or_false]; omega)) i).trans (hv i (by omega)).symm) ?_
    refine Go.istore_n (ls' := [some (vR 7), some (vR (53 + k)), some (vI (nI i)), some (vI (vs i))]) dX1_firstNotLevel_16 (by decide) rfl ?_
    refine Go.iload_n dX1_firstNotLevel_17 rfl ?_
    refine Go.ldc dX1_firstNotLevel_18 cnX1_41 ?_
    refine Go.icmp_eq (tgt := 34) dX1_firstNotLevel_20 (by decide) (fun h20 => ?_) (fun h20 => ?_)
    · -- 20 taken
      refine Go.iinc (v := nI (i + 1)) (ls' := [some (vR 7), some (vR (53 + k)), some (vI (nI (i + 1))), some (vI (vs i))]) dX1_firstNotLevel_34 rfl (nI_add _ _) (by decide) rfl ?_
      refine Go.goto (tgt := 2) dX1_firstNotLevel_37 (by decide) ?_
      refine Go.mask [true, true, true, false] rfl ?_
      rw [if_pos h20]
      exact c_reads_lp hI0 hX0 hT hk hn en hv j (i + 1) _ (by omega) hf
    · -- 20 not
      refine Go.iload_n dX1_firstNotLevel_23 rfl ?_
      refine Go.aload_n dX1_firstNotLevel_24 rfl ?_
      refine Go.iload_n dX1_firstNotLevel_25 rfl ?_
      refine Go.callVx 7 [vI (nI i)] [vI (vs i)] dX1_firstNotLevel_26 lkX1_99 (Or.inl ⟨_, _, _, rfl, rfl, rfl⟩) rfl (Nat.le_of_ble_eq_true rfl) rfl (Nat.le_of_ble_eq_true rfl) (c_level isB7 hI hX hT (nI i)) (fun μ1 k1 => ?_)
      refine Go.icmp_eq (tgt := 34) dX1_firstNotLevel_29 (by decide) (fun h29 => ?_) (fun h29 => ?_)
      · -- 29 taken
        refine Go.iinc (v := nI (i + 1)) (ls' := [some (vR 7), some (vR (53 + k)), some (vI (nI (i + 1))), some (vI (vs i))]) dX1_firstNotLevel_34 rfl (nI_add _ _) (by decide) rfl ?_
        refine Go.goto (tgt := 2) dX1_firstNotLevel_37 (by decide) ?_
        refine Go.mask [true, true, true, false] rfl ?_
        rw [if_neg h20, if_pos h29]
        exact c_reads_lp hI0 hX0 hT hk hn en hv j (i + 1) _ (by omega) (hf.trans k1)
      · -- 29 not
        refine Go.iload_n dX1_firstNotLevel_32 rfl ?_
        refine Go.ireturn .int dX1_firstNotLevel_33 rfl rfl ?_
        exact ⟨by rw [if_neg h20, if_neg h29], hf.trans k1⟩
theorem m_reads_lp {V : VV} {d : Nat} {μ0 : Memo} {s vs : Nat → Int32} (hs0 : μ0 77 = s) (hT : TxtsOK s) {k n : Nat} (hk : k < 4) (hn : n ≤ 24) (en : μ0 81 k = nI n) (hv : ∀ i, i < 24 → vs i = μ0 82 (24 * k + i)) :
    ∀ (j i : Nat) (μ : Memo), i + j = n → Fr [90, 91] μ0 μ → Go V (d + 4) mX9_reads 25 [some (vR 76), some (vI (nI k)), some (vI (nI i)), none] [] μ (fun r' μ'' => r' = some (vI (rdsL vs s i j)) ∧ Fr [90, 91] μ0 μ'')
  | 0, i, μ, hij, hf => by
    obtain rfl : i = n := by omega
    refine Go.iload_n dX9_reads_25 rfl ?_
    refine Go.aload_n dX9_reads_26 rfl ?_
    refine Go.getR dX9_reads_27 flX9_22 rfl ?_
    refine Go.iload_n dX9_reads_30 rfl ?_
    refine Go.iaload k dX9_reads_31 rfl (by omega) rfl ?_
    refine Go.topE (y := nI i) ((congrFun (hf 81 (by simp only [List.mem_cons, List.not_mem_nil, or_false]; omega)) k).trans en) ?_
    refine Go.icmp_ge_t (tgt := 70) dX9_reads_32 (by decide) (by rw [sI_le]; exact Int.le_refl _) ?_
    refine Go.at 70 rfl ?_
    refine Go.ldc dX9_reads_70 cnX9_64 ?_
    refine Go.ireturn .int dX9_reads_72 rfl rfl ?_
    exact ⟨rfl, hf⟩
  | j + 1, i, μ, hij, hf => by
    have hi : i < n := by omega
    rw [rdsL]
    have hs : μ 77 = s := (hf 77 (by decide)).trans hs0
    refine Go.iload_n dX9_reads_25 rfl ?_
    refine Go.aload_n dX9_reads_26 rfl ?_
    refine Go.getR dX9_reads_27 flX9_22 rfl ?_
    refine Go.iload_n dX9_reads_30 rfl ?_
    refine Go.iaload k dX9_reads_31 rfl (by omega) rfl ?_
    refine Go.topE (y := nI n) ((congrFun (hf 81 (by simp only [List.mem_cons, List.not_mem_nil, or_false]; omega)) k).trans en) ?_
    refine Go.icmp_ge_f (tgt := 70) dX9_reads_32 (by decide) (nI_ge hi (by omega)) ?_
    refine Go.at 35 rfl ?_
    refine Go.aload_n dX9_reads_35 rfl ?_
    refine Go.getR dX9_reads_36 flX9_25 rfl ?_
    refine Go.bipush (v := nI 24) dX9_reads_39 rfl ?_
    refine Go.iload_n dX9_reads_41 rfl ?_
    refine Go.imulN dX9_reads_42 ?_
    refine Go.iload_n dX9_reads_43 rfl ?_
    refine Go.at 44 rfl ?_
    refine Go.iaddN dX9_reads_44 ?_
    refine Go.iaload ((24 * k) + i) dX9_reads_45 rfl (by omega) rfl ?_
    refine Go.topE (y := vs i) ((congrFun (hf 82 (by simp only [List.mem_cons, List.not_mem_nil, or_false]; omega)) _).trans (hv i (by omega)).symm) ?_
    refine Go.istore_n (ls' := [some (vR 76), some (vI (nI k)), some (vI (nI i)), some (vI (vs i))]) dX9_reads_46 (by decide) rfl ?_
    refine Go.iload_n dX9_reads_47 rfl ?_
    refine Go.ldc dX9_reads_48 cnX9_64 ?_
    refine Go.icmp_eq (tgt := 64) dX9_reads_50 (by decide) (fun h50 => ?_) (fun h50 => ?_)
    · -- 50 taken
      refine Go.iinc (v := nI (i + 1)) (ls' := [some (vR 76), some (vI (nI k)), some (vI (nI (i + 1))), some (vI (vs i))]) dX9_reads_64 rfl (nI_add _ _) (by decide) rfl ?_
      refine Go.goto (tgt := 25) dX9_reads_67 (by decide) ?_
      refine Go.mask [true, true, true, false] rfl ?_
      rw [if_pos h50]
      exact m_reads_lp hs0 hT hk hn en hv j (i + 1) _ (by omega) hf
    · -- 50 not
      refine Go.iload_n dX9_reads_53 rfl ?_
      refine Go.aload_n dX9_reads_54 rfl ?_
      refine Go.iload_n dX9_reads_55 rfl ?_
      refine Go.callVx 76 [vI (nI i)] [vI (vs i)] dX9_reads_56 lkX9_87 (Or.inl ⟨_, _, _, rfl, rfl, rfl⟩) rfl (Nat.le_of_ble_eq_true rfl) rfl (Nat.le_of_ble_eq_true rfl) (m_level hs hT (nI i)) (fun μ1 k1 => ?_)
      refine Go.icmp_eq (tgt := 64) dX9_reads_59 (by decide) (fun h59 => ?_) (fun h59 => ?_)
      · -- 59 taken
        refine Go.iinc (v := nI (i + 1)) (ls' := [some (vR 76), some (vI (nI k)), some (vI (nI (i + 1))), some (vI (vs i))]) dX9_reads_64 rfl (nI_add _ _) (by decide) rfl ?_
        refine Go.goto (tgt := 25) dX9_reads_67 (by decide) ?_
        refine Go.mask [true, true, true, false] rfl ?_
        rw [if_neg h50, if_pos h59]
        exact m_reads_lp hs0 hT hk hn en hv j (i + 1) _ (by omega) (hf.trans k1)
      · -- 59 not
        refine Go.iload_n dX9_reads_62 rfl ?_
        refine Go.ireturn .int dX9_reads_63 rfl rfl ?_
        exact ⟨by rw [if_neg h50, if_neg h59], hf.trans k1⟩
theorem c_reads {V : VV} {d : Nat} {μ : Memo} {s vs : Nat → Int32} (hI : Isl 7 μ s) (hX : Txr μ s) (hT : TxtsOK s) {k n : Nat} (hk : k < 4) (hn : n ≤ 24) (en : μ (53 + k) 1 = nI n) (hv : ∀ i, i < 24 → vs i = μ (57 + k) i) : RetI V (d + 4) mX1_firstNotLevel [vR 7, vR (53 + k)] μ (rdsL vs s 0 n) (Fr [1, 6] μ) := by
  show Go V (d + 4) mX1_firstNotLevel 0 [some (vR 7), some (vR (53 + k)), none, none] [] μ _
  refine Go.iconst (v := nI 0) dX1_firstNotLevel_0 rfl ?_
  refine Go.istore_n (ls' := [some (vR 7), some (vR (53 + k)), some (vI (nI 0)), none]) dX1_firstNotLevel_1 (by decide) rfl ?_
  exact c_reads_lp hI hX hT hk hn en hv n 0 _ (by omega) (Fr.rf _ _)
theorem op_reads {V : VV} {d : Nat} {μ : Memo} (hS : Sim μ) (k0 : Int32) : OpOK V (d + 5) mX8_reads mX9_reads [vI k0] μ := by
  obtain ⟨⟨hT, hCo, hKd, hO, hH⟩, hI, hX, hIm, hSh, hSl, hTp, hWt⟩ := id hS
  by_cases h1 : nI 0 ≤ k0 ∧ k0 ≤ nI 3
  · skip
    obtain ⟨k, hk0, rfl⟩ := in_nI (by decide) h1
    have hk : k < 4 := by omega
    obtain ⟨a1, a2, a3, ⟨n, hn, en⟩, a4⟩ := hSh k hk
    rcases a2 with es | es | es
    · skip
      refine OpOK.q (x := (-1000000011)) hS ?_ (fun μ5 k5 => ?_)
      · show Go V (d + 5) mX8_reads 0 [some (vR 0), some (vI (nI k)), none] [] μ _
        refine Go.iload_n dX8_reads_0 rfl ?_
        refine Go.callSi [vI (nI k)] [] dX8_reads_1 lkX8_227 rfl (Nat.le_of_ble_eq_true rfl) rfl (Nat.le_of_ble_eq_true rfl) (c_isSheet (nI k)) ?_
        refine Go.if_neb_t (tgt := 10) dX8_reads_4 (by decide) h1 ?_
        refine Go.aload_n dX8_reads_10 rfl ?_
        refine Go.getR dX8_reads_11 flX8_49 rfl ?_
        refine Go.iload_n dX8_reads_14 rfl ?_
        refine Go.at 15 rfl ?_
        refine Go.aaload (r := 53 + k) k dX8_reads_15 (arSh hk) rfl ?_
        refine Go.astore_n (ls' := [some (vR 0), some (vI (nI k)), some (vR (53 + k))]) dX8_reads_16 (by decide) rfl ?_
        refine Go.aload_n dX8_reads_17 rfl ?_
        refine Go.getI dX8_reads_18 flX8_235 (shA hk).1 ?_
        refine Go.topE (y := (-1)) (a1.trans es) ?_
        refine Go.iconst (v := (-1)) dX8_reads_21 rfl ?_
        refine Go.icmp_ne_f (tgt := 30) dX8_reads_22 (by decide) (by decide) ?_
        refine Go.at 25 rfl ?_
        refine Go.ldc dX8_reads_25 cnX8_238 ?_
        refine Go.goto (tgt := 38) dX8_reads_27 (by decide) ?_
        refine Go.ireturn .int dX8_reads_38 rfl rfl ?_
        exact ⟨rfl, Fr.rf _ _⟩
      · skip
        have e80 : μ5 80 k = (-1) := (congrFun (k5 80 (by simp only [List.mem_cons, List.not_mem_nil, or_false]; omega)) k).trans es
        have e81 : μ5 81 k = nI n := (congrFun (k5 81 (by simp only [List.mem_cons, List.not_mem_nil, or_false]; omega)) k).trans en
        show Go V (d + 5) mX9_reads 0 [some (vR 76), some (vI (nI k)), none, none] [] μ5 _
        refine Go.iload_n dX9_reads_0 rfl ?_
        refine Go.callSi [vI (nI k)] [] dX9_reads_1 lkX9_285 rfl (Nat.le_of_ble_eq_true rfl) rfl (Nat.le_of_ble_eq_true rfl) (m_isSheet (nI k)) ?_
        refine Go.if_neb_t (tgt := 10) dX9_reads_4 (by decide) h1 ?_
        refine Go.aload_n dX9_reads_10 rfl ?_
        refine Go.getR dX9_reads_11 flX9_19 rfl ?_
        refine Go.iload_n dX9_reads_14 rfl ?_
        refine Go.at 15 rfl ?_
        refine Go.iaload k dX9_reads_15 rfl (by omega) rfl ?_
        refine Go.topE (y := (-1)) e80 ?_
        refine Go.if_ge_f (tgt := 23) dX9_reads_16 (by decide) (by decide) ?_
        refine Go.ldc_w dX9_reads_19 cnX9_291 ?_
        refine Go.ireturn .int dX9_reads_22 rfl rfl ?_
        exact ⟨rfl, Fr.rf _ _⟩
    · skip
      refine OpOK.q (x := rdsL (μ (57 + k)) (μ 77) 0 n) hS ?_ (fun μ5 k5 => ?_)
      · show Go V (d + 5) mX8_reads 0 [some (vR 0), some (vI (nI k)), none] [] μ _
        refine Go.iload_n dX8_reads_0 rfl ?_
        refine Go.callSi [vI (nI k)] [] dX8_reads_1 lkX8_227 rfl (Nat.le_of_ble_eq_true rfl) rfl (Nat.le_of_ble_eq_true rfl) (c_isSheet (nI k)) ?_
        refine Go.if_neb_t (tgt := 10) dX8_reads_4 (by decide) h1 ?_
        refine Go.aload_n dX8_reads_10 rfl ?_
        refine Go.getR dX8_reads_11 flX8_49 rfl ?_
        refine Go.iload_n dX8_reads_14 rfl ?_
        refine Go.at 15 rfl ?_
        refine Go.aaload (r := 53 + k) k dX8_reads_15 (arSh hk) rfl ?_
        refine Go.astore_n (ls' := [some (vR 0), some (vI (nI k)), some (vR (53 + k))]) dX8_reads_16 (by decide) rfl ?_
        refine Go.aload_n dX8_reads_17 rfl ?_
        refine Go.getI dX8_reads_18 flX8_235 (shA hk).1 ?_
        refine Go.topE (y := nI 0) (a1.trans es) ?_
        refine Go.iconst (v := (-1)) dX8_reads_21 rfl ?_
        refine Go.icmp_ne_t (tgt := 30) dX8_reads_22 (by decide) (by decide) ?_
        refine Go.at 30 rfl ?_
        refine Go.aload_n dX8_reads_30 rfl ?_
        refine Go.getR dX8_reads_31 flX8_21 rfl ?_
        refine Go.aload_n dX8_reads_34 rfl ?_
        refine Go.callVx 7 [vR (53 + k)] [] dX8_reads_35 lkX8_252 (Or.inl ⟨_, _, _, rfl, rfl, rfl⟩) rfl (Nat.le_of_ble_eq_true rfl) rfl (Nat.le_of_ble_eq_true rfl) (c_reads hI hX hT hk hn (a3.trans en) (fun _ _ => rfl)) (fun μ1 k1 => ?_)
        refine Go.ireturn .int dX8_reads_38 rfl rfl ?_
        exact ⟨rfl, k1⟩
      · skip
        have e80 : μ5 80 k = nI 0 := (congrFun (k5 80 (by simp only [List.mem_cons, List.not_mem_nil, or_false]; omega)) k).trans es
        have e81 : μ5 81 k = nI n := (congrFun (k5 81 (by simp only [List.mem_cons, List.not_mem_nil, or_false]; omega)) k).trans en
        show Go V (d + 5) mX9_reads 0 [some (vR 76), some (vI (nI k)), none, none] [] μ5 _
        refine Go.iload_n dX9_reads_0 rfl ?_
        refine Go.callSi [vI (nI k)] [] dX9_reads_1 lkX9_285 rfl (Nat.le_of_ble_eq_true rfl) rfl (Nat.le_of_ble_eq_true rfl) (m_isSheet (nI k)) ?_
        refine Go.if_neb_t (tgt := 10) dX9_reads_4 (by decide) h1 ?_
        refine Go.aload_n dX9_reads_10 rfl ?_
        refine Go.getR dX9_reads_11 flX9_19 rfl ?_
        refine Go.iload_n dX9_reads_14 rfl ?_
        refine Go.at 15 rfl ?_
        refine Go.iaload k dX9_reads_15 rfl (by omega) rfl ?_
        refine Go.topE (y := nI 0) e80 ?_
        refine Go.if_ge_t (tgt := 23) dX9_reads_16 (by decide) (by decide) ?_
        refine Go.iconst (v := nI 0) dX9_reads_23 rfl ?_
        refine Go.istore_n (ls' := [some (vR 76), some (vI (nI k)), some (vI (nI 0)), none]) dX9_reads_24 (by decide) rfl ?_
        exact Go.mono (m_reads_lp (k5 77 (by decide)) hT hk hn e81 (fun i hi => by rw [k5 82 (by decide)]; exact a4 i hi) n 0 _ (by omega) (Fr.rf _ _)) (fun r m2 q => ⟨q.1, q.2.wide (by decide)⟩)
    · skip
      refine OpOK.q (x := rdsL (μ (57 + k)) (μ 77) 0 n) hS ?_ (fun μ5 k5 => ?_)
      · show Go V (d + 5) mX8_reads 0 [some (vR 0), some (vI (nI k)), none] [] μ _
        refine Go.iload_n dX8_reads_0 rfl ?_
        refine Go.callSi [vI (nI k)] [] dX8_reads_1 lkX8_227 rfl (Nat.le_of_ble_eq_true rfl) rfl (Nat.le_of_ble_eq_true rfl) (c_isSheet (nI k)) ?_
        refine Go.if_neb_t (tgt := 10) dX8_reads_4 (by decide) h1 ?_
        refine Go.aload_n dX8_reads_10 rfl ?_
        refine Go.getR dX8_reads_11 flX8_49 rfl ?_
        refine Go.iload_n dX8_reads_14 rfl ?_
        refine Go.at 15 rfl ?_
        refine Go.aaload (r := 53 + k) k dX8_reads_15 (arSh hk) rfl ?_
        refine Go.astore_n (ls' := [some (vR 0), some (vI (nI k)), some (vR (53 + k))]) dX8_reads_16 (by decide) rfl ?_
        refine Go.aload_n dX8_reads_17 rfl ?_
        refine Go.getI dX8_reads_18 flX8_235 (shA hk).1 ?_
        refine Go.topE (y := nI 1) (a1.trans es) ?_
        refine Go.iconst (v := (-1)) dX8_reads_21 rfl ?_
        refine Go.icmp_ne_t (tgt := 30) dX8_reads_22 (by decide) (by decide) ?_
        refine Go.at 30 rfl ?_
        refine Go.aload_n dX8_reads_30 rfl ?_
        refine Go.getR dX8_reads_31 flX8_21 rfl ?_
        refine Go.aload_n dX8_reads_34 rfl ?_
        refine Go.callVx 7 [vR (53 + k)] [] dX8_reads_35 lkX8_252 (Or.inl ⟨_, _, _, rfl, rfl, rfl⟩) rfl (Nat.le_of_ble_eq_true rfl) rfl (Nat.le_of_ble_eq_true rfl) (c_reads hI hX hT hk hn (a3.trans en) (fun _ _ => rfl)) (fun μ1 k1 => ?_)
        refine Go.ireturn .int dX8_reads_38 rfl rfl ?_
        exact ⟨rfl, k1⟩
      · skip
        have e80 : μ5 80 k = nI 1 := (congrFun (k5 80 (by simp only [List.mem_cons, List.not_mem_nil, or_false]; omega)) k).trans es
        have e81 : μ5 81 k = nI n := (congrFun (k5 81 (by simp only [List.mem_cons, List.not_mem_nil, or_false]; omega)) k).trans en
        show Go V (d + 5) mX9_reads 0 [some (vR 76), some (vI (nI k)), none, none] [] μ5 _
        refine Go.iload_n dX9_reads_0 rfl ?_
        refine Go.callSi [vI (nI k)] [] dX9_reads_1 lkX9_285 rfl (Nat.le_of_ble_eq_true rfl) rfl (Nat.le_of_ble_eq_true rfl) (m_isSheet (nI k)) ?_
        refine Go.if_neb_t (tgt := 10) dX9_reads_4 (by decide) h1 ?_
        refine Go.aload_n dX9_reads_10 rfl ?_
        refine Go.getR dX9_reads_11 flX9_19 rfl ?_
        refine Go.iload_n dX9_reads_14 rfl ?_
        refine Go.at 15 rfl ?_
        refine Go.iaload k dX9_reads_15 rfl (by omega) rfl ?_
        refine Go.topE (y := nI 1) e80 ?_
        refine Go.if_ge_t (tgt := 23) dX9_reads_16 (by decide) (by decide) ?_
        refine Go.iconst (v := nI 0) dX9_reads_23 rfl ?_
        refine Go.istore_n (ls' := [some (vR 76), some (vI (nI k)), some (vI (nI 0)), none]) dX9_reads_24 (by decide) rfl ?_
        exact Go.mono (m_reads_lp (k5 77 (by decide)) hT hk hn e81 (fun i hi => by rw [k5 82 (by decide)]; exact a4 i hi) n 0 _ (by omega) (Fr.rf _ _)) (fun r m2 q => ⟨q.1, q.2.wide (by decide)⟩)
  · skip
    refine OpOK.q (x := (-1000000001)) hS ?_ (fun μ5 k5 => ?_)
    · show Go V (d + 5) mX8_reads 0 [some (vR 0), some (vI k0), none] [] μ _
      refine Go.iload_n dX8_reads_0 rfl ?_
      refine Go.callSi [vI k0] [] dX8_reads_1 lkX8_227 rfl (Nat.le_of_ble_eq_true rfl) rfl (Nat.le_of_ble_eq_true rfl) (c_isSheet k0) ?_
      refine Go.if_neb_f (tgt := 10) dX8_reads_4 (by decide) h1 ?_
      refine Go.ldc dX8_reads_7 cnX8_76 ?_
      refine Go.ireturn .int dX8_reads_9 rfl rfl ?_
      exact ⟨rfl, Fr.rf _ _⟩
    · skip
      show Go V (d + 5) mX9_reads 0 [some (vR 76), some (vI k0), none, none] [] μ5 _
      refine Go.iload_n dX9_reads_0 rfl ?_
      refine Go.callSi [vI k0] [] dX9_reads_1 lkX9_285 rfl (Nat.le_of_ble_eq_true rfl) rfl (Nat.le_of_ble_eq_true rfl) (m_isSheet k0) ?_
      refine Go.if_neb_f (tgt := 10) dX9_reads_4 (by decide) h1 ?_
      refine Go.ldc dX9_reads_7 cnX9_98 ?_
      refine Go.ireturn .int dX9_reads_9 rfl rfl ?_
      exact ⟨rfl, Fr.rf _ _⟩
theorem op_ask {V : VV} {d : Nat} {μ : Memo} (hS : Sim μ) (k0 : Int32) (kind : Int32) : OpOK V (d + 3) mX8_ask mX9_ask [vI k0, vI kind] μ := by
  obtain ⟨⟨hT, hCo, hKd, hO, hH⟩, hI, hX, hIm, hSh, hSl, hTp, hWt⟩ := id hS
  by_cases h1 : nI 0 ≤ k0 ∧ k0 ≤ nI 4
  · skip
    obtain ⟨k, hk0, rfl⟩ := in_nI (by decide) h1
    have hk : k < 5 := by omega
    obtain ⟨a1, a2⟩ := hSl k hk
    by_cases h2 : nI 0 ≤ kind ∧ kind ≤ nI 5
    · skip
      rcases a2 with e3 | ⟨e3, b1, ⟨q, hq, b2⟩, b3⟩ | ⟨e3, b1, ⟨n, hn, b2⟩, b3⟩ | ⟨e3, b1⟩
      · skip
        refine OpOK.q (x := (-1000000011)) hS ?_ (fun μ5 k5 => ?_)
        · show Go V (d + 3) mX8_ask 0 [some (vR 0), some (vI (nI k)), some (vI kind), none, none] [] μ _
          refine Go.iload_n dX8_ask_0 rfl ?_
          refine Go.callSi [vI (nI k)] [] dX8_ask_1 lkX8_265 rfl (Nat.le_of_ble_eq_true rfl) rfl (Nat.le_of_ble_eq_true rfl) (c_isSlot (nI k)) ?_
          refine Go.if_eqb_f (tgt := 14) dX8_ask_4 (by decide) h1 ?_
          refine Go.iload_n dX8_ask_7 rfl ?_
          refine Go.callSi [vI kind] [] dX8_ask_8 lkX8_69 rfl (Nat.le_of_ble_eq_true rfl) rfl (Nat.le_of_ble_eq_true rfl) (c_isKind kind) ?_
          refine Go.if_neb_t (tgt := 17) dX8_ask_11 (by decide) h2 ?_
          refine Go.at 17 rfl ?_
          refine Go.aload_n dX8_ask_17 rfl ?_
          refine Go.getR dX8_ask_18 flX8_55 rfl ?_
          refine Go.iload_n dX8_ask_21 rfl ?_
          refine Go.aaload (r := 61 + k) k dX8_ask_22 (arSl hk) rfl ?_
          refine Go.astore_n (ls' := [some (vR 0), some (vI (nI k)), some (vI kind), some (vR (61 + k)), none]) dX8_ask_23 (by decide) rfl ?_
          refine Go.aload_n dX8_ask_24 rfl ?_
          refine Go.at 25 rfl ?_
          refine Go.iconst (v := nI 1) dX8_ask_25 rfl ?_
          refine Go.callVi (61 + k) [vI (nI 1)] [] dX8_ask_26 lkX8_288 (slA hk).2.2.2.2.2 rfl (Nat.le_of_ble_eq_true rfl) rfl (Nat.le_of_ble_eq_true rfl) ((c_finding1 (slA hk)).eq (by rw [a1, e3]; try decide)) ?_
          refine Go.istore (ls' := [some (vR 0), some (vI (nI k)), some (vI kind), some (vR (61 + k)), some (vI (-1000000011))]) dX8_ask_29 (by decide) rfl ?_
          refine Go.iload dX8_ask_31 rfl ?_
          refine Go.ldc dX8_ask_33 cnX8_118 ?_
          refine Go.icmp_eq_f (tgt := 41) dX8_ask_35 (by decide) (by decide) ?_
          refine Go.at 38 rfl ?_
          refine Go.iload dX8_ask_38 rfl ?_
          refine Go.ireturn .int dX8_ask_40 rfl rfl ?_
          exact ⟨rfl, Fr.rf _ _⟩
        · skip
          have e83 : μ5 83 k = nI 0 := (congrFun (k5 83 (by decide)) k).trans e3
          show Go V (d + 3) mX9_ask 0 [some (vR 76), some (vI (nI k)), some (vI kind)] [] μ5 _
          refine Go.iload_n dX9_ask_0 rfl ?_
          refine Go.callSi [vI (nI k)] [] dX9_ask_1 lkX9_299 rfl (Nat.le_of_ble_eq_true rfl) rfl (Nat.le_of_ble_eq_true rfl) (m_isSlot (nI k)) ?_
          refine Go.if_eqb_f (tgt := 19) dX9_ask_4 (by decide) h1 ?_
          refine Go.iload_n dX9_ask_7 rfl ?_
          refine Go.i2l dX9_ask_8 ?_
          refine Go.lconst (v := (nI 0).toInt64) dX9_ask_9 rfl ?_
          refine Go.at 10 rfl ?_
          refine Go.ldc2 (v := (nI 5).toInt64) dX9_ask_10 clX9_94 ?_
          refine Go.callSi [vL kind.toInt64, vL ((nI 0).toInt64), vL ((nI 5).toInt64)] [] dX9_ask_13 lkX9_65 rfl (Nat.le_of_ble_eq_true rfl) rfl (Nat.le_of_ble_eq_true rfl) (m_isIn kind (nI 0) (nI 5)) ?_
          refine Go.if_neb_t (tgt := 22) dX9_ask_16 (by decide) h2 ?_
          refine Go.aload_n dX9_ask_22 rfl ?_
          refine Go.getR dX9_ask_23 flX9_28 rfl ?_
          refine Go.iload_n dX9_ask_26 rfl ?_
          refine Go.at 27 rfl ?_
          refine Go.iaload k dX9_ask_27 rfl (by omega) rfl ?_
          refine Go.topE (y := nI 0) e83 ?_
          refine Go.if_ne_f (tgt := 35) dX9_ask_28 (by decide) (by decide) ?_
          refine Go.ldc_w dX9_ask_31 cnX9_291 ?_
          refine Go.ireturn .int dX9_ask_34 rfl rfl ?_
          exact ⟨rfl, Fr.rf _ _⟩
      · skip
        refine OpOK.q (x := if isOfP (nI q) kind then worthF (nI q) (μ (61 + k) 2) else (-1000000012)) hS ?_ (fun μ5 k5 => ?_)
        · show Go V (d + 3) mX8_ask 0 [some (vR 0), some (vI (nI k)), some (vI kind), none, none] [] μ _
          refine Go.iload_n dX8_ask_0 rfl ?_
          refine Go.callSi [vI (nI k)] [] dX8_ask_1 lkX8_265 rfl (Nat.le_of_ble_eq_true rfl) rfl (Nat.le_of_ble_eq_true rfl) (c_isSlot (nI k)) ?_
          refine Go.if_eqb_f (tgt := 14) dX8_ask_4 (by decide) h1 ?_
          refine Go.iload_n dX8_ask_7 rfl ?_
          refine Go.callSi [vI kind] [] dX8_ask_8 lkX8_69 rfl (Nat.le_of_ble_eq_true rfl) rfl (Nat.le_of_ble_eq_true rfl) (c_isKind kind) ?_
          refine Go.if_neb_t (tgt := 17) dX8_ask_11 (by decide) h2 ?_
          refine Go.at 17 rfl ?_
          refine Go.aload_n dX8_ask_17 rfl ?_
          refine Go.getR dX8_ask_18 flX8_55 rfl ?_
          refine Go.iload_n dX8_ask_21 rfl ?_
          refine Go.aaload (r := 61 + k) k dX8_ask_22 (arSl hk) rfl ?_
          refine Go.astore_n (ls' := [some (vR 0), some (vI (nI k)), some (vI kind), some (vR (61 + k)), none]) dX8_ask_23 (by decide) rfl ?_
          refine Go.aload_n dX8_ask_24 rfl ?_
          refine Go.at 25 rfl ?_
          refine Go.iconst (v := nI 1) dX8_ask_25 rfl ?_
          refine Go.callVi (61 + k) [vI (nI 1)] [] dX8_ask_26 lkX8_288 (slA hk).2.2.2.2.2 rfl (Nat.le_of_ble_eq_true rfl) rfl (Nat.le_of_ble_eq_true rfl) ((c_finding1 (slA hk)).eq (by rw [a1, e3]; try decide)) ?_
          refine Go.istore (ls' := [some (vR 0), some (vI (nI k)), some (vI kind), some (vR (61 + k)), some (vI (-1000000005))]) dX8_ask_29 (by decide) rfl ?_
          refine Go.iload dX8_ask_31 rfl ?_
          refine Go.ldc dX8_ask_33 cnX8_118 ?_
          refine Go.icmp_eq_t (tgt := 41) dX8_ask_35 (by decide) (by decide) ?_
          refine Go.at 41 rfl ?_
          refine Go.aload_n dX8_ask_41 rfl ?_
          refine Go.getI dX8_ask_42 flX8_271 (slA hk).2.1 ?_
          refine Go.topE (y := nI q) (b1.trans b2) ?_
          refine Go.iload_n dX8_ask_45 rfl ?_
          refine Go.callSi [vI (nI q), vI kind] [] dX8_ask_46 lkX8_114 rfl (Nat.le_of_ble_eq_true rfl) rfl (Nat.le_of_ble_eq_true rfl) (c_isUnder hq kind h2) ?_
          refine Go.if_eqb (tgt := 66) dX8_ask_49 (by decide) (fun h49 => ?_) (fun h49 => ?_)
          · -- 49 taken
            refine Go.ldc dX8_ask_66 cnX8_117 ?_
            refine Go.ireturn .int dX8_ask_68 rfl rfl ?_
            exact ⟨congrArg (fun z => some (vI z)) (if_neg h49).symm, Fr.rf _ _⟩
          · -- 49 not
            refine Go.aload_n dX8_ask_52 rfl ?_
            refine Go.getI dX8_ask_53 flX8_271 (slA hk).2.1 ?_
            refine Go.topE (y := nI q) (b1.trans b2) ?_
            refine Go.aload_n dX8_ask_56 rfl ?_
            refine Go.getI dX8_ask_57 flX8_274 (slA hk).2.2.1 ?_
            refine Go.callSi [vI (nI q), vI (μ (61 + k) 2)] [] dX8_ask_60 lkX8_94 rfl (Nat.le_of_ble_eq_true rfl) rfl (Nat.le_of_ble_eq_true rfl) (c_worthOf (nI q) (μ (61 + k) 2)) ?_
            refine Go.goto (tgt := 68) dX8_ask_63 (by decide) ?_
            refine Go.at 68 rfl ?_
            refine Go.ireturn .int dX8_ask_68 rfl rfl ?_
            exact ⟨congrArg (fun z => some (vI z)) (if_pos h49).symm, Fr.rf _ _⟩
        · skip
          have e83 : μ5 83 k = nI 1 := (congrFun (k5 83 (by decide)) k).trans e3
          have e84 : μ5 84 k = nI q := (congrFun (k5 84 (by decide)) k).trans b2
          have e85 : μ5 85 k = worthF (nI q) (μ (61 + k) 2) := (congrFun (k5 85 (by decide)) k).trans (by rw [b3, b1, b2])
          show Go V (d + 3) mX9_ask 0 [some (vR 76), some (vI (nI k)), some (vI kind)] [] μ5 _
          refine Go.iload_n dX9_ask_0 rfl ?_
          refine Go.callSi [vI (nI k)] [] dX9_ask_1 lkX9_299 rfl (Nat.le_of_ble_eq_true rfl) rfl (Nat.le_of_ble_eq_true rfl) (m_isSlot (nI k)) ?_
          refine Go.if_eqb_f (tgt := 19) dX9_ask_4 (by decide) h1 ?_
          refine Go.iload_n dX9_ask_7 rfl ?_
          refine Go.i2l dX9_ask_8 ?_
          refine Go.lconst (v := (nI 0).toInt64) dX9_ask_9 rfl ?_
          refine Go.at 10 rfl ?_
          refine Go.ldc2 (v := (nI 5).toInt64) dX9_ask_10 clX9_94 ?_
          refine Go.callSi [vL kind.toInt64, vL ((nI 0).toInt64), vL ((nI 5).toInt64)] [] dX9_ask_13 lkX9_65 rfl (Nat.le_of_ble_eq_true rfl) rfl (Nat.le_of_ble_eq_true rfl) (m_isIn kind (nI 0) (nI 5)) ?_
          refine Go.if_neb_t (tgt := 22) dX9_ask_16 (by decide) h2 ?_
          refine Go.aload_n dX9_ask_22 rfl ?_
          refine Go.getR dX9_ask_23 flX9_28 rfl ?_
          refine Go.iload_n dX9_ask_26 rfl ?_
          refine Go.at 27 rfl ?_
          refine Go.iaload k dX9_ask_27 rfl (by omega) rfl ?_
          refine Go.topE (y := nI 1) e83 ?_
          refine Go.if_ne_t (tgt := 35) dX9_ask_28 (by decide) (by decide) ?_
          refine Go.aload_n dX9_ask_35 rfl ?_
          refine Go.getR dX9_ask_36 flX9_28 rfl ?_
          refine Go.iload_n dX9_ask_39 rfl ?_
          refine Go.iaload k dX9_ask_40 rfl (by omega) rfl ?_
          refine Go.topE (y := nI 1) e83 ?_
          refine Go.at 41 rfl ?_
          refine Go.iconst (v := nI 1) dX9_ask_41 rfl ?_
          refine Go.icmp_ne_f (tgt := 67) dX9_ask_42 (by decide) (by decide) ?_
          refine Go.aload_n dX9_ask_45 rfl ?_
          refine Go.getR dX9_ask_46 flX9_31 rfl ?_
          refine Go.iload_n dX9_ask_49 rfl ?_
          refine Go.iaload k dX9_ask_50 rfl (by omega) rfl ?_
          refine Go.topE (y := nI q) e84 ?_
          refine Go.at 51 rfl ?_
          refine Go.iload_n dX9_ask_51 rfl ?_
          refine Go.callSi [vI (nI q), vI kind] [] dX9_ask_52 lkX9_115 rfl (Nat.le_of_ble_eq_true rfl) rfl (Nat.le_of_ble_eq_true rfl) (m_isOf (nI q) kind) ?_
          refine Go.if_eqb (tgt := 67) dX9_ask_55 (by decide) (fun h55 => ?_) (fun h55 => ?_)
          · -- 55 taken
            refine Go.ldc dX9_ask_67 cnX9_119 ?_
            refine Go.ireturn .int dX9_ask_69 rfl rfl ?_
            exact ⟨congrArg (fun z => some (vI z)) (if_neg h55).symm, Fr.rf _ _⟩
          · -- 55 not
            refine Go.aload_n dX9_ask_58 rfl ?_
            refine Go.getR dX9_ask_59 flX9_34 rfl ?_
            refine Go.iload_n dX9_ask_62 rfl ?_
            refine Go.iaload k dX9_ask_63 rfl (by omega) rfl ?_
            refine Go.topE (y := worthF (nI q) (μ (61 + k) 2)) e85 ?_
            refine Go.goto (tgt := 69) dX9_ask_64 (by decide) ?_
            refine Go.ireturn .int dX9_ask_69 rfl rfl ?_
            exact ⟨congrArg (fun z => some (vI z)) (if_pos h55).symm, Fr.rf _ _⟩
      · skip
        refine OpOK.q (x := (-1000000012)) hS ?_ (fun μ5 k5 => ?_)
        · show Go V (d + 3) mX8_ask 0 [some (vR 0), some (vI (nI k)), some (vI kind), none, none] [] μ _
          refine Go.iload_n dX8_ask_0 rfl ?_
          refine Go.callSi [vI (nI k)] [] dX8_ask_1 lkX8_265 rfl (Nat.le_of_ble_eq_true rfl) rfl (Nat.le_of_ble_eq_true rfl) (c_isSlot (nI k)) ?_
          refine Go.if_eqb_f (tgt := 14) dX8_ask_4 (by decide) h1 ?_
          refine Go.iload_n dX8_ask_7 rfl ?_
          refine Go.callSi [vI kind] [] dX8_ask_8 lkX8_69 rfl (Nat.le_of_ble_eq_true rfl) rfl (Nat.le_of_ble_eq_true rfl) (c_isKind kind) ?_
          refine Go.if_neb_t (tgt := 17) dX8_ask_11 (by decide) h2 ?_
          refine Go.at 17 rfl ?_
          refine Go.aload_n dX8_ask_17 rfl ?_
          refine Go.getR dX8_ask_18 flX8_55 rfl ?_
          refine Go.iload_n dX8_ask_21 rfl ?_
          refine Go.aaload (r := 61 + k) k dX8_ask_22 (arSl hk) rfl ?_
          refine Go.astore_n (ls' := [some (vR 0), some (vI (nI k)), some (vI kind), some (vR (61 + k)), none]) dX8_ask_23 (by decide) rfl ?_
          refine Go.aload_n dX8_ask_24 rfl ?_
          refine Go.at 25 rfl ?_
          refine Go.iconst (v := nI 1) dX8_ask_25 rfl ?_
          refine Go.callVi (61 + k) [vI (nI 1)] [] dX8_ask_26 lkX8_288 (slA hk).2.2.2.2.2 rfl (Nat.le_of_ble_eq_true rfl) rfl (Nat.le_of_ble_eq_true rfl) ((c_finding1 (slA hk)).eq (by rw [a1, e3]; try decide)) ?_
          refine Go.istore (ls' := [some (vR 0), some (vI (nI k)), some (vI kind), some (vR (61 + k)), some (vI (-1000000012))]) dX8_ask_29 (by decide) rfl ?_
          refine Go.iload dX8_ask_31 rfl ?_
          refine Go.ldc dX8_ask_33 cnX8_118 ?_
          refine Go.icmp_eq_f (tgt := 41) dX8_ask_35 (by decide) (by decide) ?_
          refine Go.at 38 rfl ?_
          refine Go.iload dX8_ask_38 rfl ?_
          refine Go.ireturn .int dX8_ask_40 rfl rfl ?_
          exact ⟨rfl, Fr.rf _ _⟩
        · skip
          have e83 : μ5 83 k = nI 2 := (congrFun (k5 83 (by decide)) k).trans e3
          show Go V (d + 3) mX9_ask 0 [some (vR 76), some (vI (nI k)), some (vI kind)] [] μ5 _
          refine Go.iload_n dX9_ask_0 rfl ?_
          refine Go.callSi [vI (nI k)] [] dX9_ask_1 lkX9_299 rfl (Nat.le_of_ble_eq_true rfl) rfl (Nat.le_of_ble_eq_true rfl) (m_isSlot (nI k)) ?_
          refine Go.if_eqb_f (tgt := 19) dX9_ask_4 (by decide) h1 ?_
          refine Go.iload_n dX9_ask_7 rfl ?_
          refine Go.i2l dX9_ask_8 ?_
          refine Go.lconst (v := (nI 0).toInt64) dX9_ask_9 rfl ?_
          refine Go.at 10 rfl ?_
          refine Go.ldc2 (v := (nI 5).toInt64) dX9_ask_10 clX9_94 ?_
          refine Go.callSi [vL kind.toInt64, vL ((nI 0).toInt64), vL ((nI 5).toInt64)] [] dX9_ask_13 lkX9_65 rfl (Nat.le_of_ble_eq_true rfl) rfl (Nat.le_of_ble_eq_true rfl) (m_isIn kind (nI 0) (nI 5)) ?_
          refine Go.if_neb_t (tgt := 22) dX9_ask_16 (by decide) h2 ?_
          refine Go.aload_n dX9_ask_22 rfl ?_
          refine Go.getR dX9_ask_23 flX9_28 rfl ?_
          refine Go.iload_n dX9_ask_26 rfl ?_
          refine Go.at 27 rfl ?_
          refine Go.iaload k dX9_ask_27 rfl (by omega) rfl ?_
          refine Go.topE (y := nI 2) e83 ?_
          refine Go.if_ne_t (tgt := 35) dX9_ask_28 (by decide) (by decide) ?_
          refine Go.aload_n dX9_ask_35 rfl ?_
          refine Go.getR dX9_ask_36 flX9_28 rfl ?_
          refine Go.iload_n dX9_ask_39 rfl ?_
          refine Go.iaload k dX9_ask_40 rfl (by omega) rfl ?_
          refine Go.topE (y := nI 2) e83 ?_
          refine Go.at 41 rfl ?_
          refine Go.iconst (v := nI 1) dX9_ask_41 rfl ?_
          refine Go.icmp_ne_t (tgt := 67) dX9_ask_42 (by decide) (by decide) ?_
          refine Go.ldc dX9_ask_67 cnX9_119 ?_
          refine Go.ireturn .int dX9_ask_69 rfl rfl ?_
          exact ⟨rfl, Fr.rf _ _⟩
      · skip
        refine OpOK.q (x := (-1000000012)) hS ?_ (fun μ5 k5 => ?_)
        · show Go V (d + 3) mX8_ask 0 [some (vR 0), some (vI (nI k)), some (vI kind), none, none] [] μ _
          refine Go.iload_n dX8_ask_0 rfl ?_
          refine Go.callSi [vI (nI k)] [] dX8_ask_1 lkX8_265 rfl (Nat.le_of_ble_eq_true rfl) rfl (Nat.le_of_ble_eq_true rfl) (c_isSlot (nI k)) ?_
          refine Go.if_eqb_f (tgt := 14) dX8_ask_4 (by decide) h1 ?_
          refine Go.iload_n dX8_ask_7 rfl ?_
          refine Go.callSi [vI kind] [] dX8_ask_8 lkX8_69 rfl (Nat.le_of_ble_eq_true rfl) rfl (Nat.le_of_ble_eq_true rfl) (c_isKind kind) ?_
          refine Go.if_neb_t (tgt := 17) dX8_ask_11 (by decide) h2 ?_
          refine Go.at 17 rfl ?_
          refine Go.aload_n dX8_ask_17 rfl ?_
          refine Go.getR dX8_ask_18 flX8_55 rfl ?_
          refine Go.iload_n dX8_ask_21 rfl ?_
          refine Go.aaload (r := 61 + k) k dX8_ask_22 (arSl hk) rfl ?_
          refine Go.astore_n (ls' := [some (vR 0), some (vI (nI k)), some (vI kind), some (vR (61 + k)), none]) dX8_ask_23 (by decide) rfl ?_
          refine Go.aload_n dX8_ask_24 rfl ?_
          refine Go.at 25 rfl ?_
          refine Go.iconst (v := nI 1) dX8_ask_25 rfl ?_
          refine Go.callVi (61 + k) [vI (nI 1)] [] dX8_ask_26 lkX8_288 (slA hk).2.2.2.2.2 rfl (Nat.le_of_ble_eq_true rfl) rfl (Nat.le_of_ble_eq_true rfl) ((c_finding1 (slA hk)).eq (by rw [a1, e3]; try decide)) ?_
          refine Go.istore (ls' := [some (vR 0), some (vI (nI k)), some (vI kind), some (vR (61 + k)), some (vI (-1000000012))]) dX8_ask_29 (by decide) rfl ?_
          refine Go.iload dX8_ask_31 rfl ?_
          refine Go.ldc dX8_ask_33 cnX8_118 ?_
          refine Go.icmp_eq_f (tgt := 41) dX8_ask_35 (by decide) (by decide) ?_
          refine Go.at 38 rfl ?_
          refine Go.iload dX8_ask_38 rfl ?_
          refine Go.ireturn .int dX8_ask_40 rfl rfl ?_
          exact ⟨rfl, Fr.rf _ _⟩
        · skip
          have e83 : μ5 83 k = nI 3 := (congrFun (k5 83 (by decide)) k).trans e3
          show Go V (d + 3) mX9_ask 0 [some (vR 76), some (vI (nI k)), some (vI kind)] [] μ5 _
          refine Go.iload_n dX9_ask_0 rfl ?_
          refine Go.callSi [vI (nI k)] [] dX9_ask_1 lkX9_299 rfl (Nat.le_of_ble_eq_true rfl) rfl (Nat.le_of_ble_eq_true rfl) (m_isSlot (nI k)) ?_
          refine Go.if_eqb_f (tgt := 19) dX9_ask_4 (by decide) h1 ?_
          refine Go.iload_n dX9_ask_7 rfl ?_
          refine Go.i2l dX9_ask_8 ?_
          refine Go.lconst (v := (nI 0).toInt64) dX9_ask_9 rfl ?_
          refine Go.at 10 rfl ?_
          refine Go.ldc2 (v := (nI 5).toInt64) dX9_ask_10 clX9_94 ?_
          refine Go.callSi [vL kind.toInt64, vL ((nI 0).toInt64), vL ((nI 5).toInt64)] [] dX9_ask_13 lkX9_65 rfl (Nat.le_of_ble_eq_true rfl) rfl (Nat.le_of_ble_eq_true rfl) (m_isIn kind (nI 0) (nI 5)) ?_
          refine Go.if_neb_t (tgt := 22) dX9_ask_16 (by decide) h2 ?_
          refine Go.aload_n dX9_ask_22 rfl ?_
          refine Go.getR dX9_ask_23 flX9_28 rfl ?_
          refine Go.iload_n dX9_ask_26 rfl ?_
          refine Go.at 27 rfl ?_
          refine Go.iaload k dX9_ask_27 rfl (by omega) rfl ?_
          refine Go.topE (y := nI 3) e83 ?_
          refine Go.if_ne_t (tgt := 35) dX9_ask_28 (by decide) (by decide) ?_
          refine Go.aload_n dX9_ask_35 rfl ?_
          refine Go.getR dX9_ask_36 flX9_28 rfl ?_
          refine Go.iload_n dX9_ask_39 rfl ?_
          refine Go.iaload k dX9_ask_40 rfl (by omega) rfl ?_
          refine Go.topE (y := nI 3) e83 ?_
          refine Go.at 41 rfl ?_
          refine Go.iconst (v := nI 1) dX9_ask_41 rfl ?_
          refine Go.icmp_ne_t (tgt := 67) dX9_ask_42 (by decide) (by decide) ?_
          refine Go.ldc dX9_ask_67 cnX9_119 ?_
          refine Go.ireturn .int dX9_ask_69 rfl rfl ?_
          exact ⟨rfl, Fr.rf _ _⟩
    · skip
      refine OpOK.q (x := (-1000000001)) hS ?_ (fun μ5 k5 => ?_)
      · show Go V (d + 3) mX8_ask 0 [some (vR 0), some (vI (nI k)), some (vI kind), none, none] [] μ _
        refine Go.iload_n dX8_ask_0 rfl ?_
        refine Go.callSi [vI (nI k)] [] dX8_ask_1 lkX8_265 rfl (Nat.le_of_ble_eq_true rfl) rfl (Nat.le_of_ble_eq_true rfl) (c_isSlot (nI k)) ?_
        refine Go.if_eqb_f (tgt := 14) dX8_ask_4 (by decide) h1 ?_
        refine Go.iload_n dX8_ask_7 rfl ?_
        refine Go.callSi [vI kind] [] dX8_ask_8 lkX8_69 rfl (Nat.le_of_ble_eq_true rfl) rfl (Nat.le_of_ble_eq_true rfl) (c_isKind kind) ?_
        refine Go.if_neb_f (tgt := 17) dX8_ask_11 (by decide) h2 ?_
        refine Go.at 14 rfl ?_
        refine Go.ldc dX8_ask_14 cnX8_76 ?_
        refine Go.ireturn .int dX8_ask_16 rfl rfl ?_
        exact ⟨rfl, Fr.rf _ _⟩
      · skip
        show Go V (d + 3) mX9_ask 0 [some (vR 76), some (vI (nI k)), some (vI kind)] [] μ5 _
        refine Go.iload_n dX9_ask_0 rfl ?_
        refine Go.callSi [vI (nI k)] [] dX9_ask_1 lkX9_299 rfl (Nat.le_of_ble_eq_true rfl) rfl (Nat.le_of_ble_eq_true rfl) (m_isSlot (nI k)) ?_
        refine Go.if_eqb_f (tgt := 19) dX9_ask_4 (by decide) h1 ?_
        refine Go.iload_n dX9_ask_7 rfl ?_
        refine Go.i2l dX9_ask_8 ?_
        refine Go.lconst (v := (nI 0).toInt64) dX9_ask_9 rfl ?_
        refine Go.at 10 rfl ?_
        refine Go.ldc2 (v := (nI 5).toInt64) dX9_ask_10 clX9_94 ?_
        refine Go.callSi [vL kind.toInt64, vL ((nI 0).toInt64), vL ((nI 5).toInt64)] [] dX9_ask_13 lkX9_65 rfl (Nat.le_of_ble_eq_true rfl) rfl (Nat.le_of_ble_eq_true rfl) (m_isIn kind (nI 0) (nI 5)) ?_
        refine Go.if_neb_f (tgt := 22) dX9_ask_16 (by decide) h2 ?_
        refine Go.ldc dX9_ask_19 cnX9_98 ?_
        refine Go.ireturn .int dX9_ask_21 rfl rfl ?_
        exact ⟨rfl, Fr.rf _ _⟩
  · skip
    refine OpOK.q (x := (-1000000001)) hS ?_ (fun μ5 k5 => ?_)
    · show Go V (d + 3) mX8_ask 0 [some (vR 0), some (vI k0), some (vI kind), none, none] [] μ _
      refine Go.iload_n dX8_ask_0 rfl ?_
      refine Go.callSi [vI k0] [] dX8_ask_1 lkX8_265 rfl (Nat.le_of_ble_eq_true rfl) rfl (Nat.le_of_ble_eq_true rfl) (c_isSlot k0) ?_
      refine Go.if_eqb_t (tgt := 14) dX8_ask_4 (by decide) h1 ?_
      refine Go.ldc dX8_ask_14 cnX8_76 ?_
      refine Go.ireturn .int dX8_ask_16 rfl rfl ?_
      exact ⟨rfl, Fr.rf _ _⟩
    · skip
      show Go V (d + 3) mX9_ask 0 [some (vR 76), some (vI k0), some (vI kind)] [] μ5 _
      refine Go.iload_n dX9_ask_0 rfl ?_
      refine Go.callSi [vI k0] [] dX9_ask_1 lkX9_299 rfl (Nat.le_of_ble_eq_true rfl) rfl (Nat.le_of_ble_eq_true rfl) (m_isSlot k0) ?_
      refine Go.if_eqb_t (tgt := 19) dX9_ask_4 (by decide) h1 ?_
      refine Go.ldc dX9_ask_19 cnX9_98 ?_
      refine Go.ireturn .int dX9_ask_21 rfl rfl ?_
      exact ⟨rfl, Fr.rf _ _⟩
theorem op_item {V : VV} {d : Nat} {μ : Memo} (hS : Sim μ) (k0 : Int32) (place : Int32) : OpOK V (d + 3) mX8_item mX9_item [vI k0, vI place] μ := by
  obtain ⟨⟨hT, hCo, hKd, hO, hH⟩, hI, hX, hIm, hSh, hSl, hTp, hWt⟩ := id hS
  by_cases h1 : nI 0 ≤ k0 ∧ k0 ≤ nI 4
  · skip
    obtain ⟨k, hk0, rfl⟩ := in_nI (by decide) h1
    have hk : k < 5 := by omega
    obtain ⟨a1, a2⟩ := hSl k hk
    rcases a2 with e3 | ⟨e3, b1, ⟨q, hq, b2⟩, b3⟩ | ⟨e3, b1, ⟨n, hn, b2⟩, b3⟩ | ⟨e3, b1⟩
    · skip
      refine OpOK.q (x := (-1000000011)) hS ?_ (fun μ5 k5 => ?_)
      · show Go V (d + 3) mX8_item 0 [some (vR 0), some (vI (nI k)), some (vI place), none, none, none] [] μ _
        refine Go.iload_n dX8_item_0 rfl ?_
        refine Go.callSi [vI (nI k)] [] dX8_item_1 lkX8_265 rfl (Nat.le_of_ble_eq_true rfl) rfl (Nat.le_of_ble_eq_true rfl) (c_isSlot (nI k)) ?_
        refine Go.if_neb_t (tgt := 10) dX8_item_4 (by decide) h1 ?_
        refine Go.aload_n dX8_item_10 rfl ?_
        refine Go.getR dX8_item_11 flX8_55 rfl ?_
        refine Go.iload_n dX8_item_14 rfl ?_
        refine Go.at 15 rfl ?_
        refine Go.aaload (r := 61 + k) k dX8_item_15 (arSl hk) rfl ?_
        refine Go.astore_n (ls' := [some (vR 0), some (vI (nI k)), some (vI place), some (vR (61 + k)), none, none]) dX8_item_16 (by decide) rfl ?_
        refine Go.aload_n dX8_item_17 rfl ?_
        refine Go.iconst (v := nI 2) dX8_item_18 rfl ?_
        refine Go.callVi (61 + k) [vI (nI 2)] [] dX8_item_19 lkX8_288 (slA hk).2.2.2.2.2 rfl (Nat.le_of_ble_eq_true rfl) rfl (Nat.le_of_ble_eq_true rfl) ((c_finding2 (slA hk)).eq (by rw [a1, e3]; try decide)) ?_
        refine Go.istore (ls' := [some (vR 0), some (vI (nI k)), some (vI place), some (vR (61 + k)), some (vI (-1000000011)), none]) dX8_item_22 (by decide) rfl ?_
        refine Go.at 24 rfl ?_
        refine Go.iload dX8_item_24 rfl ?_
        refine Go.ldc dX8_item_26 cnX8_118 ?_
        refine Go.icmp_eq_f (tgt := 34) dX8_item_28 (by decide) (by decide) ?_
        refine Go.iload dX8_item_31 rfl ?_
        refine Go.ireturn .int dX8_item_33 rfl rfl ?_
        exact ⟨rfl, Fr.rf _ _⟩
      · skip
        have e83 : μ5 83 k = nI 0 := (congrFun (k5 83 (by decide)) k).trans e3
        show Go V (d + 3) mX9_item 0 [some (vR 76), some (vI (nI k)), some (vI place), none] [] μ5 _
        refine Go.iload_n dX9_item_0 rfl ?_
        refine Go.callSi [vI (nI k)] [] dX9_item_1 lkX9_299 rfl (Nat.le_of_ble_eq_true rfl) rfl (Nat.le_of_ble_eq_true rfl) (m_isSlot (nI k)) ?_
        refine Go.if_neb_t (tgt := 10) dX9_item_4 (by decide) h1 ?_
        refine Go.aload_n dX9_item_10 rfl ?_
        refine Go.getR dX9_item_11 flX9_28 rfl ?_
        refine Go.iload_n dX9_item_14 rfl ?_
        refine Go.at 15 rfl ?_
        refine Go.iaload k dX9_item_15 rfl (by omega) rfl ?_
        refine Go.topE (y := nI 0) e83 ?_
        refine Go.iconst (v := nI 2) dX9_item_16 rfl ?_
        refine Go.icmp_eq_f (tgt := 38) dX9_item_17 (by decide) (by decide) ?_
        refine Go.aload_n dX9_item_20 rfl ?_
        refine Go.getR dX9_item_21 flX9_28 rfl ?_
        refine Go.iload_n dX9_item_24 rfl ?_
        refine Go.at 25 rfl ?_
        refine Go.iaload k dX9_item_25 rfl (by omega) rfl ?_
        refine Go.topE (y := nI 0) e83 ?_
        refine Go.if_ne_f (tgt := 35) dX9_item_26 (by decide) (by decide) ?_
        refine Go.ldc_w dX9_item_29 cnX9_291 ?_
        refine Go.goto (tgt := 37) dX9_item_32 (by decide) ?_
        refine Go.ireturn .int dX9_item_37 rfl rfl ?_
        exact ⟨rfl, Fr.rf _ _⟩
    · skip
      refine OpOK.q (x := (-1000000012)) hS ?_ (fun μ5 k5 => ?_)
      · show Go V (d + 3) mX8_item 0 [some (vR 0), some (vI (nI k)), some (vI place), none, none, none] [] μ _
        refine Go.iload_n dX8_item_0 rfl ?_
        refine Go.callSi [vI (nI k)] [] dX8_item_1 lkX8_265 rfl (Nat.le_of_ble_eq_true rfl) rfl (Nat.le_of_ble_eq_true rfl) (c_isSlot (nI k)) ?_
        refine Go.if_neb_t (tgt := 10) dX8_item_4 (by decide) h1 ?_
        refine Go.aload_n dX8_item_10 rfl ?_
        refine Go.getR dX8_item_11 flX8_55 rfl ?_
        refine Go.iload_n dX8_item_14 rfl ?_
        refine Go.at 15 rfl ?_
        refine Go.aaload (r := 61 + k) k dX8_item_15 (arSl hk) rfl ?_
        refine Go.astore_n (ls' := [some (vR 0), some (vI (nI k)), some (vI place), some (vR (61 + k)), none, none]) dX8_item_16 (by decide) rfl ?_
        refine Go.aload_n dX8_item_17 rfl ?_
        refine Go.iconst (v := nI 2) dX8_item_18 rfl ?_
        refine Go.callVi (61 + k) [vI (nI 2)] [] dX8_item_19 lkX8_288 (slA hk).2.2.2.2.2 rfl (Nat.le_of_ble_eq_true rfl) rfl (Nat.le_of_ble_eq_true rfl) ((c_finding2 (slA hk)).eq (by rw [a1, e3]; try decide)) ?_
        refine Go.istore (ls' := [some (vR 0), some (vI (nI k)), some (vI place), some (vR (61 + k)), some (vI (-1000000012)), none]) dX8_item_22 (by decide) rfl ?_
        refine Go.at 24 rfl ?_
        refine Go.iload dX8_item_24 rfl ?_
        refine Go.ldc dX8_item_26 cnX8_118 ?_
        refine Go.icmp_eq_f (tgt := 34) dX8_item_28 (by decide) (by decide) ?_
        refine Go.iload dX8_item_31 rfl ?_
        refine Go.ireturn .int dX8_item_33 rfl rfl ?_
        exact ⟨rfl, Fr.rf _ _⟩
      · skip
        have e83 : μ5 83 k = nI 1 := (congrFun (k5 83 (by decide)) k).trans e3
        show Go V (d + 3) mX9_item 0 [some (vR 76), some (vI (nI k)), some (vI place), none] [] μ5 _
        refine Go.iload_n dX9_item_0 rfl ?_
        refine Go.callSi [vI (nI k)] [] dX9_item_1 lkX9_299 rfl (Nat.le_of_ble_eq_true rfl) rfl (Nat.le_of_ble_eq_true rfl) (m_isSlot (nI k)) ?_
        refine Go.if_neb_t (tgt := 10) dX9_item_4 (by decide) h1 ?_
        refine Go.aload_n dX9_item_10 rfl ?_
        refine Go.getR dX9_item_11 flX9_28 rfl ?_
        refine Go.iload_n dX9_item_14 rfl ?_
        refine Go.at 15 rfl ?_
        refine Go.iaload k dX9_item_15 rfl (by omega) rfl ?_
        refine Go.topE (y := nI 1) e83 ?_
        refine Go.iconst (v := nI 2) dX9_item_16 rfl ?_
        refine Go.icmp_eq_f (tgt := 38) dX9_item_17 (by decide) (by decide) ?_
        refine Go.aload_n dX9_item_20 rfl ?_
        refine Go.getR dX9_item_21 flX9_28 rfl ?_
        refine Go.iload_n dX9_item_24 rfl ?_
        refine Go.at 25 rfl ?_
        refine Go.iaload k dX9_item_25 rfl (by omega) rfl ?_
        refine Go.topE (y := nI 1) e83 ?_
        refine Go.if_ne_t (tgt := 35) dX9_item_26 (by decide) (by decide) ?_
        refine Go.ldc dX9_item_35 cnX9_119 ?_
        refine Go.ireturn .int dX9_item_37 rfl rfl ?_
        exact ⟨rfl, Fr.rf _ _⟩
    · skip
      by_cases hp : 0 ≤ place ∧ place < nI n
      · skip
        obtain ⟨p, hpn, rfl⟩ : ∃ p, p < n ∧ place = nI p := ⟨place.toInt.toNat, by simp only [sI_le, sI_lt, nT, Int32.toInt_zero] at hp; omega, by rw [sI_eq, nT]; simp only [sI_le, sI_lt, nT, Int32.toInt_zero] at hp; omega⟩
        refine OpOK.q (x := if μ (71 + k) p = (-1000000005) then (-1000000012) else μ (71 + k) p) hS ?_ (fun μ5 k5 => ?_)
        · show Go V (d + 3) mX8_item 0 [some (vR 0), some (vI (nI k)), some (vI (nI p)), none, none, none] [] μ _
          refine Go.iload_n dX8_item_0 rfl ?_
          refine Go.callSi [vI (nI k)] [] dX8_item_1 lkX8_265 rfl (Nat.le_of_ble_eq_true rfl) rfl (Nat.le_of_ble_eq_true rfl) (c_isSlot (nI k)) ?_
          refine Go.if_neb_t (tgt := 10) dX8_item_4 (by decide) h1 ?_
          refine Go.aload_n dX8_item_10 rfl ?_
          refine Go.getR dX8_item_11 flX8_55 rfl ?_
          refine Go.iload_n dX8_item_14 rfl ?_
          refine Go.at 15 rfl ?_
          refine Go.aaload (r := 61 + k) k dX8_item_15 (arSl hk) rfl ?_
          refine Go.astore_n (ls' := [some (vR 0), some (vI (nI k)), some (vI (nI p)), some (vR (61 + k)), none, none]) dX8_item_16 (by decide) rfl ?_
          refine Go.aload_n dX8_item_17 rfl ?_
          refine Go.iconst (v := nI 2) dX8_item_18 rfl ?_
          refine Go.callVi (61 + k) [vI (nI 2)] [] dX8_item_19 lkX8_288 (slA hk).2.2.2.2.2 rfl (Nat.le_of_ble_eq_true rfl) rfl (Nat.le_of_ble_eq_true rfl) ((c_finding2 (slA hk)).eq (by rw [a1, e3]; try decide)) ?_
          refine Go.istore (ls' := [some (vR 0), some (vI (nI k)), some (vI (nI p)), some (vR (61 + k)), some (vI (-1000000005)), none]) dX8_item_22 (by decide) rfl ?_
          refine Go.at 24 rfl ?_
          refine Go.iload dX8_item_24 rfl ?_
          refine Go.ldc dX8_item_26 cnX8_118 ?_
          refine Go.icmp_eq_t (tgt := 34) dX8_item_28 (by decide) (by decide) ?_
          refine Go.aload_n dX8_item_34 rfl ?_
          refine Go.getR dX8_item_35 flX8_277 (slA hk).2.2.2.2.1 ?_
          refine Go.iload_n dX8_item_38 rfl ?_
          refine Go.at 39 rfl ?_
          refine Go.callVi (66 + k) [vI (nI p)] [] dX8_item_39 lkX8_239 (shB hk).2.2.2.2.1 rfl (Nat.le_of_ble_eq_true rfl) rfl (Nat.le_of_ble_eq_true rfl) (c_hasPlace (shB hk) (nI p)) ?_
          refine Go.if_neb_t (tgt := 48) dX8_item_42 (by decide) (by rw [b1, b2]; exact hp) ?_
          refine Go.aload_n dX8_item_48 rfl ?_
          refine Go.getR dX8_item_49 flX8_277 (slA hk).2.2.2.2.1 ?_
          refine Go.getR dX8_item_52 flX8_243 (shB hk).2.2.1 ?_
          refine Go.iload_n dX8_item_55 rfl ?_
          refine Go.at 56 rfl ?_
          refine Go.iaload p dX8_item_56 (shB hk).2.2.2.1 (by omega) rfl ?_
          refine Go.istore (ls' := [some (vR 0), some (vI (nI k)), some (vI (nI p)), some (vR (61 + k)), some (vI (-1000000005)), some (vI (μ (71 + k) p))]) dX8_item_57 (by decide) rfl ?_
          refine Go.iload dX8_item_59 rfl ?_
          refine Go.ldc dX8_item_61 cnX8_118 ?_
          refine Go.icmp_ne (tgt := 71) dX8_item_63 (by decide) (fun h63 => ?_) (fun h63 => ?_)
          · -- 63 taken
            refine Go.iload dX8_item_71 rfl ?_
            refine Go.ireturn .int dX8_item_73 rfl rfl ?_
            exact ⟨congrArg (fun z => some (vI z)) (if_neg h63).symm, Fr.rf _ _⟩
          · -- 63 not
            refine Go.ldc dX8_item_66 cnX8_117 ?_
            refine Go.goto (tgt := 73) dX8_item_68 (by decide) ?_
            refine Go.ireturn .int dX8_item_73 rfl rfl ?_
            exact ⟨congrArg (fun z => some (vI z)) (if_pos h63).symm, Fr.rf _ _⟩
        · skip
          have e83 : μ5 83 k = nI 2 := (congrFun (k5 83 (by decide)) k).trans e3
          have e86 : μ5 86 k = nI n := (congrFun (k5 86 (by decide)) k).trans b2
          have e87 : μ5 87 (24 * k + p) = μ (71 + k) p := (congrFun (k5 87 (by decide)) _).trans (b3 p (by omega)).symm
          show Go V (d + 3) mX9_item 0 [some (vR 76), some (vI (nI k)), some (vI (nI p)), none] [] μ5 _
          refine Go.iload_n dX9_item_0 rfl ?_
          refine Go.callSi [vI (nI k)] [] dX9_item_1 lkX9_299 rfl (Nat.le_of_ble_eq_true rfl) rfl (Nat.le_of_ble_eq_true rfl) (m_isSlot (nI k)) ?_
          refine Go.if_neb_t (tgt := 10) dX9_item_4 (by decide) h1 ?_
          refine Go.aload_n dX9_item_10 rfl ?_
          refine Go.getR dX9_item_11 flX9_28 rfl ?_
          refine Go.iload_n dX9_item_14 rfl ?_
          refine Go.at 15 rfl ?_
          refine Go.iaload k dX9_item_15 rfl (by omega) rfl ?_
          refine Go.topE (y := nI 2) e83 ?_
          refine Go.iconst (v := nI 2) dX9_item_16 rfl ?_
          refine Go.icmp_eq_t (tgt := 38) dX9_item_17 (by decide) (by decide) ?_
          refine Go.iload_n dX9_item_38 rfl ?_
          refine Go.i2l dX9_item_39 ?_
          refine Go.lconst (v := (nI 0).toInt64) dX9_item_40 rfl ?_
          refine Go.at 41 rfl ?_
          refine Go.aload_n dX9_item_41 rfl ?_
          refine Go.getR dX9_item_42 flX9_37 rfl ?_
          refine Go.iload_n dX9_item_45 rfl ?_
          refine Go.iaload k dX9_item_46 rfl (by omega) rfl ?_
          refine Go.topE (y := nI n) e86 ?_
          refine Go.iconst (v := nI 1) dX9_item_47 rfl ?_
          refine Go.isub dX9_item_48 ?_
          refine Go.at 49 rfl ?_
          refine Go.i2l dX9_item_49 ?_
          refine Go.callSi [vL ((nI p).toInt64), vL ((nI 0).toInt64), vL (((nI n) - (nI 1)).toInt64)] [] dX9_item_50 lkX9_65 rfl (Nat.le_of_ble_eq_true rfl) rfl (Nat.le_of_ble_eq_true rfl) (m_isIn (nI p) (nI 0) ((nI n) - (nI 1))) ?_
          refine Go.if_neb_t (tgt := 60) dX9_item_53 (by decide) (by simp only [sI_le, sI_lt, tI_sub, nT, Int32.toInt_zero] at *; omega) ?_
          refine Go.aload_n dX9_item_60 rfl ?_
          refine Go.getR dX9_item_61 flX9_40 rfl ?_
          refine Go.bipush (v := nI 24) dX9_item_64 rfl ?_
          refine Go.at 66 rfl ?_
          refine Go.iload_n dX9_item_66 rfl ?_
          refine Go.imulN dX9_item_67 ?_
          refine Go.iload_n dX9_item_68 rfl ?_
          refine Go.iaddN dX9_item_69 ?_
          refine Go.iaload ((24 * k) + p) dX9_item_70 rfl (by omega) rfl ?_
          refine Go.topE (y := μ (71 + k) p) e87 ?_
          refine Go.istore_n (ls' := [some (vR 76), some (vI (nI k)), some (vI (nI p)), some (vI (μ (71 + k) p))]) dX9_item_71 (by decide) rfl ?_
          refine Go.at 72 rfl ?_
          refine Go.iload_n dX9_item_72 rfl ?_
          refine Go.ldc dX9_item_73 cnX9_64 ?_
          refine Go.icmp_ne (tgt := 83) dX9_item_75 (by decide) (fun h75 => ?_) (fun h75 => ?_)
          · -- 75 taken
            refine Go.iload_n dX9_item_83 rfl ?_
            refine Go.ireturn .int dX9_item_84 rfl rfl ?_
            exact ⟨congrArg (fun z => some (vI z)) (if_neg h75).symm, Fr.rf _ _⟩
          · -- 75 not
            refine Go.ldc dX9_item_78 cnX9_119 ?_
            refine Go.goto (tgt := 84) dX9_item_80 (by decide) ?_
            refine Go.ireturn .int dX9_item_84 rfl rfl ?_
            exact ⟨congrArg (fun z => some (vI z)) (if_pos h75).symm, Fr.rf _ _⟩
      · skip
        refine OpOK.q (x := (-1000000013)) hS ?_ (fun μ5 k5 => ?_)
        · show Go V (d + 3) mX8_item 0 [some (vR 0), some (vI (nI k)), some (vI place), none, none, none] [] μ _
          refine Go.iload_n dX8_item_0 rfl ?_
          refine Go.callSi [vI (nI k)] [] dX8_item_1 lkX8_265 rfl (Nat.le_of_ble_eq_true rfl) rfl (Nat.le_of_ble_eq_true rfl) (c_isSlot (nI k)) ?_
          refine Go.if_neb_t (tgt := 10) dX8_item_4 (by decide) h1 ?_
          refine Go.aload_n dX8_item_10 rfl ?_
          refine Go.getR dX8_item_11 flX8_55 rfl ?_
          refine Go.iload_n dX8_item_14 rfl ?_
          refine Go.at 15 rfl ?_
          refine Go.aaload (r := 61 + k) k dX8_item_15 (arSl hk) rfl ?_
          refine Go.astore_n (ls' := [some (vR 0), some (vI (nI k)), some (vI place), some (vR (61 + k)), none, none]) dX8_item_16 (by decide) rfl ?_
          refine Go.aload_n dX8_item_17 rfl ?_
          refine Go.iconst (v := nI 2) dX8_item_18 rfl ?_
          refine Go.callVi (61 + k) [vI (nI 2)] [] dX8_item_19 lkX8_288 (slA hk).2.2.2.2.2 rfl (Nat.le_of_ble_eq_true rfl) rfl (Nat.le_of_ble_eq_true rfl) ((c_finding2 (slA hk)).eq (by rw [a1, e3]; try decide)) ?_
          refine Go.istore (ls' := [some (vR 0), some (vI (nI k)), some (vI place), some (vR (61 + k)), some (vI (-1000000005)), none]) dX8_item_22 (by decide) rfl ?_
          refine Go.at 24 rfl ?_
          refine Go.iload dX8_item_24 rfl ?_
          refine Go.ldc dX8_item_26 cnX8_118 ?_
          refine Go.icmp_eq_t (tgt := 34) dX8_item_28 (by decide) (by decide) ?_
          refine Go.aload_n dX8_item_34 rfl ?_
          refine Go.getR dX8_item_35 flX8_277 (slA hk).2.2.2.2.1 ?_
          refine Go.iload_n dX8_item_38 rfl ?_
          refine Go.at 39 rfl ?_
          refine Go.callVi (66 + k) [vI place] [] dX8_item_39 lkX8_239 (shB hk).2.2.2.2.1 rfl (Nat.le_of_ble_eq_true rfl) rfl (Nat.le_of_ble_eq_true rfl) (c_hasPlace (shB hk) place) ?_
          refine Go.if_neb_f (tgt := 48) dX8_item_42 (by decide) (by rw [b1, b2]; exact hp) ?_
          refine Go.ldc dX8_item_45 cnX8_242 ?_
          refine Go.ireturn .int dX8_item_47 rfl rfl ?_
          exact ⟨rfl, Fr.rf _ _⟩
        · skip
          have e83 : μ5 83 k = nI 2 := (congrFun (k5 83 (by decide)) k).trans e3
          have e86 : μ5 86 k = nI n := (congrFun (k5 86 (by decide)) k).trans b2
          show Go V (d + 3) mX9_item 0 [some (vR 76), some (vI (nI k)), some (vI place), none] [] μ5 _
          refine Go.iload_n dX9_item_0 rfl ?_
          refine Go.callSi [vI (nI k)] [] dX9_item_1 lkX9_299 rfl (Nat.le_of_ble_eq_true rfl) rfl (Nat.le_of_ble_eq_true rfl) (m_isSlot (nI k)) ?_
          refine Go.if_neb_t (tgt := 10) dX9_item_4 (by decide) h1 ?_
          refine Go.aload_n dX9_item_10 rfl ?_
          refine Go.getR dX9_item_11 flX9_28 rfl ?_
          refine Go.iload_n dX9_item_14 rfl ?_
          refine Go.at 15 rfl ?_
          refine Go.iaload k dX9_item_15 rfl (by omega) rfl ?_
          refine Go.topE (y := nI 2) e83 ?_
          refine Go.iconst (v := nI 2) dX9_item_16 rfl ?_
          refine Go.icmp_eq_t (tgt := 38) dX9_item_17 (by decide) (by decide) ?_
          refine Go.iload_n dX9_item_38 rfl ?_
          refine Go.i2l dX9_item_39 ?_
          refine Go.lconst (v := (nI 0).toInt64) dX9_item_40 rfl ?_
          refine Go.at 41 rfl ?_
          refine Go.aload_n dX9_item_41 rfl ?_
          refine Go.getR dX9_item_42 flX9_37 rfl ?_
          refine Go.iload_n dX9_item_45 rfl ?_
          refine Go.iaload k dX9_item_46 rfl (by omega) rfl ?_
          refine Go.topE (y := nI n) e86 ?_
          refine Go.iconst (v := nI 1) dX9_item_47 rfl ?_
          refine Go.isub dX9_item_48 ?_
          refine Go.at 49 rfl ?_
          refine Go.i2l dX9_item_49 ?_
          refine Go.callSi [vL place.toInt64, vL ((nI 0).toInt64), vL (((nI n) - (nI 1)).toInt64)] [] dX9_item_50 lkX9_65 rfl (Nat.le_of_ble_eq_true rfl) rfl (Nat.le_of_ble_eq_true rfl) (m_isIn place (nI 0) ((nI n) - (nI 1))) ?_
          refine Go.if_neb_f (tgt := 60) dX9_item_53 (by decide) (by simp only [sI_le, sI_lt, tI_sub, nT, Int32.toInt_zero] at *; omega) ?_
          refine Go.ldc_w dX9_item_56 cnX9_292 ?_
          refine Go.ireturn .int dX9_item_59 rfl rfl ?_
          exact ⟨rfl, Fr.rf _ _⟩
    · skip
      refine OpOK.q (x := (-1000000012)) hS ?_ (fun μ5 k5 => ?_)
      · show Go V (d + 3) mX8_item 0 [some (vR 0), some (vI (nI k)), some (vI place), none, none, none] [] μ _
        refine Go.iload_n dX8_item_0 rfl ?_
        refine Go.callSi [vI (nI k)] [] dX8_item_1 lkX8_265 rfl (Nat.le_of_ble_eq_true rfl) rfl (Nat.le_of_ble_eq_true rfl) (c_isSlot (nI k)) ?_
        refine Go.if_neb_t (tgt := 10) dX8_item_4 (by decide) h1 ?_
        refine Go.aload_n dX8_item_10 rfl ?_
        refine Go.getR dX8_item_11 flX8_55 rfl ?_
        refine Go.iload_n dX8_item_14 rfl ?_
        refine Go.at 15 rfl ?_
        refine Go.aaload (r := 61 + k) k dX8_item_15 (arSl hk) rfl ?_
        refine Go.astore_n (ls' := [some (vR 0), some (vI (nI k)), some (vI place), some (vR (61 + k)), none, none]) dX8_item_16 (by decide) rfl ?_
        refine Go.aload_n dX8_item_17 rfl ?_
        refine Go.iconst (v := nI 2) dX8_item_18 rfl ?_
        refine Go.callVi (61 + k) [vI (nI 2)] [] dX8_item_19 lkX8_288 (slA hk).2.2.2.2.2 rfl (Nat.le_of_ble_eq_true rfl) rfl (Nat.le_of_ble_eq_true rfl) ((c_finding2 (slA hk)).eq (by rw [a1, e3]; try decide)) ?_
        refine Go.istore (ls' := [some (vR 0), some (vI (nI k)), some (vI place), some (vR (61 + k)), some (vI (-1000000012)), none]) dX8_item_22 (by decide) rfl ?_
        refine Go.at 24 rfl ?_
        refine Go.iload dX8_item_24 rfl ?_
        refine Go.ldc dX8_item_26 cnX8_118 ?_
        refine Go.icmp_eq_f (tgt := 34) dX8_item_28 (by decide) (by decide) ?_
        refine Go.iload dX8_item_31 rfl ?_
        refine Go.ireturn .int dX8_item_33 rfl rfl ?_
        exact ⟨rfl, Fr.rf _ _⟩
      · skip
        have e83 : μ5 83 k = nI 3 := (congrFun (k5 83 (by decide)) k).trans e3
        show Go V (d + 3) mX9_item 0 [some (vR 76), some (vI (nI k)), some (vI place), none] [] μ5 _
        refine Go.iload_n dX9_item_0 rfl ?_
        refine Go.callSi [vI (nI k)] [] dX9_item_1 lkX9_299 rfl (Nat.le_of_ble_eq_true rfl) rfl (Nat.le_of_ble_eq_true rfl) (m_isSlot (nI k)) ?_
        refine Go.if_neb_t (tgt := 10) dX9_item_4 (by decide) h1 ?_
        refine Go.aload_n dX9_item_10 rfl ?_
        refine Go.getR dX9_item_11 flX9_28 rfl ?_
        refine Go.iload_n dX9_item_14 rfl ?_
        refine Go.at 15 rfl ?_
        refine Go.iaload k dX9_item_15 rfl (by omega) rfl ?_
        refine Go.topE (y := nI 3) e83 ?_
        refine Go.iconst (v := nI 2) dX9_item_16 rfl ?_
        refine Go.icmp_eq_f (tgt := 38) dX9_item_17 (by decide) (by decide) ?_
        refine Go.aload_n dX9_item_20 rfl ?_
        refine Go.getR dX9_item_21 flX9_28 rfl ?_
        refine Go.iload_n dX9_item_24 rfl ?_
        refine Go.at 25 rfl ?_
        refine Go.iaload k dX9_item_25 rfl (by omega) rfl ?_
        refine Go.topE (y := nI 3) e83 ?_
        refine Go.if_ne_t (tgt := 35) dX9_item_26 (by decide) (by decide) ?_
        refine Go.ldc dX9_item_35 cnX9_119 ?_
        refine Go.ireturn .int dX9_item_37 rfl rfl ?_
        exact ⟨rfl, Fr.rf _ _⟩
  · skip
    refine OpOK.q (x := (-1000000001)) hS ?_ (fun μ5 k5 => ?_)
    · show Go V (d + 3) mX8_item 0 [some (vR 0), some (vI k0), some (vI place), none, none, none] [] μ _
      refine Go.iload_n dX8_item_0 rfl ?_
      refine Go.callSi [vI k0] [] dX8_item_1 lkX8_265 rfl (Nat.le_of_ble_eq_true rfl) rfl (Nat.le_of_ble_eq_true rfl) (c_isSlot k0) ?_
      refine Go.if_neb_f (tgt := 10) dX8_item_4 (by decide) h1 ?_
      refine Go.ldc dX8_item_7 cnX8_76 ?_
      refine Go.ireturn .int dX8_item_9 rfl rfl ?_
      exact ⟨rfl, Fr.rf _ _⟩
    · skip
      show Go V (d + 3) mX9_item 0 [some (vR 76), some (vI k0), some (vI place), none] [] μ5 _
      refine Go.iload_n dX9_item_0 rfl ?_
      refine Go.callSi [vI k0] [] dX9_item_1 lkX9_299 rfl (Nat.le_of_ble_eq_true rfl) rfl (Nat.le_of_ble_eq_true rfl) (m_isSlot k0) ?_
      refine Go.if_neb_f (tgt := 10) dX9_item_4 (by decide) h1 ?_
      refine Go.ldc dX9_item_7 cnX9_98 ?_
      refine Go.ireturn .int dX9_item_9 rfl rfl ?_
      exact ⟨rfl, Fr.rf _ _⟩
theorem op_rest {V : VV} {d : Nat} {μ : Memo} (hS : Sim μ) (k0 : Int32) (nn : Int32) : OpOK V (d + 3) mX8_rest mX9_rest [vI k0, vI nn] μ := by
  obtain ⟨⟨hT, hCo, hKd, hO, hH⟩, hI, hX, hIm, hSh, hSl, hTp, hWt⟩ := id hS
  by_cases h1 : nI 0 ≤ k0 ∧ k0 ≤ nI 4
  · skip
    obtain ⟨k, hk0, rfl⟩ := in_nI (by decide) h1
    have hk : k < 5 := by omega
    obtain ⟨a1, a2⟩ := hSl k hk
    rcases a2 with e3 | ⟨e3, b1, ⟨q, hq, b2⟩, b3⟩ | ⟨e3, b1, ⟨n, hn, b2⟩, b3⟩ | ⟨e3, b1⟩
    · skip
      refine OpOK.q (x := (-1000000011)) hS ?_ (fun μ5 k5 => ?_)
      · show Go V (d + 3) mX8_rest 0 [some (vR 0), some (vI (nI k)), some (vI nn), none, none] [] μ _
        refine Go.iload_n dX8_rest_0 rfl ?_
        refine Go.callSi [vI (nI k)] [] dX8_rest_1 lkX8_265 rfl (Nat.le_of_ble_eq_true rfl) rfl (Nat.le_of_ble_eq_true rfl) (c_isSlot (nI k)) ?_
        refine Go.if_neb_t (tgt := 10) dX8_rest_4 (by decide) h1 ?_
        refine Go.aload_n dX8_rest_10 rfl ?_
        refine Go.getR dX8_rest_11 flX8_55 rfl ?_
        refine Go.iload_n dX8_rest_14 rfl ?_
        refine Go.at 15 rfl ?_
        refine Go.aaload (r := 61 + k) k dX8_rest_15 (arSl hk) rfl ?_
        refine Go.astore_n (ls' := [some (vR 0), some (vI (nI k)), some (vI nn), some (vR (61 + k)), none]) dX8_rest_16 (by decide) rfl ?_
        refine Go.aload_n dX8_rest_17 rfl ?_
        refine Go.iconst (v := nI 3) dX8_rest_18 rfl ?_
        refine Go.callVi (61 + k) [vI (nI 3)] [] dX8_rest_19 lkX8_288 (slA hk).2.2.2.2.2 rfl (Nat.le_of_ble_eq_true rfl) rfl (Nat.le_of_ble_eq_true rfl) ((c_finding3 (slA hk)).eq (by rw [a1, e3]; try decide)) ?_
        refine Go.istore (ls' := [some (vR 0), some (vI (nI k)), some (vI nn), some (vR (61 + k)), some (vI (-1000000011))]) dX8_rest_22 (by decide) rfl ?_
        refine Go.at 24 rfl ?_
        refine Go.iload dX8_rest_24 rfl ?_
        refine Go.ldc dX8_rest_26 cnX8_118 ?_
        refine Go.icmp_eq_f (tgt := 34) dX8_rest_28 (by decide) (by decide) ?_
        refine Go.iload dX8_rest_31 rfl ?_
        refine Go.ireturn .int dX8_rest_33 rfl rfl ?_
        exact ⟨rfl, Fr.rf _ _⟩
      · skip
        have e83 : μ5 83 k = nI 0 := (congrFun (k5 83 (by decide)) k).trans e3
        show Go V (d + 3) mX9_rest 0 [some (vR 76), some (vI (nI k)), some (vI nn)] [] μ5 _
        refine Go.iload_n dX9_rest_0 rfl ?_
        refine Go.callSi [vI (nI k)] [] dX9_rest_1 lkX9_299 rfl (Nat.le_of_ble_eq_true rfl) rfl (Nat.le_of_ble_eq_true rfl) (m_isSlot (nI k)) ?_
        refine Go.if_neb_t (tgt := 10) dX9_rest_4 (by decide) h1 ?_
        refine Go.aload_n dX9_rest_10 rfl ?_
        refine Go.getR dX9_rest_11 flX9_28 rfl ?_
        refine Go.iload_n dX9_rest_14 rfl ?_
        refine Go.at 15 rfl ?_
        refine Go.iaload k dX9_rest_15 rfl (by omega) rfl ?_
        refine Go.topE (y := nI 0) e83 ?_
        refine Go.iconst (v := nI 3) dX9_rest_16 rfl ?_
        refine Go.icmp_eq_f (tgt := 38) dX9_rest_17 (by decide) (by decide) ?_
        refine Go.aload_n dX9_rest_20 rfl ?_
        refine Go.getR dX9_rest_21 flX9_28 rfl ?_
        refine Go.iload_n dX9_rest_24 rfl ?_
        refine Go.at 25 rfl ?_
        refine Go.iaload k dX9_rest_25 rfl (by omega) rfl ?_
        refine Go.topE (y := nI 0) e83 ?_
        refine Go.if_ne_f (tgt := 35) dX9_rest_26 (by decide) (by decide) ?_
        refine Go.ldc_w dX9_rest_29 cnX9_291 ?_
        refine Go.goto (tgt := 37) dX9_rest_32 (by decide) ?_
        refine Go.ireturn .int dX9_rest_37 rfl rfl ?_
        exact ⟨rfl, Fr.rf _ _⟩
    · skip
      refine OpOK.q (x := (-1000000012)) hS ?_ (fun μ5 k5 => ?_)
      · show Go V (d + 3) mX8_rest 0 [some (vR 0), some (vI (nI k)), some (vI nn), none, none] [] μ _
        refine Go.iload_n dX8_rest_0 rfl ?_
        refine Go.callSi [vI (nI k)] [] dX8_rest_1 lkX8_265 rfl (Nat.le_of_ble_eq_true rfl) rfl (Nat.le_of_ble_eq_true rfl) (c_isSlot (nI k)) ?_
        refine Go.if_neb_t (tgt := 10) dX8_rest_4 (by decide) h1 ?_
        refine Go.aload_n dX8_rest_10 rfl ?_
        refine Go.getR dX8_rest_11 flX8_55 rfl ?_
        refine Go.iload_n dX8_rest_14 rfl ?_
        refine Go.at 15 rfl ?_
        refine Go.aaload (r := 61 + k) k dX8_rest_15 (arSl hk) rfl ?_
        refine Go.astore_n (ls' := [some (vR 0), some (vI (nI k)), some (vI nn), some (vR (61 + k)), none]) dX8_rest_16 (by decide) rfl ?_
        refine Go.aload_n dX8_rest_17 rfl ?_
        refine Go.iconst (v := nI 3) dX8_rest_18 rfl ?_
        refine Go.callVi (61 + k) [vI (nI 3)] [] dX8_rest_19 lkX8_288 (slA hk).2.2.2.2.2 rfl (Nat.le_of_ble_eq_true rfl) rfl (Nat.le_of_ble_eq_true rfl) ((c_finding3 (slA hk)).eq (by rw [a1, e3]; try decide)) ?_
        refine Go.istore (ls' := [some (vR 0), some (vI (nI k)), some (vI nn), some (vR (61 + k)), some (vI (-1000000012))]) dX8_rest_22 (by decide) rfl ?_
        refine Go.at 24 rfl ?_
        refine Go.iload dX8_rest_24 rfl ?_
        refine Go.ldc dX8_rest_26 cnX8_118 ?_
        refine Go.icmp_eq_f (tgt := 34) dX8_rest_28 (by decide) (by decide) ?_
        refine Go.iload dX8_rest_31 rfl ?_
        refine Go.ireturn .int dX8_rest_33 rfl rfl ?_
        exact ⟨rfl, Fr.rf _ _⟩
      · skip
        have e83 : μ5 83 k = nI 1 := (congrFun (k5 83 (by decide)) k).trans e3
        show Go V (d + 3) mX9_rest 0 [some (vR 76), some (vI (nI k)), some (vI nn)] [] μ5 _
        refine Go.iload_n dX9_rest_0 rfl ?_
        refine Go.callSi [vI (nI k)] [] dX9_rest_1 lkX9_299 rfl (Nat.le_of_ble_eq_true rfl) rfl (Nat.le_of_ble_eq_true rfl) (m_isSlot (nI k)) ?_
        refine Go.if_neb_t (tgt := 10) dX9_rest_4 (by decide) h1 ?_
        refine Go.aload_n dX9_rest_10 rfl ?_
        refine Go.getR dX9_rest_11 flX9_28 rfl ?_
        refine Go.iload_n dX9_rest_14 rfl ?_
        refine Go.at 15 rfl ?_
        refine Go.iaload k dX9_rest_15 rfl (by omega) rfl ?_
        refine Go.topE (y := nI 1) e83 ?_
        refine Go.iconst (v := nI 3) dX9_rest_16 rfl ?_
        refine Go.icmp_eq_f (tgt := 38) dX9_rest_17 (by decide) (by decide) ?_
        refine Go.aload_n dX9_rest_20 rfl ?_
        refine Go.getR dX9_rest_21 flX9_28 rfl ?_
        refine Go.iload_n dX9_rest_24 rfl ?_
        refine Go.at 25 rfl ?_
        refine Go.iaload k dX9_rest_25 rfl (by omega) rfl ?_
        refine Go.topE (y := nI 1) e83 ?_
        refine Go.if_ne_t (tgt := 35) dX9_rest_26 (by decide) (by decide) ?_
        refine Go.ldc dX9_rest_35 cnX9_119 ?_
        refine Go.ireturn .int dX9_rest_37 rfl rfl ?_
        exact ⟨rfl, Fr.rf _ _⟩
    · skip
      refine OpOK.q (x := (-1000000012)) hS ?_ (fun μ5 k5 => ?_)
      · show Go V (d + 3) mX8_rest 0 [some (vR 0), some (vI (nI k)), some (vI nn), none, none] [] μ _
        refine Go.iload_n dX8_rest_0 rfl ?_
        refine Go.callSi [vI (nI k)] [] dX8_rest_1 lkX8_265 rfl (Nat.le_of_ble_eq_true rfl) rfl (Nat.le_of_ble_eq_true rfl) (c_isSlot (nI k)) ?_
        refine Go.if_neb_t (tgt := 10) dX8_rest_4 (by decide) h1 ?_
        refine Go.aload_n dX8_rest_10 rfl ?_
        refine Go.getR dX8_rest_11 flX8_55 rfl ?_
        refine Go.iload_n dX8_rest_14 rfl ?_
        refine Go.at 15 rfl ?_
        refine Go.aaload (r := 61 + k) k dX8_rest_15 (arSl hk) rfl ?_
        refine Go.astore_n (ls' := [some (vR 0), some (vI (nI k)), some (vI nn), some (vR (61 + k)), none]) dX8_rest_16 (by decide) rfl ?_
        refine Go.aload_n dX8_rest_17 rfl ?_
        refine Go.iconst (v := nI 3) dX8_rest_18 rfl ?_
        refine Go.callVi (61 + k) [vI (nI 3)] [] dX8_rest_19 lkX8_288 (slA hk).2.2.2.2.2 rfl (Nat.le_of_ble_eq_true rfl) rfl (Nat.le_of_ble_eq_true rfl) ((c_finding3 (slA hk)).eq (by rw [a1, e3]; try decide)) ?_
        refine Go.istore (ls' := [some (vR 0), some (vI (nI k)), some (vI nn), some (vR (61 + k)), some (vI (-1000000012))]) dX8_rest_22 (by decide) rfl ?_
        refine Go.at 24 rfl ?_
        refine Go.iload dX8_rest_24 rfl ?_
        refine Go.ldc dX8_rest_26 cnX8_118 ?_
        refine Go.icmp_eq_f (tgt := 34) dX8_rest_28 (by decide) (by decide) ?_
        refine Go.iload dX8_rest_31 rfl ?_
        refine Go.ireturn .int dX8_rest_33 rfl rfl ?_
        exact ⟨rfl, Fr.rf _ _⟩
      · skip
        have e83 : μ5 83 k = nI 2 := (congrFun (k5 83 (by decide)) k).trans e3
        show Go V (d + 3) mX9_rest 0 [some (vR 76), some (vI (nI k)), some (vI nn)] [] μ5 _
        refine Go.iload_n dX9_rest_0 rfl ?_
        refine Go.callSi [vI (nI k)] [] dX9_rest_1 lkX9_299 rfl (Nat.le_of_ble_eq_true rfl) rfl (Nat.le_of_ble_eq_true rfl) (m_isSlot (nI k)) ?_
        refine Go.if_neb_t (tgt := 10) dX9_rest_4 (by decide) h1 ?_
        refine Go.aload_n dX9_rest_10 rfl ?_
        refine Go.getR dX9_rest_11 flX9_28 rfl ?_
        refine Go.iload_n dX9_rest_14 rfl ?_
        refine Go.at 15 rfl ?_
        refine Go.iaload k dX9_rest_15 rfl (by omega) rfl ?_
        refine Go.topE (y := nI 2) e83 ?_
        refine Go.iconst (v := nI 3) dX9_rest_16 rfl ?_
        refine Go.icmp_eq_f (tgt := 38) dX9_rest_17 (by decide) (by decide) ?_
        refine Go.aload_n dX9_rest_20 rfl ?_
        refine Go.getR dX9_rest_21 flX9_28 rfl ?_
        refine Go.iload_n dX9_rest_24 rfl ?_
        refine Go.at 25 rfl ?_
        refine Go.iaload k dX9_rest_25 rfl (by omega) rfl ?_
        refine Go.topE (y := nI 2) e83 ?_
        refine Go.if_ne_t (tgt := 35) dX9_rest_26 (by decide) (by decide) ?_
        refine Go.ldc dX9_rest_35 cnX9_119 ?_
        refine Go.ireturn .int dX9_rest_37 rfl rfl ?_
        exact ⟨rfl, Fr.rf _ _⟩
    · skip
      by_cases hz : nn = 0
      · skip
        refine OpOK.q (x := (-1000000002)) hS ?_ (fun μ5 k5 => ?_)
        · show Go V (d + 3) mX8_rest 0 [some (vR 0), some (vI (nI k)), some (vI nn), none, none] [] μ _
          refine Go.iload_n dX8_rest_0 rfl ?_
          refine Go.callSi [vI (nI k)] [] dX8_rest_1 lkX8_265 rfl (Nat.le_of_ble_eq_true rfl) rfl (Nat.le_of_ble_eq_true rfl) (c_isSlot (nI k)) ?_
          refine Go.if_neb_t (tgt := 10) dX8_rest_4 (by decide) h1 ?_
          refine Go.aload_n dX8_rest_10 rfl ?_
          refine Go.getR dX8_rest_11 flX8_55 rfl ?_
          refine Go.iload_n dX8_rest_14 rfl ?_
          refine Go.at 15 rfl ?_
          refine Go.aaload (r := 61 + k) k dX8_rest_15 (arSl hk) rfl ?_
          refine Go.astore_n (ls' := [some (vR 0), some (vI (nI k)), some (vI nn), some (vR (61 + k)), none]) dX8_rest_16 (by decide) rfl ?_
          refine Go.aload_n dX8_rest_17 rfl ?_
          refine Go.iconst (v := nI 3) dX8_rest_18 rfl ?_
          refine Go.callVi (61 + k) [vI (nI 3)] [] dX8_rest_19 lkX8_288 (slA hk).2.2.2.2.2 rfl (Nat.le_of_ble_eq_true rfl) rfl (Nat.le_of_ble_eq_true rfl) ((c_finding3 (slA hk)).eq (by rw [a1, e3]; try decide)) ?_
          refine Go.istore (ls' := [some (vR 0), some (vI (nI k)), some (vI nn), some (vR (61 + k)), some (vI (-1000000005))]) dX8_rest_22 (by decide) rfl ?_
          refine Go.at 24 rfl ?_
          refine Go.iload dX8_rest_24 rfl ?_
          refine Go.ldc dX8_rest_26 cnX8_118 ?_
          refine Go.icmp_eq_t (tgt := 34) dX8_rest_28 (by decide) (by decide) ?_
          refine Go.iload_n dX8_rest_34 rfl ?_
          refine Go.if_ne_f (tgt := 43) dX8_rest_35 (by decide) hz ?_
          refine Go.ldc dX8_rest_38 cnX8_191 ?_
          refine Go.at 40 rfl ?_
          refine Go.goto (tgt := 49) dX8_rest_40 (by decide) ?_
          refine Go.ireturn .int dX8_rest_49 rfl rfl ?_
          exact ⟨rfl, Fr.rf _ _⟩
        · skip
          have e83 : μ5 83 k = nI 3 := (congrFun (k5 83 (by decide)) k).trans e3
          have e84 : μ5 84 k = μ (61 + k) 3 := (congrFun (k5 84 (by decide)) k).trans b1.symm
          show Go V (d + 3) mX9_rest 0 [some (vR 76), some (vI (nI k)), some (vI nn)] [] μ5 _
          refine Go.iload_n dX9_rest_0 rfl ?_
          refine Go.callSi [vI (nI k)] [] dX9_rest_1 lkX9_299 rfl (Nat.le_of_ble_eq_true rfl) rfl (Nat.le_of_ble_eq_true rfl) (m_isSlot (nI k)) ?_
          refine Go.if_neb_t (tgt := 10) dX9_rest_4 (by decide) h1 ?_
          refine Go.aload_n dX9_rest_10 rfl ?_
          refine Go.getR dX9_rest_11 flX9_28 rfl ?_
          refine Go.iload_n dX9_rest_14 rfl ?_
          refine Go.at 15 rfl ?_
          refine Go.iaload k dX9_rest_15 rfl (by omega) rfl ?_
          refine Go.topE (y := nI 3) e83 ?_
          refine Go.iconst (v := nI 3) dX9_rest_16 rfl ?_
          refine Go.icmp_eq_t (tgt := 38) dX9_rest_17 (by decide) (by decide) ?_
          refine Go.iload_n dX9_rest_38 rfl ?_
          refine Go.if_ne_f (tgt := 47) dX9_rest_39 (by decide) hz ?_
          refine Go.ldc dX9_rest_42 cnX9_177 ?_
          refine Go.at 44 rfl ?_
          refine Go.goto (tgt := 55) dX9_rest_44 (by decide) ?_
          refine Go.ireturn .int dX9_rest_55 rfl rfl ?_
          exact ⟨rfl, Fr.rf _ _⟩
      · skip
        refine OpOK.q (x := irm (μ (61 + k) 3) nn) hS ?_ (fun μ5 k5 => ?_)
        · show Go V (d + 3) mX8_rest 0 [some (vR 0), some (vI (nI k)), some (vI nn), none, none] [] μ _
          refine Go.iload_n dX8_rest_0 rfl ?_
          refine Go.callSi [vI (nI k)] [] dX8_rest_1 lkX8_265 rfl (Nat.le_of_ble_eq_true rfl) rfl (Nat.le_of_ble_eq_true rfl) (c_isSlot (nI k)) ?_
          refine Go.if_neb_t (tgt := 10) dX8_rest_4 (by decide) h1 ?_
          refine Go.aload_n dX8_rest_10 rfl ?_
          refine Go.getR dX8_rest_11 flX8_55 rfl ?_
          refine Go.iload_n dX8_rest_14 rfl ?_
          refine Go.at 15 rfl ?_
          refine Go.aaload (r := 61 + k) k dX8_rest_15 (arSl hk) rfl ?_
          refine Go.astore_n (ls' := [some (vR 0), some (vI (nI k)), some (vI nn), some (vR (61 + k)), none]) dX8_rest_16 (by decide) rfl ?_
          refine Go.aload_n dX8_rest_17 rfl ?_
          refine Go.iconst (v := nI 3) dX8_rest_18 rfl ?_
          refine Go.callVi (61 + k) [vI (nI 3)] [] dX8_rest_19 lkX8_288 (slA hk).2.2.2.2.2 rfl (Nat.le_of_ble_eq_true rfl) rfl (Nat.le_of_ble_eq_true rfl) ((c_finding3 (slA hk)).eq (by rw [a1, e3]; try decide)) ?_
          refine Go.istore (ls' := [some (vR 0), some (vI (nI k)), some (vI nn), some (vR (61 + k)), some (vI (-1000000005))]) dX8_rest_22 (by decide) rfl ?_
          refine Go.at 24 rfl ?_
          refine Go.iload dX8_rest_24 rfl ?_
          refine Go.ldc dX8_rest_26 cnX8_118 ?_
          refine Go.icmp_eq_t (tgt := 34) dX8_rest_28 (by decide) (by decide) ?_
          refine Go.iload_n dX8_rest_34 rfl ?_
          refine Go.if_ne_t (tgt := 43) dX8_rest_35 (by decide) hz ?_
          refine Go.aload_n dX8_rest_43 rfl ?_
          refine Go.at 44 rfl ?_
          refine Go.getI dX8_rest_44 flX8_285 (slA hk).2.2.2.1 ?_
          refine Go.iload_n dX8_rest_47 rfl ?_
          refine Go.iremE dX8_rest_48 hz ?_
          refine Go.ireturn .int dX8_rest_49 rfl rfl ?_
          exact ⟨rfl, Fr.rf _ _⟩
        · skip
          have e83 : μ5 83 k = nI 3 := (congrFun (k5 83 (by decide)) k).trans e3
          have e84 : μ5 84 k = μ (61 + k) 3 := (congrFun (k5 84 (by decide)) k).trans b1.symm
          show Go V (d + 3) mX9_rest 0 [some (vR 76), some (vI (nI k)), some (vI nn)] [] μ5 _
          refine Go.iload_n dX9_rest_0 rfl ?_
          refine Go.callSi [vI (nI k)] [] dX9_rest_1 lkX9_299 rfl (Nat.le_of_ble_eq_true rfl) rfl (Nat.le_of_ble_eq_true rfl) (m_isSlot (nI k)) ?_
          refine Go.if_neb_t (tgt := 10) dX9_rest_4 (by decide) h1 ?_
          refine Go.aload_n dX9_rest_10 rfl ?_
          refine Go.getR dX9_rest_11 flX9_28 rfl ?_
          refine Go.iload_n dX9_rest_14 rfl ?_
          refine Go.at 15 rfl ?_
          refine Go.iaload k dX9_rest_15 rfl (by omega) rfl ?_
          refine Go.topE (y := nI 3) e83 ?_
          refine Go.iconst (v := nI 3) dX9_rest_16 rfl ?_
          refine Go.icmp_eq_t (tgt := 38) dX9_rest_17 (by decide) (by decide) ?_
          refine Go.iload_n dX9_rest_38 rfl ?_
          refine Go.if_ne_t (tgt := 47) dX9_rest_39 (by decide) hz ?_
          refine Go.aload_n dX9_rest_47 rfl ?_
          refine Go.at 48 rfl ?_
          refine Go.getR dX9_rest_48 flX9_31 rfl ?_
          refine Go.iload_n dX9_rest_51 rfl ?_
          refine Go.iaload k dX9_rest_52 rfl (by omega) rfl ?_
          refine Go.topE (y := μ (61 + k) 3) e84 ?_
          refine Go.iload_n dX9_rest_53 rfl ?_
          refine Go.iremE dX9_rest_54 hz ?_
          refine Go.ireturn .int dX9_rest_55 rfl rfl ?_
          exact ⟨rfl, Fr.rf _ _⟩
  · skip
    refine OpOK.q (x := (-1000000001)) hS ?_ (fun μ5 k5 => ?_)
    · show Go V (d + 3) mX8_rest 0 [some (vR 0), some (vI k0), some (vI nn), none, none] [] μ _
      refine Go.iload_n dX8_rest_0 rfl ?_
      refine Go.callSi [vI k0] [] dX8_rest_1 lkX8_265 rfl (Nat.le_of_ble_eq_true rfl) rfl (Nat.le_of_ble_eq_true rfl) (c_isSlot k0) ?_
      refine Go.if_neb_f (tgt := 10) dX8_rest_4 (by decide) h1 ?_
      refine Go.ldc dX8_rest_7 cnX8_76 ?_
      refine Go.ireturn .int dX8_rest_9 rfl rfl ?_
      exact ⟨rfl, Fr.rf _ _⟩
    · skip
      show Go V (d + 3) mX9_rest 0 [some (vR 76), some (vI k0), some (vI nn)] [] μ5 _
      refine Go.iload_n dX9_rest_0 rfl ?_
      refine Go.callSi [vI k0] [] dX9_rest_1 lkX9_299 rfl (Nat.le_of_ble_eq_true rfl) rfl (Nat.le_of_ble_eq_true rfl) (m_isSlot k0) ?_
      refine Go.if_neb_f (tgt := 10) dX9_rest_4 (by decide) h1 ?_
      refine Go.ldc dX9_rest_7 cnX9_98 ?_
      refine Go.ireturn .int dX9_rest_9 rfl rfl ?_
      exact ⟨rfl, Fr.rf _ _⟩
theorem op_tell {V : VV} {d : Nat} {μ : Memo} (hS : Sim μ) (v : Int32) : OpOK V (d + 1) mX8_tell mX9_tell [vI v] μ := by
  obtain ⟨⟨hT, hCo, hKd, hO, hH⟩, hI, hX, hIm, hSh, hSl, hTp, hWt⟩ := id hS
  obtain ⟨n, hn, w1, w2, w3⟩ := hWt
  by_cases h60 : n < 60
  · skip
    refine OpOK.of (x := nI (n + 1)) (P := fun μ1 => μ1 = ms (ms μ 38 n v) 0 9 (nI (n + 1))) ?_ (fun μ5 k5 => ?_)
    · show Go V (d + 1) mX8_tell 0 [some (vR 0), some (vI v)] [] μ _
      refine Go.aload_n dX8_tell_0 rfl ?_
      refine Go.getI dX8_tell_1 flX8_291 rfl ?_
      refine Go.topE (y := nI n) w1 ?_
      refine Go.bipush (v := nI 60) dX8_tell_4 rfl ?_
      refine Go.icmp_lt_t (tgt := 12) dX8_tell_6 (by decide) (by rw [sI_lt, nT, nT]; omega) ?_
      refine Go.aload_n dX8_tell_12 rfl ?_
      refine Go.getR dX8_tell_13 flX8_59 rfl ?_
      refine Go.at 16 rfl ?_
      refine Go.aload_n dX8_tell_16 rfl ?_
      refine Go.getI dX8_tell_17 flX8_291 rfl ?_
      refine Go.topE (y := nI n) w1 ?_
      refine Go.iload_n dX8_tell_20 rfl ?_
      refine Go.iastore n dX8_tell_21 rfl (by omega) rfl ?_
      refine Go.aload_n dX8_tell_22 rfl ?_
      refine Go.dupR dX8_tell_23 ?_
      refine Go.at 24 rfl ?_
      refine Go.getI dX8_tell_24 flX8_291 rfl ?_
      refine Go.topE (y := nI n) ((congrFun (ms_ne _ _ _ (by decide)) _).trans w1) ?_
      refine Go.iconst (v := nI 1) dX8_tell_27 rfl ?_
      refine Go.iaddN dX8_tell_28 ?_
      refine Go.put dX8_tell_29 flX8_291 rfl rfl rfl rfl ?_
      refine Go.aload_n dX8_tell_32 rfl ?_
      refine Go.getI dX8_tell_33 flX8_291 rfl ?_
      refine Go.topE (y := nI (n + 1)) (by rw [ms_self, upd_self]) ?_
      refine Go.at 36 rfl ?_
      refine Go.ireturn .int dX8_tell_36 rfl rfl ?_
      exact ⟨rfl, rfl⟩
    · skip
      have v1 : μ5 76 29 = nI n := by rw [k5, ms_ne _ _ _ (by decide), ms_ne _ _ _ (by decide)]; exact w2
      show Go V (d + 1) mX9_tell 0 [some (vR 76), some (vI v)] [] μ5 _
      refine Go.aload_n dX9_tell_0 rfl ?_
      refine Go.getI dX9_tell_1 flX9_302 rfl ?_
      refine Go.topE (y := nI n) v1 ?_
      refine Go.bipush (v := nI 60) dX9_tell_4 rfl ?_
      refine Go.icmp_ne_t (tgt := 12) dX9_tell_6 (by decide) (by rw [sI_eq, nT, nT]; omega) ?_
      refine Go.aload_n dX9_tell_12 rfl ?_
      refine Go.getR dX9_tell_13 flX9_58 rfl ?_
      refine Go.at 16 rfl ?_
      refine Go.aload_n dX9_tell_16 rfl ?_
      refine Go.getI dX9_tell_17 flX9_302 rfl ?_
      refine Go.topE (y := nI n) v1 ?_
      refine Go.iload_n dX9_tell_20 rfl ?_
      refine Go.iastore n dX9_tell_21 rfl (by omega) rfl ?_
      refine Go.aload_n dX9_tell_22 rfl ?_
      refine Go.dupR dX9_tell_23 ?_
      refine Go.at 24 rfl ?_
      refine Go.getI dX9_tell_24 flX9_302 rfl ?_
      refine Go.topE (y := nI n) ((congrFun (ms_ne _ _ _ (by decide)) _).trans v1) ?_
      refine Go.iconst (v := nI 1) dX9_tell_27 rfl ?_
      refine Go.iaddN dX9_tell_28 ?_
      refine Go.put dX9_tell_29 flX9_302 rfl rfl rfl rfl ?_
      refine Go.aload_n dX9_tell_32 rfl ?_
      refine Go.getI dX9_tell_33 flX9_302 rfl ?_
      refine Go.topE (y := nI (n + 1)) (by rw [ms_self, upd_self]) ?_
      refine Go.at 36 rfl ?_
      refine Go.ireturn .int dX9_tell_36 rfl rfl ?_
      exact ⟨rfl, hS.waits (fun o h1 h2 h3 h4 => by rw [ms_ne _ _ _ h3, ms_ne _ _ _ h4, k5, ms_ne _ _ _ h1, ms_ne _ _ _ h2])
        (by rw [ms_ne _ _ _ (by decide), ms_ne _ _ _ (by decide), k5, ms_self, upd_ne _ _ (by decide), ms_ne _ _ _ (by decide)])
        (by rw [ms_self, upd_ne _ _ (by decide), ms_ne _ _ _ (by decide), k5, ms_ne _ _ _ (by decide), ms_ne _ _ _ (by decide)])
        (by rw [ms_self, upd_ne _ _ (by decide), ms_ne _ _ _ (by decide), k5, ms_ne _ _ _ (by decide), ms_ne _ _ _ (by decide)])
        ⟨n + 1, by omega, by rw [ms_ne _ _ _ (by decide), ms_ne _ _ _ (by decide), k5, ms_self, upd_self], by rw [ms_self, upd_self], fun j hj => by
          rw [ms_ne _ _ _ (by decide), ms_ne _ _ _ (by decide), ms_ne _ _ _ (by decide), ms_self, k5, ms_ne _ _ _ (by decide), ms_self, ms_ne _ _ _ (by decide), ms_ne _ _ _ (by decide)]
          by_cases z : j = n
          · subst z; rw [upd_self, upd_self]
          · rw [upd_ne _ _ z, upd_ne _ _ z]; exact w3 j (by omega)⟩⟩
  · skip
    obtain rfl : n = 60 := by omega
    refine OpOK.q (x := (-1000000003)) hS ?_ (fun μ5 k5 => ?_)
    · show Go V (d + 1) mX8_tell 0 [some (vR 0), some (vI v)] [] μ _
      refine Go.aload_n dX8_tell_0 rfl ?_
      refine Go.getI dX8_tell_1 flX8_291 rfl ?_
      refine Go.topE (y := nI 60) w1 ?_
      refine Go.bipush (v := nI 60) dX8_tell_4 rfl ?_
      refine Go.icmp_lt_f (tgt := 12) dX8_tell_6 (by decide) (by decide) ?_
      refine Go.ldc dX8_tell_9 cnX8_172 ?_
      refine Go.ireturn .int dX8_tell_11 rfl rfl ?_
      exact ⟨rfl, Fr.rf _ _⟩
    · skip
      have v1 : μ5 76 29 = nI 60 := (congrFun (k5 76 (by decide)) _).trans w2
      show Go V (d + 1) mX9_tell 0 [some (vR 76), some (vI v)] [] μ5 _
      refine Go.aload_n dX9_tell_0 rfl ?_
      refine Go.getI dX9_tell_1 flX9_302 rfl ?_
      refine Go.topE (y := nI 60) v1 ?_
      refine Go.bipush (v := nI 60) dX9_tell_4 rfl ?_
      refine Go.icmp_ne_f (tgt := 12) dX9_tell_6 (by decide) (by decide) ?_
      refine Go.ldc dX9_tell_9 cnX9_164 ?_
      refine Go.ireturn .int dX9_tell_11 rfl rfl ?_
      exact ⟨rfl, Fr.rf _ _⟩
theorem m_lay_lp {V : VV} {d : Nat} {μ0 : Memo} {k q : Nat} (hk : k < 5) (hq : q < 4) (hw : Int32) {Q : Option AVal → Memo → Prop}
    (hQ : ∀ μ1, Fr [87] μ0 μ1 → (∀ i, i < 24 → μ1 87 (24 * k + i) = μ0 82 (24 * q + i)) → (∀ z j, z < 5 → z ≠ k → j < 24 → μ1 87 (24 * z + j) = μ0 87 (24 * z + j)) → Go V d mX9_lay 186 [some (vR 76), some (vI (nI k)), some (vI (nI 2)), some (vI (nI q)), some (vI (nI 1)), some (vI hw), some (vI (nI 24))] [] μ1 Q) :
    ∀ (j i : Nat) (μ : Memo), i + j = 24 → Fr [87] μ0 μ → (∀ t, t < i → μ 87 (24 * k + t) = μ0 82 (24 * q + t)) → (∀ z j, z < 5 → z ≠ k → j < 24 → μ 87 (24 * z + j) = μ0 87 (24 * z + j)) → Go V d mX9_lay 149 [some (vR 76), some (vI (nI k)), some (vI (nI 2)), some (vI (nI q)), some (vI (nI 1)), some (vI hw), some (vI (nI i))] [] μ Q
  | 0, i, μ, hij, h1, h2, h3 => by
    obtain rfl : i = 24 := by omega
    refine Go.iload dX9_lay_149 rfl ?_
    refine Go.bipush (v := nI 24) dX9_lay_151 rfl ?_
    refine Go.icmp_ge_t (tgt := 186) dX9_lay_153 (by decide) (by decide) ?_
    exact hQ _ h1 h2 h3
  | j + 1, i, μ, hij, h1, h2, h3 => by
    have hi : i < 24 := by omega
    refine Go.iload dX9_lay_149 rfl ?_
    refine Go.bipush (v := nI 24) dX9_lay_151 rfl ?_
    refine Go.icmp_ge_f (tgt := 186) dX9_lay_153 (by decide) (nI_ge hi (by decide)) ?_
    refine Go.aload_n dX9_lay_156 rfl ?_
    refine Go.getR dX9_lay_157 flX9_40 rfl ?_
    refine Go.bipush (v := nI 24) dX9_lay_160 rfl ?_
    refine Go.at 162 rfl ?_
    refine Go.iload_n dX9_lay_162 rfl ?_
    refine Go.imulN dX9_lay_163 ?_
    refine Go.iload dX9_lay_164 rfl ?_
    refine Go.iaddN dX9_lay_166 ?_
    refine Go.aload_n dX9_lay_167 rfl ?_
    refine Go.getR dX9_lay_168 flX9_25 rfl ?_
    refine Go.at 171 rfl ?_
    refine Go.bipush (v := nI 24) dX9_lay_171 rfl ?_
    refine Go.iload_n dX9_lay_173 rfl ?_
    refine Go.imulN dX9_lay_174 ?_
    refine Go.iload dX9_lay_175 rfl ?_
    refine Go.iaddN dX9_lay_177 ?_
    refine Go.iaload ((24 * q) + i) dX9_lay_178 rfl (by omega) rfl ?_
    refine Go.topE (y := μ0 82 (24 * q + i)) (congrFun (h1 82 (by decide)) _) ?_
    refine Go.at 179 rfl ?_
    refine Go.iastore ((24 * k) + i) dX9_lay_179 rfl (by omega) rfl ?_
    refine Go.iinc (v := nI (i + 1)) (ls' := [some (vR 76), some (vI (nI k)), some (vI (nI 2)), some (vI (nI q)), some (vI (nI 1)), some (vI hw), some (vI (nI (i + 1)))]) dX9_lay_180 rfl (nI_add _ _) (by decide) rfl ?_
    refine Go.goto (tgt := 149) dX9_lay_183 (by decide) ?_
    exact m_lay_lp hk hq hw hQ j (i + 1) _ (by omega) (h1.ms _ _ (by decide)) (fun t ht => by
      rw [ms_self]
      by_cases z : t = i
      · subst z; exact upd_self _ _ _
      · rw [upd_ne _ _ (by omega)]; exact h2 t (by omega)) (fun z t hz hne ht => by rw [ms_self, upd_ne _ _ (by omega)]; exact h3 z t hz hne ht)
theorem op_lay {V : VV} {d : Nat} {μ : Memo} (hS : Sim μ) (k0 : Int32) (th : Int32) (x : Int32) : OpOK V (d + 3) mX8_lay mX9_lay [vI k0, vI th, vI x] μ := by
  obtain ⟨⟨hT, hCo, hKd, hO, hH⟩, hI, hX, hIm, hSh, hSl, hTp, hWt⟩ := id hS
  by_cases h1 : nI 0 ≤ k0 ∧ k0 ≤ nI 4
  · skip
    obtain ⟨k, hk0, rfl⟩ := in_nI (by decide) h1
    have hk : k < 5 := by omega
    obtain ⟨a1, a2⟩ := hSl k hk
    by_cases h2 : nI 0 ≤ th ∧ th ≤ nI 3
    · skip
      rcases (show th = nI 0 ∨ th = nI 1 ∨ th = nI 2 ∨ th = nI 3 by simp only [sI_le, sI_eq, nT] at *; omega) with rfl | rfl | rfl | rfl
      · skip
        refine OpOK.of (x := μ 83 k) (P := fun μ1 => Fr [61 + k, 66 + k, 71 + k] μ μ1 ∧ μ1 (61 + k) = upd (μ (61 + k)) 0 (nI 0)) ?_ (fun μ5 k5 => ?_)
        · show Go V (d + 3) mX8_lay 0 [some (vR 0), some (vI (nI k)), some (vI (nI 0)), some (vI x), none, none] [] μ _
          refine Go.iload_n dX8_lay_0 rfl ?_
          refine Go.callSi [vI (nI k)] [] dX8_lay_1 lkX8_265 rfl (Nat.le_of_ble_eq_true rfl) rfl (Nat.le_of_ble_eq_true rfl) (c_isSlot (nI k)) ?_
          refine Go.if_eqb_f (tgt := 16) dX8_lay_4 (by decide) h1 ?_
          refine Go.iload_n dX8_lay_7 rfl ?_
          refine Go.iconst (v := nI 0) dX8_lay_8 rfl ?_
          refine Go.iconst (v := nI 3) dX8_lay_9 rfl ?_
          refine Go.at 10 rfl ?_
          refine Go.callSi [vI (nI 0), vI (nI 0), vI (nI 3)] [] dX8_lay_10 lkX8_72 rfl (Nat.le_of_ble_eq_true rfl) rfl (Nat.le_of_ble_eq_true rfl) (c_within (nI 0) (nI 0) (nI 3)) ?_
          refine Go.if_neb_t (tgt := 19) dX8_lay_13 (by decide) h2 ?_
          refine Go.iload_n dX8_lay_19 rfl ?_
          refine Go.iconst (v := nI 1) dX8_lay_20 rfl ?_
          refine Go.icmp_ne_t (tgt := 31) dX8_lay_21 (by decide) (by decide) ?_
          refine Go.iload_n dX8_lay_31 rfl ?_
          refine Go.at 32 rfl ?_
          refine Go.iconst (v := nI 2) dX8_lay_32 rfl ?_
          refine Go.icmp_ne_t (tgt := 46) dX8_lay_33 (by decide) (by decide) ?_
          refine Go.iload_n dX8_lay_46 rfl ?_
          refine Go.iconst (v := nI 2) dX8_lay_47 rfl ?_
          refine Go.icmp_ne_t (tgt := 67) dX8_lay_48 (by decide) (by decide) ?_
          refine Go.aload_n dX8_lay_67 rfl ?_
          refine Go.at 68 rfl ?_
          refine Go.getR dX8_lay_68 flX8_55 rfl ?_
          refine Go.iload_n dX8_lay_71 rfl ?_
          refine Go.aaload (r := 61 + k) k dX8_lay_72 (arSl hk) rfl ?_
          refine Go.astore (ls' := [some (vR 0), some (vI (nI k)), some (vI (nI 0)), some (vI x), some (vR (61 + k)), none]) dX8_lay_73 (by decide) rfl ?_
          refine Go.aload dX8_lay_75 rfl ?_
          refine Go.getI dX8_lay_77 flX8_268 (slA hk).1 ?_
          refine Go.topE (y := μ 83 k) a1 ?_
          refine Go.at 80 rfl ?_
          refine Go.istore (ls' := [some (vR 0), some (vI (nI k)), some (vI (nI 0)), some (vI x), some (vR (61 + k)), some (vI (μ 83 k))]) dX8_lay_80 (by decide) rfl ?_
          refine Go.aload dX8_lay_82 rfl ?_
          refine Go.iload_n dX8_lay_84 rfl ?_
          refine Go.put dX8_lay_85 flX8_268 (slA hk).1 rfl rfl rfl ?_
          refine Go.iload_n dX8_lay_88 rfl ?_
          refine Go.iconst (v := nI 1) dX8_lay_89 rfl ?_
          refine Go.at 90 rfl ?_
          refine Go.icmp_ne_t (tgt := 124) dX8_lay_90 (by decide) (by decide) ?_
          refine Go.iload_n dX8_lay_124 rfl ?_
          refine Go.iconst (v := nI 2) dX8_lay_125 rfl ?_
          refine Go.icmp_ne_t (tgt := 146) dX8_lay_126 (by decide) (by decide) ?_
          refine Go.iload_n dX8_lay_146 rfl ?_
          refine Go.iconst (v := nI 3) dX8_lay_147 rfl ?_
          refine Go.at 148 rfl ?_
          refine Go.icmp_ne_t (tgt := 157) dX8_lay_148 (by decide) (by decide) ?_
          refine Go.iload dX8_lay_157 rfl ?_
          refine Go.ireturn .int dX8_lay_159 rfl rfl ?_
          exact ⟨rfl, (Fr.rf _ _).ms _ _ (by simp), ms_self _ _ _ _⟩
        · skip
          have kf : ∀ o, o ≠ 61 + k → o ≠ 66 + k → o ≠ 71 + k → μ5 o = μ o := fun o g1 g2 g3 => k5.1 o (by simp only [List.mem_cons, List.not_mem_nil, or_false]; omega)
          have f83 : μ5 83 = μ 83 := kf 83 (by omega) (by omega) (by omega)
          have f84 : μ5 84 = μ 84 := kf 84 (by omega) (by omega) (by omega)
          have f85 : μ5 85 = μ 85 := kf 85 (by omega) (by omega) (by omega)
          have f86 : μ5 86 = μ 86 := kf 86 (by omega) (by omega) (by omega)
          have f87 : μ5 87 = μ 87 := kf 87 (by omega) (by omega) (by omega)
          show Go V (d + 3) mX9_lay 0 [some (vR 76), some (vI (nI k)), some (vI (nI 0)), some (vI x), none, none, none] [] μ5 _
          refine Go.iload_n dX9_lay_0 rfl ?_
          refine Go.if_eq_t (tgt := 33) dX9_lay_1 (by decide) (by decide) ?_
          refine Go.iconst (v := nI 1) dX9_lay_33 rfl ?_
          refine Go.goto (tgt := 38) dX9_lay_34 (by decide) ?_
          refine Go.istore (ls' := [some (vR 76), some (vI (nI k)), some (vI (nI 0)), some (vI x), some (vI (nI 1)), none, none]) dX9_lay_38 (by decide) rfl ?_
          refine Go.iload_n dX9_lay_40 rfl ?_
          refine Go.at 41 rfl ?_
          refine Go.callSi [vI (nI k)] [] dX9_lay_41 lkX9_299 rfl (Nat.le_of_ble_eq_true rfl) rfl (Nat.le_of_ble_eq_true rfl) (m_isSlot (nI k)) ?_
          refine Go.if_eqb_f (tgt := 52) dX9_lay_44 (by decide) h1 ?_
          refine Go.iload dX9_lay_47 rfl ?_
          refine Go.if_ne_t (tgt := 55) dX9_lay_49 (by decide) (by decide) ?_
          refine Go.iload_n dX9_lay_55 rfl ?_
          refine Go.iconst (v := nI 2) dX9_lay_56 rfl ?_
          refine Go.at 57 rfl ?_
          refine Go.icmp_ne_t (tgt := 73) dX9_lay_57 (by decide) (by decide) ?_
          refine Go.aload_n dX9_lay_73 rfl ?_
          refine Go.getR dX9_lay_74 flX9_28 rfl ?_
          refine Go.iload_n dX9_lay_77 rfl ?_
          refine Go.iaload k dX9_lay_78 rfl (by omega) rfl ?_
          refine Go.topE (y := μ 83 k) (congrFun f83 k) ?_
          refine Go.istore (ls' := [some (vR 76), some (vI (nI k)), some (vI (nI 0)), some (vI x), some (vI (nI 1)), some (vI (μ 83 k)), none]) dX9_lay_79 (by decide) rfl ?_
          refine Go.at 81 rfl ?_
          refine Go.aload_n dX9_lay_81 rfl ?_
          refine Go.getR dX9_lay_82 flX9_28 rfl ?_
          refine Go.iload_n dX9_lay_85 rfl ?_
          refine Go.iload_n dX9_lay_86 rfl ?_
          refine Go.iastore k dX9_lay_87 rfl (by omega) rfl ?_
          refine Go.aload_n dX9_lay_88 rfl ?_
          refine Go.at 89 rfl ?_
          refine Go.getR dX9_lay_89 flX9_31 rfl ?_
          refine Go.iload_n dX9_lay_92 rfl ?_
          refine Go.iload_n dX9_lay_93 rfl ?_
          refine Go.iconst (v := nI 1) dX9_lay_94 rfl ?_
          refine Go.icmp_ne_t (tgt := 107) dX9_lay_95 (by decide) (by decide) ?_
          refine Go.iload_n dX9_lay_107 rfl ?_
          refine Go.at 108 rfl ?_
          refine Go.iastore k dX9_lay_108 rfl (by omega) rfl ?_
          refine Go.aload_n dX9_lay_109 rfl ?_
          refine Go.getR dX9_lay_110 flX9_34 rfl ?_
          refine Go.iload_n dX9_lay_113 rfl ?_
          refine Go.iload_n dX9_lay_114 rfl ?_
          refine Go.iconst (v := nI 1) dX9_lay_115 rfl ?_
          refine Go.at 116 rfl ?_
          refine Go.icmp_ne_t (tgt := 127) dX9_lay_116 (by decide) (by decide) ?_
          refine Go.iconst (v := nI 0) dX9_lay_127 rfl ?_
          refine Go.iastore k dX9_lay_128 rfl (by omega) rfl ?_
          refine Go.iload_n dX9_lay_129 rfl ?_
          refine Go.iconst (v := nI 2) dX9_lay_130 rfl ?_
          refine Go.icmp_ne_t (tgt := 186) dX9_lay_131 (by decide) (by decide) ?_
          refine Go.at 186 rfl ?_
          refine Go.iload dX9_lay_186 rfl ?_
          refine Go.ireturn .int dX9_lay_188 rfl rfl ?_
          exact ⟨rfl, hS.slot hk (fun o g1 g2 g3 g4 g5 g6 g7 g8 => by simp (disch := omega) only [ms_self, ms_ne, upd_self, upd_ne]; exact kf o g1 g2 g3) (fun z hz hne => by simp (disch := omega) only [ms_self, ms_ne, upd_self, upd_ne]; rw [f83]) (fun z hz hne => by simp (disch := omega) only [ms_self, ms_ne, upd_self, upd_ne]; rw [f84]) (fun z hz hne => by simp (disch := omega) only [ms_self, ms_ne, upd_self, upd_ne]; rw [f85]) (fun z hz hne => by simp (disch := omega) only [ms_self, ms_ne, upd_self, upd_ne]; rw [f86]) (fun z j hz hne hj => by simp (disch := omega) only [ms_self, ms_ne, upd_self, upd_ne]; rw [f87])
            (by simp (disch := omega) only [ms_self, ms_ne, upd_self, upd_ne]; rw [k5.2]; simp (disch := omega) only [ms_self, ms_ne, upd_self, upd_ne]; exact ⟨(by first | trivial | rfl), Or.inl (by first | trivial | rfl)⟩)⟩
      · skip
        by_cases h3 : nI 0 ≤ x ∧ x ≤ nI 29
        · skip
          obtain ⟨c, hc0, rfl⟩ := in_nI (by decide) h3
          have hc : c < 30 := by omega
          refine OpOK.of (x := μ 83 k) (P := fun μ1 => Fr [61 + k, 66 + k, 71 + k] μ μ1 ∧ μ1 (61 + k) = upd (upd (upd (μ (61 + k)) 0 (nI 1)) 1 (μ 77 (11 + 4 * c))) 2 (μ 77 (11 + 4 * c + 1))) ?_ (fun μ5 k5 => ?_)
          · show Go V (d + 3) mX8_lay 0 [some (vR 0), some (vI (nI k)), some (vI (nI 1)), some (vI (nI c)), none, none] [] μ _
            refine Go.iload_n dX8_lay_0 rfl ?_
            refine Go.callSi [vI (nI k)] [] dX8_lay_1 lkX8_265 rfl (Nat.le_of_ble_eq_true rfl) rfl (Nat.le_of_ble_eq_true rfl) (c_isSlot (nI k)) ?_
            refine Go.if_eqb_f (tgt := 16) dX8_lay_4 (by decide) h1 ?_
            refine Go.iload_n dX8_lay_7 rfl ?_
            refine Go.iconst (v := nI 0) dX8_lay_8 rfl ?_
            refine Go.iconst (v := nI 3) dX8_lay_9 rfl ?_
            refine Go.at 10 rfl ?_
            refine Go.callSi [vI (nI 1), vI (nI 0), vI (nI 3)] [] dX8_lay_10 lkX8_72 rfl (Nat.le_of_ble_eq_true rfl) rfl (Nat.le_of_ble_eq_true rfl) (c_within (nI 1) (nI 0) (nI 3)) ?_
            refine Go.if_neb_t (tgt := 19) dX8_lay_13 (by decide) h2 ?_
            refine Go.iload_n dX8_lay_19 rfl ?_
            refine Go.iconst (v := nI 1) dX8_lay_20 rfl ?_
            refine Go.icmp_ne_f (tgt := 31) dX8_lay_21 (by decide) (by decide) ?_
            refine Go.iload_n dX8_lay_24 rfl ?_
            refine Go.at 25 rfl ?_
            refine Go.callSi [vI (nI c)] [] dX8_lay_25 lkX8_65 rfl (Nat.le_of_ble_eq_true rfl) rfl (Nat.le_of_ble_eq_true rfl) (c_isCell (nI c)) ?_
            refine Go.if_eqb_f (tgt := 43) dX8_lay_28 (by decide) h3 ?_
            refine Go.iload_n dX8_lay_31 rfl ?_
            refine Go.iconst (v := nI 2) dX8_lay_32 rfl ?_
            refine Go.icmp_ne_t (tgt := 46) dX8_lay_33 (by decide) (by decide) ?_
            refine Go.iload_n dX8_lay_46 rfl ?_
            refine Go.at 47 rfl ?_
            refine Go.iconst (v := nI 2) dX8_lay_47 rfl ?_
            refine Go.icmp_ne_t (tgt := 67) dX8_lay_48 (by decide) (by decide) ?_
            refine Go.aload_n dX8_lay_67 rfl ?_
            refine Go.getR dX8_lay_68 flX8_55 rfl ?_
            refine Go.iload_n dX8_lay_71 rfl ?_
            refine Go.aaload (r := 61 + k) k dX8_lay_72 (arSl hk) rfl ?_
            refine Go.at 73 rfl ?_
            refine Go.astore (ls' := [some (vR 0), some (vI (nI k)), some (vI (nI 1)), some (vI (nI c)), some (vR (61 + k)), none]) dX8_lay_73 (by decide) rfl ?_
            refine Go.aload dX8_lay_75 rfl ?_
            refine Go.getI dX8_lay_77 flX8_268 (slA hk).1 ?_
            refine Go.topE (y := μ 83 k) a1 ?_
            refine Go.istore (ls' := [some (vR 0), some (vI (nI k)), some (vI (nI 1)), some (vI (nI c)), some (vR (61 + k)), some (vI (μ 83 k))]) dX8_lay_80 (by decide) rfl ?_
            refine Go.aload dX8_lay_82 rfl ?_
            refine Go.iload_n dX8_lay_84 rfl ?_
            refine Go.at 85 rfl ?_
            refine Go.put dX8_lay_85 flX8_268 (slA hk).1 rfl rfl rfl ?_
            refine Go.iload_n dX8_lay_88 rfl ?_
            refine Go.iconst (v := nI 1) dX8_lay_89 rfl ?_
            refine Go.icmp_ne_f (tgt := 124) dX8_lay_90 (by decide) (by decide) ?_
            refine Go.aload dX8_lay_93 rfl ?_
            refine Go.aload_n dX8_lay_95 rfl ?_
            refine Go.at 96 rfl ?_
            refine Go.getR dX8_lay_96 flX8_21 rfl ?_
            refine Go.getR dX8_lay_99 flX8_84 rfl ?_
            refine Go.iload_n dX8_lay_102 rfl ?_
            refine Go.iaload c dX8_lay_103 rfl (by omega) rfl ?_
            refine Go.topE (y := μ 77 (11 + 4 * c)) (by simp (disch := omega) only [ms_ne]; exact (hI.1 c hc).1) ?_
            refine Go.put dX8_lay_104 flX8_271 (slA hk).2.1 rfl rfl rfl ?_
            refine Go.aload dX8_lay_107 rfl ?_
            refine Go.at 109 rfl ?_
            refine Go.aload_n dX8_lay_109 rfl ?_
            refine Go.getR dX8_lay_110 flX8_21 rfl ?_
            refine Go.getR dX8_lay_113 flX8_77 rfl ?_
            refine Go.iload_n dX8_lay_116 rfl ?_
            refine Go.iaload c dX8_lay_117 rfl (by omega) rfl ?_
            refine Go.topE (y := μ 77 (11 + 4 * c + 1)) (by simp (disch := omega) only [ms_ne]; exact (hI.1 c hc).2.1) ?_
            refine Go.put dX8_lay_118 flX8_274 (slA hk).2.2.1 rfl rfl rfl ?_
            refine Go.at 121 rfl ?_
            refine Go.goto (tgt := 157) dX8_lay_121 (by decide) ?_
            refine Go.iload dX8_lay_157 rfl ?_
            refine Go.ireturn .int dX8_lay_159 rfl rfl ?_
            exact ⟨rfl, (((Fr.rf _ _).ms _ _ (by simp)).ms _ _ (by simp)).ms _ _ (by simp), by rw [ms_self, ms_self, ms_self]⟩
          · skip
            have kf : ∀ o, o ≠ 61 + k → o ≠ 66 + k → o ≠ 71 + k → μ5 o = μ o := fun o g1 g2 g3 => k5.1 o (by simp only [List.mem_cons, List.not_mem_nil, or_false]; omega)
            have f83 : μ5 83 = μ 83 := kf 83 (by omega) (by omega) (by omega)
            have f84 : μ5 84 = μ 84 := kf 84 (by omega) (by omega) (by omega)
            have f85 : μ5 85 = μ 85 := kf 85 (by omega) (by omega) (by omega)
            have f86 : μ5 86 = μ 86 := kf 86 (by omega) (by omega) (by omega)
            have f87 : μ5 87 = μ 87 := kf 87 (by omega) (by omega) (by omega)
            show Go V (d + 3) mX9_lay 0 [some (vR 76), some (vI (nI k)), some (vI (nI 1)), some (vI (nI c)), none, none, none] [] μ5 _
            refine Go.iload_n dX9_lay_0 rfl ?_
            refine Go.if_eq_f (tgt := 33) dX9_lay_1 (by decide) (by decide) ?_
            refine Go.iload_n dX9_lay_4 rfl ?_
            refine Go.iconst (v := nI 3) dX9_lay_5 rfl ?_
            refine Go.icmp_eq_f (tgt := 33) dX9_lay_6 (by decide) (by decide) ?_
            refine Go.iload_n dX9_lay_9 rfl ?_
            refine Go.at 10 rfl ?_
            refine Go.iconst (v := nI 1) dX9_lay_10 rfl ?_
            refine Go.icmp_ne_f (tgt := 21) dX9_lay_11 (by decide) (by decide) ?_
            refine Go.iload_n dX9_lay_14 rfl ?_
            refine Go.callSi [vI (nI c)] [] dX9_lay_15 lkX9_90 rfl (Nat.le_of_ble_eq_true rfl) rfl (Nat.le_of_ble_eq_true rfl) (m_isCell (nI c)) ?_
            refine Go.if_neb_t (tgt := 33) dX9_lay_18 (by decide) h3 ?_
            refine Go.iconst (v := nI 1) dX9_lay_33 rfl ?_
            refine Go.at 34 rfl ?_
            refine Go.goto (tgt := 38) dX9_lay_34 (by decide) ?_
            refine Go.istore (ls' := [some (vR 76), some (vI (nI k)), some (vI (nI 1)), some (vI (nI c)), some (vI (nI 1)), none, none]) dX9_lay_38 (by decide) rfl ?_
            refine Go.iload_n dX9_lay_40 rfl ?_
            refine Go.callSi [vI (nI k)] [] dX9_lay_41 lkX9_299 rfl (Nat.le_of_ble_eq_true rfl) rfl (Nat.le_of_ble_eq_true rfl) (m_isSlot (nI k)) ?_
            refine Go.if_eqb_f (tgt := 52) dX9_lay_44 (by decide) h1 ?_
            refine Go.iload dX9_lay_47 rfl ?_
            refine Go.at 49 rfl ?_
            refine Go.if_ne_t (tgt := 55) dX9_lay_49 (by decide) (by decide) ?_
            refine Go.iload_n dX9_lay_55 rfl ?_
            refine Go.iconst (v := nI 2) dX9_lay_56 rfl ?_
            refine Go.icmp_ne_t (tgt := 73) dX9_lay_57 (by decide) (by decide) ?_
            refine Go.aload_n dX9_lay_73 rfl ?_
            refine Go.getR dX9_lay_74 flX9_28 rfl ?_
            refine Go.at 77 rfl ?_
            refine Go.iload_n dX9_lay_77 rfl ?_
            refine Go.iaload k dX9_lay_78 rfl (by omega) rfl ?_
            refine Go.topE (y := μ 83 k) (congrFun f83 k) ?_
            refine Go.istore (ls' := [some (vR 76), some (vI (nI k)), some (vI (nI 1)), some (vI (nI c)), some (vI (nI 1)), some (vI (μ 83 k)), none]) dX9_lay_79 (by decide) rfl ?_
            refine Go.aload_n dX9_lay_81 rfl ?_
            refine Go.getR dX9_lay_82 flX9_28 rfl ?_
            refine Go.iload_n dX9_lay_85 rfl ?_
            refine Go.at 86 rfl ?_
            refine Go.iload_n dX9_lay_86 rfl ?_
            refine Go.iastore k dX9_lay_87 rfl (by omega) rfl ?_
            refine Go.aload_n dX9_lay_88 rfl ?_
            refine Go.getR dX9_lay_89 flX9_31 rfl ?_
            refine Go.iload_n dX9_lay_92 rfl ?_
            refine Go.iload_n dX9_lay_93 rfl ?_
            refine Go.at 94 rfl ?_
            refine Go.iconst (v := nI 1) dX9_lay_94 rfl ?_
            refine Go.icmp_ne_f (tgt := 107) dX9_lay_95 (by decide) (by decide) ?_
            refine Go.aload_n dX9_lay_98 rfl ?_
            refine Go.iload_n dX9_lay_99 rfl ?_
            refine Go.iconst (v := nI 0) dX9_lay_100 rfl ?_
            refine Go.callVi 76 [vI (nI c), vI (nI 0)] [vI (nI k), vR 84] dX9_lay_101 lkX9_70 (Or.inl ⟨_, _, _, rfl, rfl, rfl⟩) rfl (Nat.le_of_ble_eq_true rfl) rfl (Nat.le_of_ble_eq_true rfl) (m_of0 (s := μ 77) (by simp (disch := omega) only [ms_ne]; exact kf 77 (by omega) (by omega) (by omega)) c hc) ?_
            refine Go.at 104 rfl ?_
            refine Go.goto (tgt := 108) dX9_lay_104 (by decide) ?_
            refine Go.iastore k dX9_lay_108 rfl (by omega) rfl ?_
            refine Go.aload_n dX9_lay_109 rfl ?_
            refine Go.getR dX9_lay_110 flX9_34 rfl ?_
            refine Go.iload_n dX9_lay_113 rfl ?_
            refine Go.iload_n dX9_lay_114 rfl ?_
            refine Go.at 115 rfl ?_
            refine Go.iconst (v := nI 1) dX9_lay_115 rfl ?_
            refine Go.icmp_ne_f (tgt := 127) dX9_lay_116 (by decide) (by decide) ?_
            refine Go.aload_n dX9_lay_119 rfl ?_
            refine Go.iload_n dX9_lay_120 rfl ?_
            refine Go.callVi 76 [vI (nI c)] [vI (nI k), vR 85] dX9_lay_121 lkX9_109 (Or.inl ⟨_, _, _, rfl, rfl, rfl⟩) rfl (Nat.le_of_ble_eq_true rfl) rfl (Nat.le_of_ble_eq_true rfl) (m_worth (s := μ 77) (by simp (disch := omega) only [ms_ne]; exact kf 77 (by omega) (by omega) (by omega)) c hc) ?_
            refine Go.goto (tgt := 128) dX9_lay_124 (by decide) ?_
            refine Go.at 128 rfl ?_
            refine Go.iastore k dX9_lay_128 rfl (by omega) rfl ?_
            refine Go.iload_n dX9_lay_129 rfl ?_
            refine Go.iconst (v := nI 2) dX9_lay_130 rfl ?_
            refine Go.icmp_ne_t (tgt := 186) dX9_lay_131 (by decide) (by decide) ?_
            refine Go.iload dX9_lay_186 rfl ?_
            refine Go.ireturn .int dX9_lay_188 rfl rfl ?_
            exact ⟨rfl, hS.slot hk (fun o g1 g2 g3 g4 g5 g6 g7 g8 => by simp (disch := omega) only [ms_self, ms_ne, upd_self, upd_ne]; exact kf o g1 g2 g3) (fun z hz hne => by simp (disch := omega) only [ms_self, ms_ne, upd_self, upd_ne]; rw [f83]) (fun z hz hne => by simp (disch := omega) only [ms_self, ms_ne, upd_self, upd_ne]; rw [f84]) (fun z hz hne => by simp (disch := omega) only [ms_self, ms_ne, upd_self, upd_ne]; rw [f85]) (fun z hz hne => by simp (disch := omega) only [ms_self, ms_ne, upd_self, upd_ne]; rw [f86]) (fun z j hz hne hj => by simp (disch := omega) only [ms_self, ms_ne, upd_self, upd_ne]; rw [f87])
              (by simp (disch := omega) only [ms_self, ms_ne, upd_self, upd_ne]; rw [k5.2]; simp (disch := omega) only [ms_self, ms_ne, upd_self, upd_ne]; exact ⟨(by first | trivial | rfl), Or.inr (Or.inl ⟨(by first | trivial | rfl), (by first | trivial | rfl), hKd c hc, (by first | trivial | rfl)⟩)⟩)⟩
        · skip
          refine OpOK.q (x := (-1000000001)) hS ?_ (fun μ5 k5 => ?_)
          · show Go V (d + 3) mX8_lay 0 [some (vR 0), some (vI (nI k)), some (vI (nI 1)), some (vI x), none, none] [] μ _
            refine Go.iload_n dX8_lay_0 rfl ?_
            refine Go.callSi [vI (nI k)] [] dX8_lay_1 lkX8_265 rfl (Nat.le_of_ble_eq_true rfl) rfl (Nat.le_of_ble_eq_true rfl) (c_isSlot (nI k)) ?_
            refine Go.if_eqb_f (tgt := 16) dX8_lay_4 (by decide) h1 ?_
            refine Go.iload_n dX8_lay_7 rfl ?_
            refine Go.iconst (v := nI 0) dX8_lay_8 rfl ?_
            refine Go.iconst (v := nI 3) dX8_lay_9 rfl ?_
            refine Go.at 10 rfl ?_
            refine Go.callSi [vI (nI 1), vI (nI 0), vI (nI 3)] [] dX8_lay_10 lkX8_72 rfl (Nat.le_of_ble_eq_true rfl) rfl (Nat.le_of_ble_eq_true rfl) (c_within (nI 1) (nI 0) (nI 3)) ?_
            refine Go.if_neb_t (tgt := 19) dX8_lay_13 (by decide) h2 ?_
            refine Go.iload_n dX8_lay_19 rfl ?_
            refine Go.iconst (v := nI 1) dX8_lay_20 rfl ?_
            refine Go.icmp_ne_f (tgt := 31) dX8_lay_21 (by decide) (by decide) ?_
            refine Go.iload_n dX8_lay_24 rfl ?_
            refine Go.at 25 rfl ?_
            refine Go.callSi [vI x] [] dX8_lay_25 lkX8_65 rfl (Nat.le_of_ble_eq_true rfl) rfl (Nat.le_of_ble_eq_true rfl) (c_isCell x) ?_
            refine Go.if_eqb_t (tgt := 43) dX8_lay_28 (by decide) h3 ?_
            refine Go.ldc dX8_lay_43 cnX8_76 ?_
            refine Go.ireturn .int dX8_lay_45 rfl rfl ?_
            exact ⟨rfl, Fr.rf _ _⟩
          · skip
            show Go V (d + 3) mX9_lay 0 [some (vR 76), some (vI (nI k)), some (vI (nI 1)), some (vI x), none, none, none] [] μ5 _
            refine Go.iload_n dX9_lay_0 rfl ?_
            refine Go.if_eq_f (tgt := 33) dX9_lay_1 (by decide) (by decide) ?_
            refine Go.iload_n dX9_lay_4 rfl ?_
            refine Go.iconst (v := nI 3) dX9_lay_5 rfl ?_
            refine Go.icmp_eq_f (tgt := 33) dX9_lay_6 (by decide) (by decide) ?_
            refine Go.iload_n dX9_lay_9 rfl ?_
            refine Go.at 10 rfl ?_
            refine Go.iconst (v := nI 1) dX9_lay_10 rfl ?_
            refine Go.icmp_ne_f (tgt := 21) dX9_lay_11 (by decide) (by decide) ?_
            refine Go.iload_n dX9_lay_14 rfl ?_
            refine Go.callSi [vI x] [] dX9_lay_15 lkX9_90 rfl (Nat.le_of_ble_eq_true rfl) rfl (Nat.le_of_ble_eq_true rfl) (m_isCell x) ?_
            refine Go.if_neb_f (tgt := 33) dX9_lay_18 (by decide) h3 ?_
            refine Go.iload_n dX9_lay_21 rfl ?_
            refine Go.at 22 rfl ?_
            refine Go.iconst (v := nI 2) dX9_lay_22 rfl ?_
            refine Go.icmp_ne_t (tgt := 37) dX9_lay_23 (by decide) (by decide) ?_
            refine Go.iconst (v := nI 0) dX9_lay_37 rfl ?_
            refine Go.istore (ls' := [some (vR 76), some (vI (nI k)), some (vI (nI 1)), some (vI x), some (vI (nI 0)), none, none]) dX9_lay_38 (by decide) rfl ?_
            refine Go.iload_n dX9_lay_40 rfl ?_
            refine Go.callSi [vI (nI k)] [] dX9_lay_41 lkX9_299 rfl (Nat.le_of_ble_eq_true rfl) rfl (Nat.le_of_ble_eq_true rfl) (m_isSlot (nI k)) ?_
            refine Go.at 44 rfl ?_
            refine Go.if_eqb_f (tgt := 52) dX9_lay_44 (by decide) h1 ?_
            refine Go.iload dX9_lay_47 rfl ?_
            refine Go.if_ne_f (tgt := 55) dX9_lay_49 (by decide) (by decide) ?_
            refine Go.ldc dX9_lay_52 cnX9_98 ?_
            refine Go.ireturn .int dX9_lay_54 rfl rfl ?_
            exact ⟨rfl, Fr.rf _ _⟩
      · skip
        by_cases h3 : nI 0 ≤ x ∧ x ≤ nI 3
        · skip
          obtain ⟨q, hq0, rfl⟩ := in_nI (by decide) h3
          have hq : q < 4 := by omega
          obtain ⟨d1, d2, d3, ⟨n, hn, en⟩, d4⟩ := hSh q hq
          rcases d2 with es | es | es
          · skip
            refine OpOK.q (x := (-1000000011)) hS ?_ (fun μ5 k5 => ?_)
            · show Go V (d + 3) mX8_lay 0 [some (vR 0), some (vI (nI k)), some (vI (nI 2)), some (vI (nI q)), none, none] [] μ _
              refine Go.iload_n dX8_lay_0 rfl ?_
              refine Go.callSi [vI (nI k)] [] dX8_lay_1 lkX8_265 rfl (Nat.le_of_ble_eq_true rfl) rfl (Nat.le_of_ble_eq_true rfl) (c_isSlot (nI k)) ?_
              refine Go.if_eqb_f (tgt := 16) dX8_lay_4 (by decide) h1 ?_
              refine Go.iload_n dX8_lay_7 rfl ?_
              refine Go.iconst (v := nI 0) dX8_lay_8 rfl ?_
              refine Go.iconst (v := nI 3) dX8_lay_9 rfl ?_
              refine Go.at 10 rfl ?_
              refine Go.callSi [vI (nI 2), vI (nI 0), vI (nI 3)] [] dX8_lay_10 lkX8_72 rfl (Nat.le_of_ble_eq_true rfl) rfl (Nat.le_of_ble_eq_true rfl) (c_within (nI 2) (nI 0) (nI 3)) ?_
              refine Go.if_neb_t (tgt := 19) dX8_lay_13 (by decide) h2 ?_
              refine Go.iload_n dX8_lay_19 rfl ?_
              refine Go.iconst (v := nI 1) dX8_lay_20 rfl ?_
              refine Go.icmp_ne_t (tgt := 31) dX8_lay_21 (by decide) (by decide) ?_
              refine Go.iload_n dX8_lay_31 rfl ?_
              refine Go.at 32 rfl ?_
              refine Go.iconst (v := nI 2) dX8_lay_32 rfl ?_
              refine Go.icmp_ne_f (tgt := 46) dX8_lay_33 (by decide) (by decide) ?_
              refine Go.iload_n dX8_lay_36 rfl ?_
              refine Go.callSi [vI (nI q)] [] dX8_lay_37 lkX8_227 rfl (Nat.le_of_ble_eq_true rfl) rfl (Nat.le_of_ble_eq_true rfl) (c_isSheet (nI q)) ?_
              refine Go.if_neb_t (tgt := 46) dX8_lay_40 (by decide) h3 ?_
              refine Go.iload_n dX8_lay_46 rfl ?_
              refine Go.at 47 rfl ?_
              refine Go.iconst (v := nI 2) dX8_lay_47 rfl ?_
              refine Go.icmp_ne_f (tgt := 67) dX8_lay_48 (by decide) (by decide) ?_
              refine Go.aload_n dX8_lay_51 rfl ?_
              refine Go.getR dX8_lay_52 flX8_49 rfl ?_
              refine Go.iload_n dX8_lay_55 rfl ?_
              refine Go.aaload (r := 53 + q) q dX8_lay_56 (arSh hq) rfl ?_
              refine Go.at 57 rfl ?_
              refine Go.getI dX8_lay_57 flX8_235 (shA hq).1 ?_
              refine Go.topE (y := (-1)) (d1.trans es) ?_
              refine Go.iconst (v := (-1)) dX8_lay_60 rfl ?_
              refine Go.icmp_ne_f (tgt := 67) dX8_lay_61 (by decide) (by decide) ?_
              refine Go.ldc dX8_lay_64 cnX8_238 ?_
              refine Go.ireturn .int dX8_lay_66 rfl rfl ?_
              exact ⟨rfl, Fr.rf _ _⟩
            · skip
              have e80 : μ5 80 q = (-1) := (congrFun (k5 80 (by decide)) q).trans es
              show Go V (d + 3) mX9_lay 0 [some (vR 76), some (vI (nI k)), some (vI (nI 2)), some (vI (nI q)), none, none, none] [] μ5 _
              refine Go.iload_n dX9_lay_0 rfl ?_
              refine Go.if_eq_f (tgt := 33) dX9_lay_1 (by decide) (by decide) ?_
              refine Go.iload_n dX9_lay_4 rfl ?_
              refine Go.iconst (v := nI 3) dX9_lay_5 rfl ?_
              refine Go.icmp_eq_f (tgt := 33) dX9_lay_6 (by decide) (by decide) ?_
              refine Go.iload_n dX9_lay_9 rfl ?_
              refine Go.at 10 rfl ?_
              refine Go.iconst (v := nI 1) dX9_lay_10 rfl ?_
              refine Go.icmp_ne_t (tgt := 21) dX9_lay_11 (by decide) (by decide) ?_
              refine Go.iload_n dX9_lay_21 rfl ?_
              refine Go.iconst (v := nI 2) dX9_lay_22 rfl ?_
              refine Go.icmp_ne_f (tgt := 37) dX9_lay_23 (by decide) (by decide) ?_
              refine Go.iload_n dX9_lay_26 rfl ?_
              refine Go.at 27 rfl ?_
              refine Go.callSi [vI (nI q)] [] dX9_lay_27 lkX9_285 rfl (Nat.le_of_ble_eq_true rfl) rfl (Nat.le_of_ble_eq_true rfl) (m_isSheet (nI q)) ?_
              refine Go.if_eqb_f (tgt := 37) dX9_lay_30 (by decide) h3 ?_
              refine Go.iconst (v := nI 1) dX9_lay_33 rfl ?_
              refine Go.goto (tgt := 38) dX9_lay_34 (by decide) ?_
              refine Go.istore (ls' := [some (vR 76), some (vI (nI k)), some (vI (nI 2)), some (vI (nI q)), some (vI (nI 1)), none, none]) dX9_lay_38 (by decide) rfl ?_
              refine Go.iload_n dX9_lay_40 rfl ?_
              refine Go.at 41 rfl ?_
              refine Go.callSi [vI (nI k)] [] dX9_lay_41 lkX9_299 rfl (Nat.le_of_ble_eq_true rfl) rfl (Nat.le_of_ble_eq_true rfl) (m_isSlot (nI k)) ?_
              refine Go.if_eqb_f (tgt := 52) dX9_lay_44 (by decide) h1 ?_
              refine Go.iload dX9_lay_47 rfl ?_
              refine Go.if_ne_t (tgt := 55) dX9_lay_49 (by decide) (by decide) ?_
              refine Go.iload_n dX9_lay_55 rfl ?_
              refine Go.iconst (v := nI 2) dX9_lay_56 rfl ?_
              refine Go.at 57 rfl ?_
              refine Go.icmp_ne_f (tgt := 73) dX9_lay_57 (by decide) (by decide) ?_
              refine Go.aload_n dX9_lay_60 rfl ?_
              refine Go.getR dX9_lay_61 flX9_19 rfl ?_
              refine Go.iload_n dX9_lay_64 rfl ?_
              refine Go.iaload q dX9_lay_65 rfl (by omega) rfl ?_
              refine Go.topE (y := (-1)) e80 ?_
              refine Go.if_ge_f (tgt := 73) dX9_lay_66 (by decide) (by decide) ?_
              refine Go.at 69 rfl ?_
              refine Go.ldc_w dX9_lay_69 cnX9_291 ?_
              refine Go.ireturn .int dX9_lay_72 rfl rfl ?_
              exact ⟨rfl, Fr.rf _ _⟩
          · skip
            refine OpOK.of (x := μ 83 k) (P := fun μ1 => Fr [61 + k, 66 + k, 71 + k] μ μ1 ∧ μ1 (61 + k) 0 = nI 2 ∧ μ1 (66 + k) 1 = nI n ∧ ∀ j, j < 24 → μ1 (71 + k) j = μ 82 (24 * q + j)) ?_ (fun μ5 k5 => ?_)
            · show Go V (d + 3) mX8_lay 0 [some (vR 0), some (vI (nI k)), some (vI (nI 2)), some (vI (nI q)), none, none] [] μ _
              refine Go.iload_n dX8_lay_0 rfl ?_
              refine Go.callSi [vI (nI k)] [] dX8_lay_1 lkX8_265 rfl (Nat.le_of_ble_eq_true rfl) rfl (Nat.le_of_ble_eq_true rfl) (c_isSlot (nI k)) ?_
              refine Go.if_eqb_f (tgt := 16) dX8_lay_4 (by decide) h1 ?_
              refine Go.iload_n dX8_lay_7 rfl ?_
              refine Go.iconst (v := nI 0) dX8_lay_8 rfl ?_
              refine Go.iconst (v := nI 3) dX8_lay_9 rfl ?_
              refine Go.at 10 rfl ?_
              refine Go.callSi [vI (nI 2), vI (nI 0), vI (nI 3)] [] dX8_lay_10 lkX8_72 rfl (Nat.le_of_ble_eq_true rfl) rfl (Nat.le_of_ble_eq_true rfl) (c_within (nI 2) (nI 0) (nI 3)) ?_
              refine Go.if_neb_t (tgt := 19) dX8_lay_13 (by decide) h2 ?_
              refine Go.iload_n dX8_lay_19 rfl ?_
              refine Go.iconst (v := nI 1) dX8_lay_20 rfl ?_
              refine Go.icmp_ne_t (tgt := 31) dX8_lay_21 (by decide) (by decide) ?_
              refine Go.iload_n dX8_lay_31 rfl ?_
              refine Go.at 32 rfl ?_
              refine Go.iconst (v := nI 2) dX8_lay_32 rfl ?_
              refine Go.icmp_ne_f (tgt := 46) dX8_lay_33 (by decide) (by decide) ?_
              refine Go.iload_n dX8_lay_36 rfl ?_
              refine Go.callSi [vI (nI q)] [] dX8_lay_37 lkX8_227 rfl (Nat.le_of_ble_eq_true rfl) rfl (Nat.le_of_ble_eq_true rfl) (c_isSheet (nI q)) ?_
              refine Go.if_neb_t (tgt := 46) dX8_lay_40 (by decide) h3 ?_
              refine Go.iload_n dX8_lay_46 rfl ?_
              refine Go.at 47 rfl ?_
              refine Go.iconst (v := nI 2) dX8_lay_47 rfl ?_
              refine Go.icmp_ne_f (tgt := 67) dX8_lay_48 (by decide) (by decide) ?_
              refine Go.aload_n dX8_lay_51 rfl ?_
              refine Go.getR dX8_lay_52 flX8_49 rfl ?_
              refine Go.iload_n dX8_lay_55 rfl ?_
              refine Go.aaload (r := 53 + q) q dX8_lay_56 (arSh hq) rfl ?_
              refine Go.at 57 rfl ?_
              refine Go.getI dX8_lay_57 flX8_235 (shA hq).1 ?_
              refine Go.topE (y := nI 0) (d1.trans es) ?_
              refine Go.iconst (v := (-1)) dX8_lay_60 rfl ?_
              refine Go.icmp_ne_t (tgt := 67) dX8_lay_61 (by decide) (by decide) ?_
              refine Go.aload_n dX8_lay_67 rfl ?_
              refine Go.getR dX8_lay_68 flX8_55 rfl ?_
              refine Go.iload_n dX8_lay_71 rfl ?_
              refine Go.at 72 rfl ?_
              refine Go.aaload (r := 61 + k) k dX8_lay_72 (arSl hk) rfl ?_
              refine Go.astore (ls' := [some (vR 0), some (vI (nI k)), some (vI (nI 2)), some (vI (nI q)), some (vR (61 + k)), none]) dX8_lay_73 (by decide) rfl ?_
              refine Go.aload dX8_lay_75 rfl ?_
              refine Go.getI dX8_lay_77 flX8_268 (slA hk).1 ?_
              refine Go.topE (y := μ 83 k) a1 ?_
              refine Go.istore (ls' := [some (vR 0), some (vI (nI k)), some (vI (nI 2)), some (vI (nI q)), some (vR (61 + k)), some (vI (μ 83 k))]) dX8_lay_80 (by decide) rfl ?_
              refine Go.aload dX8_lay_82 rfl ?_
              refine Go.at 84 rfl ?_
              refine Go.iload_n dX8_lay_84 rfl ?_
              refine Go.put dX8_lay_85 flX8_268 (slA hk).1 rfl rfl rfl ?_
              refine Go.iload_n dX8_lay_88 rfl ?_
              refine Go.iconst (v := nI 1) dX8_lay_89 rfl ?_
              refine Go.icmp_ne_t (tgt := 124) dX8_lay_90 (by decide) (by decide) ?_
              refine Go.iload_n dX8_lay_124 rfl ?_
              refine Go.at 125 rfl ?_
              refine Go.iconst (v := nI 2) dX8_lay_125 rfl ?_
              refine Go.icmp_ne_f (tgt := 146) dX8_lay_126 (by decide) (by decide) ?_
              refine Go.aload dX8_lay_129 rfl ?_
              refine Go.getR dX8_lay_131 flX8_277 (slA hk).2.2.2.2.1 ?_
              refine Go.aload_n dX8_lay_134 rfl ?_
              refine Go.getR dX8_lay_135 flX8_49 rfl ?_
              refine Go.at 138 rfl ?_
              refine Go.iload_n dX8_lay_138 rfl ?_
              refine Go.aaload (r := 53 + q) q dX8_lay_139 (arSh hq) rfl ?_
              refine Go.callVu (66 + k) [vR (53 + q)] [] dX8_lay_140 lkX8_281 (shB hk).2.2.2.2.1 rfl (Nat.le_of_ble_eq_true rfl) rfl (Nat.le_of_ble_eq_true rfl) (c_becomeLike (shB hk) (shA hq) (by omega) (by omega) (by omega) (by omega)) (fun μ1 k1 => ?_)
              refine Go.goto (tgt := 157) dX8_lay_143 (by decide) ?_
              refine Go.iload dX8_lay_157 rfl ?_
              refine Go.ireturn .int dX8_lay_159 rfl rfl ?_
              exact ⟨rfl, ((Fr.rf _ _).ms _ _ (by simp)).trans (k1.2.2.2.wide (by simp only [List.mem_cons, List.not_mem_nil, or_false]; omega)), by rw [k1.2.2.2 (61 + k) (by simp only [List.mem_cons, List.not_mem_nil, or_false]; omega), ms_self, upd_self], by rw [k1.2.1, ms_ne _ _ _ (by omega)]; exact d3.trans en, fun j hj => by rw [k1.2.2.1 j hj, ms_ne _ _ _ (by omega)]; exact d4 j hj⟩
            · skip
              have kf : ∀ o, o ≠ 61 + k → o ≠ 66 + k → o ≠ 71 + k → μ5 o = μ o := fun o g1 g2 g3 => k5.1 o (by simp only [List.mem_cons, List.not_mem_nil, or_false]; omega)
              have f83 : μ5 83 = μ 83 := kf 83 (by omega) (by omega) (by omega)
              have f84 : μ5 84 = μ 84 := kf 84 (by omega) (by omega) (by omega)
              have f85 : μ5 85 = μ 85 := kf 85 (by omega) (by omega) (by omega)
              have f86 : μ5 86 = μ 86 := kf 86 (by omega) (by omega) (by omega)
              have f87 : μ5 87 = μ 87 := kf 87 (by omega) (by omega) (by omega)
              show Go V (d + 3) mX9_lay 0 [some (vR 76), some (vI (nI k)), some (vI (nI 2)), some (vI (nI q)), none, none, none] [] μ5 _
              refine Go.iload_n dX9_lay_0 rfl ?_
              refine Go.if_eq_f (tgt := 33) dX9_lay_1 (by decide) (by decide) ?_
              refine Go.iload_n dX9_lay_4 rfl ?_
              refine Go.iconst (v := nI 3) dX9_lay_5 rfl ?_
              refine Go.icmp_eq_f (tgt := 33) dX9_lay_6 (by decide) (by decide) ?_
              refine Go.iload_n dX9_lay_9 rfl ?_
              refine Go.at 10 rfl ?_
              refine Go.iconst (v := nI 1) dX9_lay_10 rfl ?_
              refine Go.icmp_ne_t (tgt := 21) dX9_lay_11 (by decide) (by decide) ?_
              refine Go.iload_n dX9_lay_21 rfl ?_
              refine Go.iconst (v := nI 2) dX9_lay_22 rfl ?_
              refine Go.icmp_ne_f (tgt := 37) dX9_lay_23 (by decide) (by decide) ?_
              refine Go.iload_n dX9_lay_26 rfl ?_
              refine Go.at 27 rfl ?_
              refine Go.callSi [vI (nI q)] [] dX9_lay_27 lkX9_285 rfl (Nat.le_of_ble_eq_true rfl) rfl (Nat.le_of_ble_eq_true rfl) (m_isSheet (nI q)) ?_
              refine Go.if_eqb_f (tgt := 37) dX9_lay_30 (by decide) h3 ?_
              refine Go.iconst (v := nI 1) dX9_lay_33 rfl ?_
              refine Go.goto (tgt := 38) dX9_lay_34 (by decide) ?_
              refine Go.istore (ls' := [some (vR 76), some (vI (nI k)), some (vI (nI 2)), some (vI (nI q)), some (vI (nI 1)), none, none]) dX9_lay_38 (by decide) rfl ?_
              refine Go.iload_n dX9_lay_40 rfl ?_
              refine Go.at 41 rfl ?_
              refine Go.callSi [vI (nI k)] [] dX9_lay_41 lkX9_299 rfl (Nat.le_of_ble_eq_true rfl) rfl (Nat.le_of_ble_eq_true rfl) (m_isSlot (nI k)) ?_
              refine Go.if_eqb_f (tgt := 52) dX9_lay_44 (by decide) h1 ?_
              refine Go.iload dX9_lay_47 rfl ?_
              refine Go.if_ne_t (tgt := 55) dX9_lay_49 (by decide) (by decide) ?_
              refine Go.iload_n dX9_lay_55 rfl ?_
              refine Go.iconst (v := nI 2) dX9_lay_56 rfl ?_
              refine Go.at 57 rfl ?_
              refine Go.icmp_ne_f (tgt := 73) dX9_lay_57 (by decide) (by decide) ?_
              refine Go.aload_n dX9_lay_60 rfl ?_
              refine Go.getR dX9_lay_61 flX9_19 rfl ?_
              refine Go.iload_n dX9_lay_64 rfl ?_
              refine Go.iaload q dX9_lay_65 rfl (by omega) rfl ?_
              refine Go.topE (y := nI 0) (by (try simp (disch := omega) only [ms_ne]); rw [kf 80 (by omega) (by omega) (by omega)]; exact es) ?_
              refine Go.if_ge_t (tgt := 73) dX9_lay_66 (by decide) (by decide) ?_
              refine Go.at 73 rfl ?_
              refine Go.aload_n dX9_lay_73 rfl ?_
              refine Go.getR dX9_lay_74 flX9_28 rfl ?_
              refine Go.iload_n dX9_lay_77 rfl ?_
              refine Go.iaload k dX9_lay_78 rfl (by omega) rfl ?_
              refine Go.topE (y := μ 83 k) (congrFun f83 k) ?_
              refine Go.istore (ls' := [some (vR 76), some (vI (nI k)), some (vI (nI 2)), some (vI (nI q)), some (vI (nI 1)), some (vI (μ 83 k)), none]) dX9_lay_79 (by decide) rfl ?_
              refine Go.aload_n dX9_lay_81 rfl ?_
              refine Go.at 82 rfl ?_
              refine Go.getR dX9_lay_82 flX9_28 rfl ?_
              refine Go.iload_n dX9_lay_85 rfl ?_
              refine Go.iload_n dX9_lay_86 rfl ?_
              refine Go.iastore k dX9_lay_87 rfl (by omega) rfl ?_
              refine Go.aload_n dX9_lay_88 rfl ?_
              refine Go.getR dX9_lay_89 flX9_31 rfl ?_
              refine Go.at 92 rfl ?_
              refine Go.iload_n dX9_lay_92 rfl ?_
              refine Go.iload_n dX9_lay_93 rfl ?_
              refine Go.iconst (v := nI 1) dX9_lay_94 rfl ?_
              refine Go.icmp_ne_t (tgt := 107) dX9_lay_95 (by decide) (by decide) ?_
              refine Go.iload_n dX9_lay_107 rfl ?_
              refine Go.iastore k dX9_lay_108 rfl (by omega) rfl ?_
              refine Go.at 109 rfl ?_
              refine Go.aload_n dX9_lay_109 rfl ?_
              refine Go.getR dX9_lay_110 flX9_34 rfl ?_
              refine Go.iload_n dX9_lay_113 rfl ?_
              refine Go.iload_n dX9_lay_114 rfl ?_
              refine Go.iconst (v := nI 1) dX9_lay_115 rfl ?_
              refine Go.icmp_ne_t (tgt := 127) dX9_lay_116 (by decide) (by decide) ?_
              refine Go.at 127 rfl ?_
              refine Go.iconst (v := nI 0) dX9_lay_127 rfl ?_
              refine Go.iastore k dX9_lay_128 rfl (by omega) rfl ?_
              refine Go.iload_n dX9_lay_129 rfl ?_
              refine Go.iconst (v := nI 2) dX9_lay_130 rfl ?_
              refine Go.icmp_ne_f (tgt := 186) dX9_lay_131 (by decide) (by decide) ?_
              refine Go.aload_n dX9_lay_134 rfl ?_
              refine Go.at 135 rfl ?_
              refine Go.getR dX9_lay_135 flX9_37 rfl ?_
              refine Go.iload_n dX9_lay_138 rfl ?_
              refine Go.aload_n dX9_lay_139 rfl ?_
              refine Go.getR dX9_lay_140 flX9_22 rfl ?_
              refine Go.iload_n dX9_lay_143 rfl ?_
              refine Go.iaload q dX9_lay_144 rfl (by omega) rfl ?_
              refine Go.topE (y := nI n) (by (try simp (disch := omega) only [ms_ne]); rw [kf 81 (by omega) (by omega) (by omega)]; exact en) ?_
              refine Go.at 145 rfl ?_
              refine Go.iastore k dX9_lay_145 rfl (by omega) rfl ?_
              refine Go.iconst (v := nI 0) dX9_lay_146 rfl ?_
              refine Go.istore (ls' := [some (vR 76), some (vI (nI k)), some (vI (nI 2)), some (vI (nI q)), some (vI (nI 1)), some (vI (μ 83 k)), some (vI (nI 0))]) dX9_lay_147 (by decide) rfl ?_
              refine m_lay_lp hk hq _ (fun μ7 f1 f2 f3 => ?_) 24 0 _ (by omega) (Fr.rf _ _) (fun t ht => absurd ht (by omega)) (fun z j _ _ _ => rfl)
              refine Go.iload dX9_lay_186 rfl ?_
              refine Go.ireturn .int dX9_lay_188 rfl rfl ?_
              exact ⟨rfl, hS.slot hk (fun o g1 g2 g3 g4 g5 g6 g7 g8 => by rw [f1 o (by simp only [List.mem_cons, List.not_mem_nil, or_false]; omega)]; simp (disch := omega) only [ms_self, ms_ne, upd_self, upd_ne]; exact kf o g1 g2 g3) (fun z hz hne => by rw [f1 83 (by simp only [List.mem_cons, List.not_mem_nil, or_false]; omega)]; simp (disch := omega) only [ms_self, ms_ne, upd_self, upd_ne]; rw [f83]) (fun z hz hne => by rw [f1 84 (by simp only [List.mem_cons, List.not_mem_nil, or_false]; omega)]; simp (disch := omega) only [ms_self, ms_ne, upd_self, upd_ne]; rw [f84]) (fun z hz hne => by rw [f1 85 (by simp only [List.mem_cons, List.not_mem_nil, or_false]; omega)]; simp (disch := omega) only [ms_self, ms_ne, upd_self, upd_ne]; rw [f85]) (fun z hz hne => by rw [f1 86 (by simp only [List.mem_cons, List.not_mem_nil, or_false]; omega)]; simp (disch := omega) only [ms_self, ms_ne, upd_self, upd_ne]; rw [f86]) (fun z j hz hne hj => by rw [f3 z j hz hne hj]; simp (disch := omega) only [ms_self, ms_ne, upd_self, upd_ne]; rw [f87])
                (by
                  have e82 : ∀ j, j < 24 → μ7 87 (24 * k + j) = μ 82 (24 * q + j) := fun j hj => by rw [f2 j hj]; simp (disch := omega) only [ms_self, ms_ne, upd_self, upd_ne]; rw [kf 82 (by omega) (by omega) (by omega)]
                  have e83 : μ7 83 k = nI 2 := by rw [f1 83 (by simp only [List.mem_cons, List.not_mem_nil, or_false]; omega)]; simp (disch := omega) only [ms_self, ms_ne, upd_self, upd_ne]
                  have e86 : μ7 86 k = nI n := by rw [f1 86 (by simp only [List.mem_cons, List.not_mem_nil, or_false]; omega)]; simp (disch := omega) only [ms_self, ms_ne, upd_self, upd_ne]
                  have eo : ∀ o, 61 ≤ o → o ≤ 75 → μ7 o = μ5 o := fun o _ _ => by rw [f1 o (by simp only [List.mem_cons, List.not_mem_nil, or_false]; omega)]; simp (disch := omega) only [ms_self, ms_ne, upd_self, upd_ne]
                  rw [e83, e86, eo (61 + k) (by omega) (by omega), eo (66 + k) (by omega) (by omega), eo (71 + k) (by omega) (by omega)]
                  exact ⟨k5.2.1, Or.inr (Or.inr (Or.inl ⟨rfl, k5.2.2.1, ⟨n, hn, rfl⟩, fun j hj => by rw [k5.2.2.2 j hj, e82 j hj]⟩))⟩)⟩
          · skip
            refine OpOK.of (x := μ 83 k) (P := fun μ1 => Fr [61 + k, 66 + k, 71 + k] μ μ1 ∧ μ1 (61 + k) 0 = nI 2 ∧ μ1 (66 + k) 1 = nI n ∧ ∀ j, j < 24 → μ1 (71 + k) j = μ 82 (24 * q + j)) ?_ (fun μ5 k5 => ?_)
            · show Go V (d + 3) mX8_lay 0 [some (vR 0), some (vI (nI k)), some (vI (nI 2)), some (vI (nI q)), none, none] [] μ _
              refine Go.iload_n dX8_lay_0 rfl ?_
              refine Go.callSi [vI (nI k)] [] dX8_lay_1 lkX8_265 rfl (Nat.le_of_ble_eq_true rfl) rfl (Nat.le_of_ble_eq_true rfl) (c_isSlot (nI k)) ?_
              refine Go.if_eqb_f (tgt := 16) dX8_lay_4 (by decide) h1 ?_
              refine Go.iload_n dX8_lay_7 rfl ?_
              refine Go.iconst (v := nI 0) dX8_lay_8 rfl ?_
              refine Go.iconst (v := nI 3) dX8_lay_9 rfl ?_
              refine Go.at 10 rfl ?_
              refine Go.callSi [vI (nI 2), vI (nI 0), vI (nI 3)] [] dX8_lay_10 lkX8_72 rfl (Nat.le_of_ble_eq_true rfl) rfl (Nat.le_of_ble_eq_true rfl) (c_within (nI 2) (nI 0) (nI 3)) ?_
              refine Go.if_neb_t (tgt := 19) dX8_lay_13 (by decide) h2 ?_
              refine Go.iload_n dX8_lay_19 rfl ?_
              refine Go.iconst (v := nI 1) dX8_lay_20 rfl ?_
              refine Go.icmp_ne_t (tgt := 31) dX8_lay_21 (by decide) (by decide) ?_
              refine Go.iload_n dX8_lay_31 rfl ?_
              refine Go.at 32 rfl ?_
              refine Go.iconst (v := nI 2) dX8_lay_32 rfl ?_
              refine Go.icmp_ne_f (tgt := 46) dX8_lay_33 (by decide) (by decide) ?_
              refine Go.iload_n dX8_lay_36 rfl ?_
              refine Go.callSi [vI (nI q)] [] dX8_lay_37 lkX8_227 rfl (Nat.le_of_ble_eq_true rfl) rfl (Nat.le_of_ble_eq_true rfl) (c_isSheet (nI q)) ?_
              refine Go.if_neb_t (tgt := 46) dX8_lay_40 (by decide) h3 ?_
              refine Go.iload_n dX8_lay_46 rfl ?_
              refine Go.at 47 rfl ?_
              refine Go.iconst (v := nI 2) dX8_lay_47 rfl ?_
              refine Go.icmp_ne_f (tgt := 67) dX8_lay_48 (by decide) (by decide) ?_
              refine Go.aload_n dX8_lay_51 rfl ?_
              refine Go.getR dX8_lay_52 flX8_49 rfl ?_
              refine Go.iload_n dX8_lay_55 rfl ?_
              refine Go.aaload (r := 53 + q) q dX8_lay_56 (arSh hq) rfl ?_
              refine Go.at 57 rfl ?_
              refine Go.getI dX8_lay_57 flX8_235 (shA hq).1 ?_
              refine Go.topE (y := nI 1) (d1.trans es) ?_
              refine Go.iconst (v := (-1)) dX8_lay_60 rfl ?_
              refine Go.icmp_ne_t (tgt := 67) dX8_lay_61 (by decide) (by decide) ?_
              refine Go.aload_n dX8_lay_67 rfl ?_
              refine Go.getR dX8_lay_68 flX8_55 rfl ?_
              refine Go.iload_n dX8_lay_71 rfl ?_
              refine Go.at 72 rfl ?_
              refine Go.aaload (r := 61 + k) k dX8_lay_72 (arSl hk) rfl ?_
              refine Go.astore (ls' := [some (vR 0), some (vI (nI k)), some (vI (nI 2)), some (vI (nI q)), some (vR (61 + k)), none]) dX8_lay_73 (by decide) rfl ?_
              refine Go.aload dX8_lay_75 rfl ?_
              refine Go.getI dX8_lay_77 flX8_268 (slA hk).1 ?_
              refine Go.topE (y := μ 83 k) a1 ?_
              refine Go.istore (ls' := [some (vR 0), some (vI (nI k)), some (vI (nI 2)), some (vI (nI q)), some (vR (61 + k)), some (vI (μ 83 k))]) dX8_lay_80 (by decide) rfl ?_
              refine Go.aload dX8_lay_82 rfl ?_
              refine Go.at 84 rfl ?_
              refine Go.iload_n dX8_lay_84 rfl ?_
              refine Go.put dX8_lay_85 flX8_268 (slA hk).1 rfl rfl rfl ?_
              refine Go.iload_n dX8_lay_88 rfl ?_
              refine Go.iconst (v := nI 1) dX8_lay_89 rfl ?_
              refine Go.icmp_ne_t (tgt := 124) dX8_lay_90 (by decide) (by decide) ?_
              refine Go.iload_n dX8_lay_124 rfl ?_
              refine Go.at 125 rfl ?_
              refine Go.iconst (v := nI 2) dX8_lay_125 rfl ?_
              refine Go.icmp_ne_f (tgt := 146) dX8_lay_126 (by decide) (by decide) ?_
              refine Go.aload dX8_lay_129 rfl ?_
              refine Go.getR dX8_lay_131 flX8_277 (slA hk).2.2.2.2.1 ?_
              refine Go.aload_n dX8_lay_134 rfl ?_
              refine Go.getR dX8_lay_135 flX8_49 rfl ?_
              refine Go.at 138 rfl ?_
              refine Go.iload_n dX8_lay_138 rfl ?_
              refine Go.aaload (r := 53 + q) q dX8_lay_139 (arSh hq) rfl ?_
              refine Go.callVu (66 + k) [vR (53 + q)] [] dX8_lay_140 lkX8_281 (shB hk).2.2.2.2.1 rfl (Nat.le_of_ble_eq_true rfl) rfl (Nat.le_of_ble_eq_true rfl) (c_becomeLike (shB hk) (shA hq) (by omega) (by omega) (by omega) (by omega)) (fun μ1 k1 => ?_)
              refine Go.goto (tgt := 157) dX8_lay_143 (by decide) ?_
              refine Go.iload dX8_lay_157 rfl ?_
              refine Go.ireturn .int dX8_lay_159 rfl rfl ?_
              exact ⟨rfl, ((Fr.rf _ _).ms _ _ (by simp)).trans (k1.2.2.2.wide (by simp only [List.mem_cons, List.not_mem_nil, or_false]; omega)), by rw [k1.2.2.2 (61 + k) (by simp only [List.mem_cons, List.not_mem_nil, or_false]; omega), ms_self, upd_self], by rw [k1.2.1, ms_ne _ _ _ (by omega)]; exact d3.trans en, fun j hj => by rw [k1.2.2.1 j hj, ms_ne _ _ _ (by omega)]; exact d4 j hj⟩
            · skip
              have kf : ∀ o, o ≠ 61 + k → o ≠ 66 + k → o ≠ 71 + k → μ5 o = μ o := fun o g1 g2 g3 => k5.1 o (by simp only [List.mem_cons, List.not_mem_nil, or_false]; omega)
              have f83 : μ5 83 = μ 83 := kf 83 (by omega) (by omega) (by omega)
              have f84 : μ5 84 = μ 84 := kf 84 (by omega) (by omega) (by omega)
              have f85 : μ5 85 = μ 85 := kf 85 (by omega) (by omega) (by omega)
              have f86 : μ5 86 = μ 86 := kf 86 (by omega) (by omega) (by omega)
              have f87 : μ5 87 = μ 87 := kf 87 (by omega) (by omega) (by omega)
              show Go V (d + 3) mX9_lay 0 [some (vR 76), some (vI (nI k)), some (vI (nI 2)), some (vI (nI q)), none, none, none] [] μ5 _
              refine Go.iload_n dX9_lay_0 rfl ?_
              refine Go.if_eq_f (tgt := 33) dX9_lay_1 (by decide) (by decide) ?_
              refine Go.iload_n dX9_lay_4 rfl ?_
              refine Go.iconst (v := nI 3) dX9_lay_5 rfl ?_
              refine Go.icmp_eq_f (tgt := 33) dX9_lay_6 (by decide) (by decide) ?_
              refine Go.iload_n dX9_lay_9 rfl ?_
              refine Go.at 10 rfl ?_
              refine Go.iconst (v := nI 1) dX9_lay_10 rfl ?_
              refine Go.icmp_ne_t (tgt := 21) dX9_lay_11 (by decide) (by decide) ?_
              refine Go.iload_n dX9_lay_21 rfl ?_
              refine Go.iconst (v := nI 2) dX9_lay_22 rfl ?_
              refine Go.icmp_ne_f (tgt := 37) dX9_lay_23 (by decide) (by decide) ?_
              refine Go.iload_n dX9_lay_26 rfl ?_
              refine Go.at 27 rfl ?_
              refine Go.callSi [vI (nI q)] [] dX9_lay_27 lkX9_285 rfl (Nat.le_of_ble_eq_true rfl) rfl (Nat.le_of_ble_eq_true rfl) (m_isSheet (nI q)) ?_
              refine Go.if_eqb_f (tgt := 37) dX9_lay_30 (by decide) h3 ?_
              refine Go.iconst (v := nI 1) dX9_lay_33 rfl ?_
              refine Go.goto (tgt := 38) dX9_lay_34 (by decide) ?_
              refine Go.istore (ls' := [some (vR 76), some (vI (nI k)), some (vI (nI 2)), some (vI (nI q)), some (vI (nI 1)), none, none]) dX9_lay_38 (by decide) rfl ?_
              refine Go.iload_n dX9_lay_40 rfl ?_
              refine Go.at 41 rfl ?_
              refine Go.callSi [vI (nI k)] [] dX9_lay_41 lkX9_299 rfl (Nat.le_of_ble_eq_true rfl) rfl (Nat.le_of_ble_eq_true rfl) (m_isSlot (nI k)) ?_
              refine Go.if_eqb_f (tgt := 52) dX9_lay_44 (by decide) h1 ?_
              refine Go.iload dX9_lay_47 rfl ?_
              refine Go.if_ne_t (tgt := 55) dX9_lay_49 (by decide) (by decide) ?_
              refine Go.iload_n dX9_lay_55 rfl ?_
              refine Go.iconst (v := nI 2) dX9_lay_56 rfl ?_
              refine Go.at 57 rfl ?_
              refine Go.icmp_ne_f (tgt := 73) dX9_lay_57 (by decide) (by decide) ?_
              refine Go.aload_n dX9_lay_60 rfl ?_
              refine Go.getR dX9_lay_61 flX9_19 rfl ?_
              refine Go.iload_n dX9_lay_64 rfl ?_
              refine Go.iaload q dX9_lay_65 rfl (by omega) rfl ?_
              refine Go.topE (y := nI 1) (by (try simp (disch := omega) only [ms_ne]); rw [kf 80 (by omega) (by omega) (by omega)]; exact es) ?_
              refine Go.if_ge_t (tgt := 73) dX9_lay_66 (by decide) (by decide) ?_
              refine Go.at 73 rfl ?_
              refine Go.aload_n dX9_lay_73 rfl ?_
              refine Go.getR dX9_lay_74 flX9_28 rfl ?_
              refine Go.iload_n dX9_lay_77 rfl ?_
              refine Go.iaload k dX9_lay_78 rfl (by omega) rfl ?_
              refine Go.topE (y := μ 83 k) (congrFun f83 k) ?_
              refine Go.istore (ls' := [some (vR 76), some (vI (nI k)), some (vI (nI 2)), some (vI (nI q)), some (vI (nI 1)), some (vI (μ 83 k)), none]) dX9_lay_79 (by decide) rfl ?_
              refine Go.aload_n dX9_lay_81 rfl ?_
              refine Go.at 82 rfl ?_
              refine Go.getR dX9_lay_82 flX9_28 rfl ?_
              refine Go.iload_n dX9_lay_85 rfl ?_
              refine Go.iload_n dX9_lay_86 rfl ?_
              refine Go.iastore k dX9_lay_87 rfl (by omega) rfl ?_
              refine Go.aload_n dX9_lay_88 rfl ?_
              refine Go.getR dX9_lay_89 flX9_31 rfl ?_
              refine Go.at 92 rfl ?_
              refine Go.iload_n dX9_lay_92 rfl ?_
              refine Go.iload_n dX9_lay_93 rfl ?_
              refine Go.iconst (v := nI 1) dX9_lay_94 rfl ?_
              refine Go.icmp_ne_t (tgt := 107) dX9_lay_95 (by decide) (by decide) ?_
              refine Go.iload_n dX9_lay_107 rfl ?_
              refine Go.iastore k dX9_lay_108 rfl (by omega) rfl ?_
              refine Go.at 109 rfl ?_
              refine Go.aload_n dX9_lay_109 rfl ?_
              refine Go.getR dX9_lay_110 flX9_34 rfl ?_
              refine Go.iload_n dX9_lay_113 rfl ?_
              refine Go.iload_n dX9_lay_114 rfl ?_
              refine Go.iconst (v := nI 1) dX9_lay_115 rfl ?_
              refine Go.icmp_ne_t (tgt := 127) dX9_lay_116 (by decide) (by decide) ?_
              refine Go.at 127 rfl ?_
              refine Go.iconst (v := nI 0) dX9_lay_127 rfl ?_
              refine Go.iastore k dX9_lay_128 rfl (by omega) rfl ?_
              refine Go.iload_n dX9_lay_129 rfl ?_
              refine Go.iconst (v := nI 2) dX9_lay_130 rfl ?_
              refine Go.icmp_ne_f (tgt := 186) dX9_lay_131 (by decide) (by decide) ?_
              refine Go.aload_n dX9_lay_134 rfl ?_
              refine Go.at 135 rfl ?_
              refine Go.getR dX9_lay_135 flX9_37 rfl ?_
              refine Go.iload_n dX9_lay_138 rfl ?_
              refine Go.aload_n dX9_lay_139 rfl ?_
              refine Go.getR dX9_lay_140 flX9_22 rfl ?_
              refine Go.iload_n dX9_lay_143 rfl ?_
              refine Go.iaload q dX9_lay_144 rfl (by omega) rfl ?_
              refine Go.topE (y := nI n) (by (try simp (disch := omega) only [ms_ne]); rw [kf 81 (by omega) (by omega) (by omega)]; exact en) ?_
              refine Go.at 145 rfl ?_
              refine Go.iastore k dX9_lay_145 rfl (by omega) rfl ?_
              refine Go.iconst (v := nI 0) dX9_lay_146 rfl ?_
              refine Go.istore (ls' := [some (vR 76), some (vI (nI k)), some (vI (nI 2)), some (vI (nI q)), some (vI (nI 1)), some (vI (μ 83 k)), some (vI (nI 0))]) dX9_lay_147 (by decide) rfl ?_
              refine m_lay_lp hk hq _ (fun μ7 f1 f2 f3 => ?_) 24 0 _ (by omega) (Fr.rf _ _) (fun t ht => absurd ht (by omega)) (fun z j _ _ _ => rfl)
              refine Go.iload dX9_lay_186 rfl ?_
              refine Go.ireturn .int dX9_lay_188 rfl rfl ?_
              exact ⟨rfl, hS.slot hk (fun o g1 g2 g3 g4 g5 g6 g7 g8 => by rw [f1 o (by simp only [List.mem_cons, List.not_mem_nil, or_false]; omega)]; simp (disch := omega) only [ms_self, ms_ne, upd_self, upd_ne]; exact kf o g1 g2 g3) (fun z hz hne => by rw [f1 83 (by simp only [List.mem_cons, List.not_mem_nil, or_false]; omega)]; simp (disch := omega) only [ms_self, ms_ne, upd_self, upd_ne]; rw [f83]) (fun z hz hne => by rw [f1 84 (by simp only [List.mem_cons, List.not_mem_nil, or_false]; omega)]; simp (disch := omega) only [ms_self, ms_ne, upd_self, upd_ne]; rw [f84]) (fun z hz hne => by rw [f1 85 (by simp only [List.mem_cons, List.not_mem_nil, or_false]; omega)]; simp (disch := omega) only [ms_self, ms_ne, upd_self, upd_ne]; rw [f85]) (fun z hz hne => by rw [f1 86 (by simp only [List.mem_cons, List.not_mem_nil, or_false]; omega)]; simp (disch := omega) only [ms_self, ms_ne, upd_self, upd_ne]; rw [f86]) (fun z j hz hne hj => by rw [f3 z j hz hne hj]; simp (disch := omega) only [ms_self, ms_ne, upd_self, upd_ne]; rw [f87])
                (by
                  have e82 : ∀ j, j < 24 → μ7 87 (24 * k + j) = μ 82 (24 * q + j) := fun j hj => by rw [f2 j hj]; simp (disch := omega) only [ms_self, ms_ne, upd_self, upd_ne]; rw [kf 82 (by omega) (by omega) (by omega)]
                  have e83 : μ7 83 k = nI 2 := by rw [f1 83 (by simp only [List.mem_cons, List.not_mem_nil, or_false]; omega)]; simp (disch := omega) only [ms_self, ms_ne, upd_self, upd_ne]
                  have e86 : μ7 86 k = nI n := by rw [f1 86 (by simp only [List.mem_cons, List.not_mem_nil, or_false]; omega)]; simp (disch := omega) only [ms_self, ms_ne, upd_self, upd_ne]
                  have eo : ∀ o, 61 ≤ o → o ≤ 75 → μ7 o = μ5 o := fun o _ _ => by rw [f1 o (by simp only [List.mem_cons, List.not_mem_nil, or_false]; omega)]; simp (disch := omega) only [ms_self, ms_ne, upd_self, upd_ne]
                  rw [e83, e86, eo (61 + k) (by omega) (by omega), eo (66 + k) (by omega) (by omega), eo (71 + k) (by omega) (by omega)]
                  exact ⟨k5.2.1, Or.inr (Or.inr (Or.inl ⟨rfl, k5.2.2.1, ⟨n, hn, rfl⟩, fun j hj => by rw [k5.2.2.2 j hj, e82 j hj]⟩))⟩)⟩
        · skip
          refine OpOK.q (x := (-1000000001)) hS ?_ (fun μ5 k5 => ?_)
          · show Go V (d + 3) mX8_lay 0 [some (vR 0), some (vI (nI k)), some (vI (nI 2)), some (vI x), none, none] [] μ _
            refine Go.iload_n dX8_lay_0 rfl ?_
            refine Go.callSi [vI (nI k)] [] dX8_lay_1 lkX8_265 rfl (Nat.le_of_ble_eq_true rfl) rfl (Nat.le_of_ble_eq_true rfl) (c_isSlot (nI k)) ?_
            refine Go.if_eqb_f (tgt := 16) dX8_lay_4 (by decide) h1 ?_
            refine Go.iload_n dX8_lay_7 rfl ?_
            refine Go.iconst (v := nI 0) dX8_lay_8 rfl ?_
            refine Go.iconst (v := nI 3) dX8_lay_9 rfl ?_
            refine Go.at 10 rfl ?_
            refine Go.callSi [vI (nI 2), vI (nI 0), vI (nI 3)] [] dX8_lay_10 lkX8_72 rfl (Nat.le_of_ble_eq_true rfl) rfl (Nat.le_of_ble_eq_true rfl) (c_within (nI 2) (nI 0) (nI 3)) ?_
            refine Go.if_neb_t (tgt := 19) dX8_lay_13 (by decide) h2 ?_
            refine Go.iload_n dX8_lay_19 rfl ?_
            refine Go.iconst (v := nI 1) dX8_lay_20 rfl ?_
            refine Go.icmp_ne_t (tgt := 31) dX8_lay_21 (by decide) (by decide) ?_
            refine Go.iload_n dX8_lay_31 rfl ?_
            refine Go.at 32 rfl ?_
            refine Go.iconst (v := nI 2) dX8_lay_32 rfl ?_
            refine Go.icmp_ne_f (tgt := 46) dX8_lay_33 (by decide) (by decide) ?_
            refine Go.iload_n dX8_lay_36 rfl ?_
            refine Go.callSi [vI x] [] dX8_lay_37 lkX8_227 rfl (Nat.le_of_ble_eq_true rfl) rfl (Nat.le_of_ble_eq_true rfl) (c_isSheet x) ?_
            refine Go.if_neb_f (tgt := 46) dX8_lay_40 (by decide) h3 ?_
            refine Go.ldc dX8_lay_43 cnX8_76 ?_
            refine Go.at 45 rfl ?_
            refine Go.ireturn .int dX8_lay_45 rfl rfl ?_
            exact ⟨rfl, Fr.rf _ _⟩
          · skip
            show Go V (d + 3) mX9_lay 0 [some (vR 76), some (vI (nI k)), some (vI (nI 2)), some (vI x), none, none, none] [] μ5 _
            refine Go.iload_n dX9_lay_0 rfl ?_
            refine Go.if_eq_f (tgt := 33) dX9_lay_1 (by decide) (by decide) ?_
            refine Go.iload_n dX9_lay_4 rfl ?_
            refine Go.iconst (v := nI 3) dX9_lay_5 rfl ?_
            refine Go.icmp_eq_f (tgt := 33) dX9_lay_6 (by decide) (by decide) ?_
            refine Go.iload_n dX9_lay_9 rfl ?_
            refine Go.at 10 rfl ?_
            refine Go.iconst (v := nI 1) dX9_lay_10 rfl ?_
            refine Go.icmp_ne_t (tgt := 21) dX9_lay_11 (by decide) (by decide) ?_
            refine Go.iload_n dX9_lay_21 rfl ?_
            refine Go.iconst (v := nI 2) dX9_lay_22 rfl ?_
            refine Go.icmp_ne_f (tgt := 37) dX9_lay_23 (by decide) (by decide) ?_
            refine Go.iload_n dX9_lay_26 rfl ?_
            refine Go.at 27 rfl ?_
            refine Go.callSi [vI x] [] dX9_lay_27 lkX9_285 rfl (Nat.le_of_ble_eq_true rfl) rfl (Nat.le_of_ble_eq_true rfl) (m_isSheet x) ?_
            refine Go.if_eqb_t (tgt := 37) dX9_lay_30 (by decide) h3 ?_
            refine Go.iconst (v := nI 0) dX9_lay_37 rfl ?_
            refine Go.istore (ls' := [some (vR 76), some (vI (nI k)), some (vI (nI 2)), some (vI x), some (vI (nI 0)), none, none]) dX9_lay_38 (by decide) rfl ?_
            refine Go.iload_n dX9_lay_40 rfl ?_
            refine Go.callSi [vI (nI k)] [] dX9_lay_41 lkX9_299 rfl (Nat.le_of_ble_eq_true rfl) rfl (Nat.le_of_ble_eq_true rfl) (m_isSlot (nI k)) ?_
            refine Go.at 44 rfl ?_
            refine Go.if_eqb_f (tgt := 52) dX9_lay_44 (by decide) h1 ?_
            refine Go.iload dX9_lay_47 rfl ?_
            refine Go.if_ne_f (tgt := 55) dX9_lay_49 (by decide) (by decide) ?_
            refine Go.ldc dX9_lay_52 cnX9_98 ?_
            refine Go.ireturn .int dX9_lay_54 rfl rfl ?_
            exact ⟨rfl, Fr.rf _ _⟩
      · skip
        refine OpOK.of (x := μ 83 k) (P := fun μ1 => Fr [61 + k, 66 + k, 71 + k] μ μ1 ∧ μ1 (61 + k) = upd (upd (μ (61 + k)) 0 (nI 3)) 3 x) ?_ (fun μ5 k5 => ?_)
        · show Go V (d + 3) mX8_lay 0 [some (vR 0), some (vI (nI k)), some (vI (nI 3)), some (vI x), none, none] [] μ _
          refine Go.iload_n dX8_lay_0 rfl ?_
          refine Go.callSi [vI (nI k)] [] dX8_lay_1 lkX8_265 rfl (Nat.le_of_ble_eq_true rfl) rfl (Nat.le_of_ble_eq_true rfl) (c_isSlot (nI k)) ?_
          refine Go.if_eqb_f (tgt := 16) dX8_lay_4 (by decide) h1 ?_
          refine Go.iload_n dX8_lay_7 rfl ?_
          refine Go.iconst (v := nI 0) dX8_lay_8 rfl ?_
          refine Go.iconst (v := nI 3) dX8_lay_9 rfl ?_
          refine Go.at 10 rfl ?_
          refine Go.callSi [vI (nI 3), vI (nI 0), vI (nI 3)] [] dX8_lay_10 lkX8_72 rfl (Nat.le_of_ble_eq_true rfl) rfl (Nat.le_of_ble_eq_true rfl) (c_within (nI 3) (nI 0) (nI 3)) ?_
          refine Go.if_neb_t (tgt := 19) dX8_lay_13 (by decide) h2 ?_
          refine Go.iload_n dX8_lay_19 rfl ?_
          refine Go.iconst (v := nI 1) dX8_lay_20 rfl ?_
          refine Go.icmp_ne_t (tgt := 31) dX8_lay_21 (by decide) (by decide) ?_
          refine Go.iload_n dX8_lay_31 rfl ?_
          refine Go.at 32 rfl ?_
          refine Go.iconst (v := nI 2) dX8_lay_32 rfl ?_
          refine Go.icmp_ne_t (tgt := 46) dX8_lay_33 (by decide) (by decide) ?_
          refine Go.iload_n dX8_lay_46 rfl ?_
          refine Go.iconst (v := nI 2) dX8_lay_47 rfl ?_
          refine Go.icmp_ne_t (tgt := 67) dX8_lay_48 (by decide) (by decide) ?_
          refine Go.aload_n dX8_lay_67 rfl ?_
          refine Go.at 68 rfl ?_
          refine Go.getR dX8_lay_68 flX8_55 rfl ?_
          refine Go.iload_n dX8_lay_71 rfl ?_
          refine Go.aaload (r := 61 + k) k dX8_lay_72 (arSl hk) rfl ?_
          refine Go.astore (ls' := [some (vR 0), some (vI (nI k)), some (vI (nI 3)), some (vI x), some (vR (61 + k)), none]) dX8_lay_73 (by decide) rfl ?_
          refine Go.aload dX8_lay_75 rfl ?_
          refine Go.getI dX8_lay_77 flX8_268 (slA hk).1 ?_
          refine Go.topE (y := μ 83 k) a1 ?_
          refine Go.at 80 rfl ?_
          refine Go.istore (ls' := [some (vR 0), some (vI (nI k)), some (vI (nI 3)), some (vI x), some (vR (61 + k)), some (vI (μ 83 k))]) dX8_lay_80 (by decide) rfl ?_
          refine Go.aload dX8_lay_82 rfl ?_
          refine Go.iload_n dX8_lay_84 rfl ?_
          refine Go.put dX8_lay_85 flX8_268 (slA hk).1 rfl rfl rfl ?_
          refine Go.iload_n dX8_lay_88 rfl ?_
          refine Go.iconst (v := nI 1) dX8_lay_89 rfl ?_
          refine Go.at 90 rfl ?_
          refine Go.icmp_ne_t (tgt := 124) dX8_lay_90 (by decide) (by decide) ?_
          refine Go.iload_n dX8_lay_124 rfl ?_
          refine Go.iconst (v := nI 2) dX8_lay_125 rfl ?_
          refine Go.icmp_ne_t (tgt := 146) dX8_lay_126 (by decide) (by decide) ?_
          refine Go.iload_n dX8_lay_146 rfl ?_
          refine Go.iconst (v := nI 3) dX8_lay_147 rfl ?_
          refine Go.at 148 rfl ?_
          refine Go.icmp_ne_f (tgt := 157) dX8_lay_148 (by decide) (by decide) ?_
          refine Go.aload dX8_lay_151 rfl ?_
          refine Go.iload_n dX8_lay_153 rfl ?_
          refine Go.put dX8_lay_154 flX8_285 (slA hk).2.2.2.1 rfl rfl rfl ?_
          refine Go.iload dX8_lay_157 rfl ?_
          refine Go.ireturn .int dX8_lay_159 rfl rfl ?_
          exact ⟨rfl, ((Fr.rf _ _).ms _ _ (by simp)).ms _ _ (by simp), by rw [ms_self, ms_self]⟩
        · skip
          have kf : ∀ o, o ≠ 61 + k → o ≠ 66 + k → o ≠ 71 + k → μ5 o = μ o := fun o g1 g2 g3 => k5.1 o (by simp only [List.mem_cons, List.not_mem_nil, or_false]; omega)
          have f83 : μ5 83 = μ 83 := kf 83 (by omega) (by omega) (by omega)
          have f84 : μ5 84 = μ 84 := kf 84 (by omega) (by omega) (by omega)
          have f85 : μ5 85 = μ 85 := kf 85 (by omega) (by omega) (by omega)
          have f86 : μ5 86 = μ 86 := kf 86 (by omega) (by omega) (by omega)
          have f87 : μ5 87 = μ 87 := kf 87 (by omega) (by omega) (by omega)
          show Go V (d + 3) mX9_lay 0 [some (vR 76), some (vI (nI k)), some (vI (nI 3)), some (vI x), none, none, none] [] μ5 _
          refine Go.iload_n dX9_lay_0 rfl ?_
          refine Go.if_eq_f (tgt := 33) dX9_lay_1 (by decide) (by decide) ?_
          refine Go.iload_n dX9_lay_4 rfl ?_
          refine Go.iconst (v := nI 3) dX9_lay_5 rfl ?_
          refine Go.icmp_eq_t (tgt := 33) dX9_lay_6 (by decide) (by decide) ?_
          refine Go.iconst (v := nI 1) dX9_lay_33 rfl ?_
          refine Go.at 34 rfl ?_
          refine Go.goto (tgt := 38) dX9_lay_34 (by decide) ?_
          refine Go.istore (ls' := [some (vR 76), some (vI (nI k)), some (vI (nI 3)), some (vI x), some (vI (nI 1)), none, none]) dX9_lay_38 (by decide) rfl ?_
          refine Go.iload_n dX9_lay_40 rfl ?_
          refine Go.callSi [vI (nI k)] [] dX9_lay_41 lkX9_299 rfl (Nat.le_of_ble_eq_true rfl) rfl (Nat.le_of_ble_eq_true rfl) (m_isSlot (nI k)) ?_
          refine Go.if_eqb_f (tgt := 52) dX9_lay_44 (by decide) h1 ?_
          refine Go.iload dX9_lay_47 rfl ?_
          refine Go.at 49 rfl ?_
          refine Go.if_ne_t (tgt := 55) dX9_lay_49 (by decide) (by decide) ?_
          refine Go.iload_n dX9_lay_55 rfl ?_
          refine Go.iconst (v := nI 2) dX9_lay_56 rfl ?_
          refine Go.icmp_ne_t (tgt := 73) dX9_lay_57 (by decide) (by decide) ?_
          refine Go.aload_n dX9_lay_73 rfl ?_
          refine Go.getR dX9_lay_74 flX9_28 rfl ?_
          refine Go.at 77 rfl ?_
          refine Go.iload_n dX9_lay_77 rfl ?_
          refine Go.iaload k dX9_lay_78 rfl (by omega) rfl ?_
          refine Go.topE (y := μ 83 k) (congrFun f83 k) ?_
          refine Go.istore (ls' := [some (vR 76), some (vI (nI k)), some (vI (nI 3)), some (vI x), some (vI (nI 1)), some (vI (μ 83 k)), none]) dX9_lay_79 (by decide) rfl ?_
          refine Go.aload_n dX9_lay_81 rfl ?_
          refine Go.getR dX9_lay_82 flX9_28 rfl ?_
          refine Go.iload_n dX9_lay_85 rfl ?_
          refine Go.at 86 rfl ?_
          refine Go.iload_n dX9_lay_86 rfl ?_
          refine Go.iastore k dX9_lay_87 rfl (by omega) rfl ?_
          refine Go.aload_n dX9_lay_88 rfl ?_
          refine Go.getR dX9_lay_89 flX9_31 rfl ?_
          refine Go.iload_n dX9_lay_92 rfl ?_
          refine Go.iload_n dX9_lay_93 rfl ?_
          refine Go.at 94 rfl ?_
          refine Go.iconst (v := nI 1) dX9_lay_94 rfl ?_
          refine Go.icmp_ne_t (tgt := 107) dX9_lay_95 (by decide) (by decide) ?_
          refine Go.iload_n dX9_lay_107 rfl ?_
          refine Go.iastore k dX9_lay_108 rfl (by omega) rfl ?_
          refine Go.aload_n dX9_lay_109 rfl ?_
          refine Go.getR dX9_lay_110 flX9_34 rfl ?_
          refine Go.at 113 rfl ?_
          refine Go.iload_n dX9_lay_113 rfl ?_
          refine Go.iload_n dX9_lay_114 rfl ?_
          refine Go.iconst (v := nI 1) dX9_lay_115 rfl ?_
          refine Go.icmp_ne_t (tgt := 127) dX9_lay_116 (by decide) (by decide) ?_
          refine Go.iconst (v := nI 0) dX9_lay_127 rfl ?_
          refine Go.iastore k dX9_lay_128 rfl (by omega) rfl ?_
          refine Go.at 129 rfl ?_
          refine Go.iload_n dX9_lay_129 rfl ?_
          refine Go.iconst (v := nI 2) dX9_lay_130 rfl ?_
          refine Go.icmp_ne_t (tgt := 186) dX9_lay_131 (by decide) (by decide) ?_
          refine Go.iload dX9_lay_186 rfl ?_
          refine Go.ireturn .int dX9_lay_188 rfl rfl ?_
          exact ⟨rfl, hS.slot hk (fun o g1 g2 g3 g4 g5 g6 g7 g8 => by simp (disch := omega) only [ms_self, ms_ne, upd_self, upd_ne]; exact kf o g1 g2 g3) (fun z hz hne => by simp (disch := omega) only [ms_self, ms_ne, upd_self, upd_ne]; rw [f83]) (fun z hz hne => by simp (disch := omega) only [ms_self, ms_ne, upd_self, upd_ne]; rw [f84]) (fun z hz hne => by simp (disch := omega) only [ms_self, ms_ne, upd_self, upd_ne]; rw [f85]) (fun z hz hne => by simp (disch := omega) only [ms_self, ms_ne, upd_self, upd_ne]; rw [f86]) (fun z j hz hne hj => by simp (disch := omega) only [ms_self, ms_ne, upd_self, upd_ne]; rw [f87])
            (by simp (disch := omega) only [ms_self, ms_ne, upd_self, upd_ne]; rw [k5.2]; simp (disch := omega) only [ms_self, ms_ne, upd_self, upd_ne]; exact ⟨(by first | trivial | rfl), Or.inr (Or.inr (Or.inr ⟨(by first | trivial | rfl), (by first | trivial | rfl)⟩))⟩)⟩
    · skip
      refine OpOK.q (x := (-1000000001)) hS ?_ (fun μ5 k5 => ?_)
      · show Go V (d + 3) mX8_lay 0 [some (vR 0), some (vI (nI k)), some (vI th), some (vI x), none, none] [] μ _
        refine Go.iload_n dX8_lay_0 rfl ?_
        refine Go.callSi [vI (nI k)] [] dX8_lay_1 lkX8_265 rfl (Nat.le_of_ble_eq_true rfl) rfl (Nat.le_of_ble_eq_true rfl) (c_isSlot (nI k)) ?_
        refine Go.if_eqb_f (tgt := 16) dX8_lay_4 (by decide) h1 ?_
        refine Go.iload_n dX8_lay_7 rfl ?_
        refine Go.iconst (v := nI 0) dX8_lay_8 rfl ?_
        refine Go.iconst (v := nI 3) dX8_lay_9 rfl ?_
        refine Go.at 10 rfl ?_
        refine Go.callSi [vI th, vI (nI 0), vI (nI 3)] [] dX8_lay_10 lkX8_72 rfl (Nat.le_of_ble_eq_true rfl) rfl (Nat.le_of_ble_eq_true rfl) (c_within th (nI 0) (nI 3)) ?_
        refine Go.if_neb_f (tgt := 19) dX8_lay_13 (by decide) h2 ?_
        refine Go.ldc dX8_lay_16 cnX8_76 ?_
        refine Go.ireturn .int dX8_lay_18 rfl rfl ?_
        exact ⟨rfl, Fr.rf _ _⟩
      · skip
        show Go V (d + 3) mX9_lay 0 [some (vR 76), some (vI (nI k)), some (vI th), some (vI x), none, none, none] [] μ5 _
        refine Go.iload_n dX9_lay_0 rfl ?_
        refine Go.if_eq_f (tgt := 33) dX9_lay_1 (by decide) (by intro z; subst z; exact h2 (by decide)) ?_
        refine Go.iload_n dX9_lay_4 rfl ?_
        refine Go.iconst (v := nI 3) dX9_lay_5 rfl ?_
        refine Go.icmp_eq_f (tgt := 33) dX9_lay_6 (by decide) (by intro z; subst z; exact h2 (by decide)) ?_
        refine Go.iload_n dX9_lay_9 rfl ?_
        refine Go.at 10 rfl ?_
        refine Go.iconst (v := nI 1) dX9_lay_10 rfl ?_
        refine Go.icmp_ne_t (tgt := 21) dX9_lay_11 (by decide) (by intro z; subst z; exact h2 (by decide)) ?_
        refine Go.iload_n dX9_lay_21 rfl ?_
        refine Go.iconst (v := nI 2) dX9_lay_22 rfl ?_
        refine Go.icmp_ne_t (tgt := 37) dX9_lay_23 (by decide) (by intro z; subst z; exact h2 (by decide)) ?_
        refine Go.iconst (v := nI 0) dX9_lay_37 rfl ?_
        refine Go.at 38 rfl ?_
        refine Go.istore (ls' := [some (vR 76), some (vI (nI k)), some (vI th), some (vI x), some (vI (nI 0)), none, none]) dX9_lay_38 (by decide) rfl ?_
        refine Go.iload_n dX9_lay_40 rfl ?_
        refine Go.callSi [vI (nI k)] [] dX9_lay_41 lkX9_299 rfl (Nat.le_of_ble_eq_true rfl) rfl (Nat.le_of_ble_eq_true rfl) (m_isSlot (nI k)) ?_
        refine Go.if_eqb_f (tgt := 52) dX9_lay_44 (by decide) h1 ?_
        refine Go.iload dX9_lay_47 rfl ?_
        refine Go.if_ne_f (tgt := 55) dX9_lay_49 (by decide) (by decide) ?_
        refine Go.at 52 rfl ?_
        refine Go.ldc dX9_lay_52 cnX9_98 ?_
        refine Go.ireturn .int dX9_lay_54 rfl rfl ?_
        exact ⟨rfl, Fr.rf _ _⟩
  · skip
    refine OpOK.q (x := (-1000000001)) hS ?_ (fun μ5 k5 => ?_)
    · show Go V (d + 3) mX8_lay 0 [some (vR 0), some (vI k0), some (vI th), some (vI x), none, none] [] μ _
      refine Go.iload_n dX8_lay_0 rfl ?_
      refine Go.callSi [vI k0] [] dX8_lay_1 lkX8_265 rfl (Nat.le_of_ble_eq_true rfl) rfl (Nat.le_of_ble_eq_true rfl) (c_isSlot k0) ?_
      refine Go.if_eqb_t (tgt := 16) dX8_lay_4 (by decide) h1 ?_
      refine Go.ldc dX8_lay_16 cnX8_76 ?_
      refine Go.ireturn .int dX8_lay_18 rfl rfl ?_
      exact ⟨rfl, Fr.rf _ _⟩
    · skip
      show Go V (d + 3) mX9_lay 0 [some (vR 76), some (vI k0), some (vI th), some (vI x), none, none, none] [] μ5 _
      refine Go.iload_n dX9_lay_0 rfl ?_
      refine Go.if_eq (tgt := 33) dX9_lay_1 (by decide) (fun hx1 => ?_) (fun hx1 => ?_)
      · -- 1 taken
        refine Go.iconst (v := nI 1) dX9_lay_33 rfl ?_
        refine Go.goto (tgt := 38) dX9_lay_34 (by decide) ?_
        refine Go.istore (ls' := [some (vR 76), some (vI k0), some (vI th), some (vI x), some (vI (nI 1)), none, none]) dX9_lay_38 (by decide) rfl ?_
        refine Go.iload_n dX9_lay_40 rfl ?_
        refine Go.callSi [vI k0] [] dX9_lay_41 lkX9_299 rfl (Nat.le_of_ble_eq_true rfl) rfl (Nat.le_of_ble_eq_true rfl) (m_isSlot k0) ?_
        refine Go.if_eqb_t (tgt := 52) dX9_lay_44 (by decide) h1 ?_
        refine Go.at 52 rfl ?_
        refine Go.ldc dX9_lay_52 cnX9_98 ?_
        refine Go.ireturn .int dX9_lay_54 rfl rfl ?_
        exact ⟨rfl, Fr.rf _ _⟩
      · -- 1 not
        refine Go.iload_n dX9_lay_4 rfl ?_
        refine Go.iconst (v := nI 3) dX9_lay_5 rfl ?_
        refine Go.icmp_eq (tgt := 33) dX9_lay_6 (by decide) (fun h6 => ?_) (fun h6 => ?_)
        · -- 6 taken
          refine Go.iconst (v := nI 1) dX9_lay_33 rfl ?_
          refine Go.goto (tgt := 38) dX9_lay_34 (by decide) ?_
          refine Go.istore (ls' := [some (vR 76), some (vI k0), some (vI th), some (vI x), some (vI (nI 1)), none, none]) dX9_lay_38 (by decide) rfl ?_
          refine Go.iload_n dX9_lay_40 rfl ?_
          refine Go.callSi [vI k0] [] dX9_lay_41 lkX9_299 rfl (Nat.le_of_ble_eq_true rfl) rfl (Nat.le_of_ble_eq_true rfl) (m_isSlot k0) ?_
          refine Go.if_eqb_t (tgt := 52) dX9_lay_44 (by decide) h1 ?_
          refine Go.at 52 rfl ?_
          refine Go.ldc dX9_lay_52 cnX9_98 ?_
          refine Go.ireturn .int dX9_lay_54 rfl rfl ?_
          exact ⟨rfl, Fr.rf _ _⟩
        · -- 6 not
          refine Go.iload_n dX9_lay_9 rfl ?_
          refine Go.iconst (v := nI 1) dX9_lay_10 rfl ?_
          refine Go.icmp_ne (tgt := 21) dX9_lay_11 (by decide) (fun h11 => ?_) (fun h11 => ?_)
          · -- 11 taken
            refine Go.iload_n dX9_lay_21 rfl ?_
            refine Go.iconst (v := nI 2) dX9_lay_22 rfl ?_
            refine Go.icmp_ne (tgt := 37) dX9_lay_23 (by decide) (fun h23 => ?_) (fun h23 => ?_)
            · -- 23 taken
              refine Go.iconst (v := nI 0) dX9_lay_37 rfl ?_
              refine Go.istore (ls' := [some (vR 76), some (vI k0), some (vI th), some (vI x), some (vI (nI 0)), none, none]) dX9_lay_38 (by decide) rfl ?_
              refine Go.iload_n dX9_lay_40 rfl ?_
              refine Go.callSi [vI k0] [] dX9_lay_41 lkX9_299 rfl (Nat.le_of_ble_eq_true rfl) rfl (Nat.le_of_ble_eq_true rfl) (m_isSlot k0) ?_
              refine Go.if_eqb_t (tgt := 52) dX9_lay_44 (by decide) h1 ?_
              refine Go.ldc dX9_lay_52 cnX9_98 ?_
              refine Go.at 54 rfl ?_
              refine Go.ireturn .int dX9_lay_54 rfl rfl ?_
              exact ⟨rfl, Fr.rf _ _⟩
            · -- 23 not
              refine Go.iload_n dX9_lay_26 rfl ?_
              refine Go.callSi [vI x] [] dX9_lay_27 lkX9_285 rfl (Nat.le_of_ble_eq_true rfl) rfl (Nat.le_of_ble_eq_true rfl) (m_isSheet x) ?_
              refine Go.if_eqb (tgt := 37) dX9_lay_30 (by decide) (fun h30 => ?_) (fun h30 => ?_)
              · -- 30 taken
                refine Go.iconst (v := nI 0) dX9_lay_37 rfl ?_
                refine Go.istore (ls' := [some (vR 76), some (vI k0), some (vI th), some (vI x), some (vI (nI 0)), none, none]) dX9_lay_38 (by decide) rfl ?_
                refine Go.iload_n dX9_lay_40 rfl ?_
                refine Go.callSi [vI k0] [] dX9_lay_41 lkX9_299 rfl (Nat.le_of_ble_eq_true rfl) rfl (Nat.le_of_ble_eq_true rfl) (m_isSlot k0) ?_
                refine Go.if_eqb_t (tgt := 52) dX9_lay_44 (by decide) h1 ?_
                refine Go.ldc dX9_lay_52 cnX9_98 ?_
                refine Go.at 54 rfl ?_
                refine Go.ireturn .int dX9_lay_54 rfl rfl ?_
                exact ⟨rfl, Fr.rf _ _⟩
              · -- 30 not
                refine Go.iconst (v := nI 1) dX9_lay_33 rfl ?_
                refine Go.goto (tgt := 38) dX9_lay_34 (by decide) ?_
                refine Go.istore (ls' := [some (vR 76), some (vI k0), some (vI th), some (vI x), some (vI (nI 1)), none, none]) dX9_lay_38 (by decide) rfl ?_
                refine Go.iload_n dX9_lay_40 rfl ?_
                refine Go.callSi [vI k0] [] dX9_lay_41 lkX9_299 rfl (Nat.le_of_ble_eq_true rfl) rfl (Nat.le_of_ble_eq_true rfl) (m_isSlot k0) ?_
                refine Go.if_eqb_t (tgt := 52) dX9_lay_44 (by decide) h1 ?_
                refine Go.at 52 rfl ?_
                refine Go.ldc dX9_lay_52 cnX9_98 ?_
                refine Go.ireturn .int dX9_lay_54 rfl rfl ?_
                exact ⟨rfl, Fr.rf _ _⟩
          · -- 11 not
            refine Go.iload_n dX9_lay_14 rfl ?_
            refine Go.callSi [vI x] [] dX9_lay_15 lkX9_90 rfl (Nat.le_of_ble_eq_true rfl) rfl (Nat.le_of_ble_eq_true rfl) (m_isCell x) ?_
            refine Go.if_neb (tgt := 33) dX9_lay_18 (by decide) (fun h18 => ?_) (fun h18 => ?_)
            · -- 18 taken
              refine Go.iconst (v := nI 1) dX9_lay_33 rfl ?_
              refine Go.goto (tgt := 38) dX9_lay_34 (by decide) ?_
              refine Go.istore (ls' := [some (vR 76), some (vI k0), some (vI th), some (vI x), some (vI (nI 1)), none, none]) dX9_lay_38 (by decide) rfl ?_
              refine Go.iload_n dX9_lay_40 rfl ?_
              refine Go.callSi [vI k0] [] dX9_lay_41 lkX9_299 rfl (Nat.le_of_ble_eq_true rfl) rfl (Nat.le_of_ble_eq_true rfl) (m_isSlot k0) ?_
              refine Go.if_eqb_t (tgt := 52) dX9_lay_44 (by decide) h1 ?_
              refine Go.at 52 rfl ?_
              refine Go.ldc dX9_lay_52 cnX9_98 ?_
              refine Go.ireturn .int dX9_lay_54 rfl rfl ?_
              exact ⟨rfl, Fr.rf _ _⟩
            · -- 18 not
              refine Go.iload_n dX9_lay_21 rfl ?_
              refine Go.iconst (v := nI 2) dX9_lay_22 rfl ?_
              refine Go.icmp_ne (tgt := 37) dX9_lay_23 (by decide) (fun h23 => ?_) (fun h23 => ?_)
              · -- 23 taken
                refine Go.iconst (v := nI 0) dX9_lay_37 rfl ?_
                refine Go.istore (ls' := [some (vR 76), some (vI k0), some (vI th), some (vI x), some (vI (nI 0)), none, none]) dX9_lay_38 (by decide) rfl ?_
                refine Go.iload_n dX9_lay_40 rfl ?_
                refine Go.callSi [vI k0] [] dX9_lay_41 lkX9_299 rfl (Nat.le_of_ble_eq_true rfl) rfl (Nat.le_of_ble_eq_true rfl) (m_isSlot k0) ?_
                refine Go.if_eqb_t (tgt := 52) dX9_lay_44 (by decide) h1 ?_
                refine Go.ldc dX9_lay_52 cnX9_98 ?_
                refine Go.at 54 rfl ?_
                refine Go.ireturn .int dX9_lay_54 rfl rfl ?_
                exact ⟨rfl, Fr.rf _ _⟩
              · -- 23 not
                refine Go.iload_n dX9_lay_26 rfl ?_
                refine Go.callSi [vI x] [] dX9_lay_27 lkX9_285 rfl (Nat.le_of_ble_eq_true rfl) rfl (Nat.le_of_ble_eq_true rfl) (m_isSheet x) ?_
                refine Go.if_eqb (tgt := 37) dX9_lay_30 (by decide) (fun h30 => ?_) (fun h30 => ?_)
                · -- 30 taken
                  refine Go.iconst (v := nI 0) dX9_lay_37 rfl ?_
                  refine Go.istore (ls' := [some (vR 76), some (vI k0), some (vI th), some (vI x), some (vI (nI 0)), none, none]) dX9_lay_38 (by decide) rfl ?_
                  refine Go.iload_n dX9_lay_40 rfl ?_
                  refine Go.callSi [vI k0] [] dX9_lay_41 lkX9_299 rfl (Nat.le_of_ble_eq_true rfl) rfl (Nat.le_of_ble_eq_true rfl) (m_isSlot k0) ?_
                  refine Go.if_eqb_t (tgt := 52) dX9_lay_44 (by decide) h1 ?_
                  refine Go.ldc dX9_lay_52 cnX9_98 ?_
                  refine Go.at 54 rfl ?_
                  refine Go.ireturn .int dX9_lay_54 rfl rfl ?_
                  exact ⟨rfl, Fr.rf _ _⟩
                · -- 30 not
                  refine Go.iconst (v := nI 1) dX9_lay_33 rfl ?_
                  refine Go.goto (tgt := 38) dX9_lay_34 (by decide) ?_
                  refine Go.istore (ls' := [some (vR 76), some (vI k0), some (vI th), some (vI x), some (vI (nI 1)), none, none]) dX9_lay_38 (by decide) rfl ?_
                  refine Go.iload_n dX9_lay_40 rfl ?_
                  refine Go.callSi [vI k0] [] dX9_lay_41 lkX9_299 rfl (Nat.le_of_ble_eq_true rfl) rfl (Nat.le_of_ble_eq_true rfl) (m_isSlot k0) ?_
                  refine Go.if_eqb_t (tgt := 52) dX9_lay_44 (by decide) h1 ?_
                  refine Go.at 52 rfl ?_
                  refine Go.ldc dX9_lay_52 cnX9_98 ?_
                  refine Go.ireturn .int dX9_lay_54 rfl rfl ?_
                  exact ⟨rfl, Fr.rf _ _⟩
theorem m_copy1 {V : VV} {d : Nat} {μ0 : Memo} {f g p a n : Nat} (hf : f < 4) (hg : g < 4) (hp : p + n ≤ 24) (ha : a + n ≤ 24) {Q : Option AVal → Memo → Prop}
    (hQ : ∀ μ1, (Fr [92] μ0 μ1 ∧ ∀ t, t < n → μ1 92 t = μ0 82 (24 * f + p + t)) → Go V d mX9_copy 147 [some (vR 76), some (vI (nI f)), some (vI (nI p)), some (vI (nI g)), some (vI (nI a)), some (vI (nI n)), some (vI (nI n))] [] μ1 Q) :
    ∀ (j i : Nat) (μ : Memo), i + j = n → (Fr [92] μ0 μ ∧ ∀ t, t < i → μ 92 t = μ0 82 (24 * f + p + t)) → Go V d mX9_copy 113 [some (vR 76), some (vI (nI f)), some (vI (nI p)), some (vI (nI g)), some (vI (nI a)), some (vI (nI n)), some (vI (nI i))] [] μ Q
  | 0, i, μ, hij, hi => by
    obtain rfl : i = n := by omega
    refine Go.iload dX9_copy_113 rfl ?_
    refine Go.iload dX9_copy_115 rfl ?_
    refine Go.icmp_ge_t (tgt := 147) dX9_copy_117 (by decide) (by rw [sI_le]; exact Int.le_refl _) ?_
    exact hQ _ hi
  | j + 1, i, μ, hij, hi => by
    have hin : i < n := by omega
    refine Go.iload dX9_copy_113 rfl ?_
    refine Go.iload dX9_copy_115 rfl ?_
    refine Go.icmp_ge_f (tgt := 147) dX9_copy_117 (by decide) (nI_ge hin (by omega)) ?_
    refine Go.aload_n dX9_copy_120 rfl ?_
    refine Go.getR dX9_copy_121 flX9_55 rfl ?_
    refine Go.iload dX9_copy_124 rfl ?_
    refine Go.at 126 rfl ?_
    refine Go.aload_n dX9_copy_126 rfl ?_
    refine Go.getR dX9_copy_127 flX9_25 rfl ?_
    refine Go.bipush (v := nI 24) dX9_copy_130 rfl ?_
    refine Go.iload_n dX9_copy_132 rfl ?_
    refine Go.imulN dX9_copy_133 ?_
    refine Go.iload_n dX9_copy_134 rfl ?_
    refine Go.at 135 rfl ?_
    refine Go.iaddN dX9_copy_135 ?_
    refine Go.iload dX9_copy_136 rfl ?_
    refine Go.iaddN dX9_copy_138 ?_
    refine Go.iaload (((24 * f) + p) + i) dX9_copy_139 rfl (by omega) rfl ?_
    refine Go.topE (y := μ0 82 (24 * f + p + i)) (congrFun (hi.1 82 (by decide)) _) ?_
    refine Go.iastore i dX9_copy_140 rfl (by omega) rfl ?_
    refine Go.iinc (v := nI (i + 1)) (ls' := [some (vR 76), some (vI (nI f)), some (vI (nI p)), some (vI (nI g)), some (vI (nI a)), some (vI (nI n)), some (vI (nI (i + 1)))]) dX9_copy_141 rfl (nI_add _ _) (by decide) rfl ?_
    refine Go.at 144 rfl ?_
    refine Go.goto (tgt := 113) dX9_copy_144 (by decide) ?_
    exact m_copy1 hf hg hp ha hQ j (i + 1) _ (by omega) ⟨hi.1.ms _ _ (by decide), fun t ht => by
      rw [ms_self]
      by_cases z : t = i
      · subst z; exact upd_self _ _ _
      · rw [upd_ne _ _ z]; exact hi.2 t (by omega)⟩
theorem m_copy2 {V : VV} {d : Nat} {μ0 : Memo} {f g p a n : Nat} (hf : f < 4) (hg : g < 4) (hp : p + n ≤ 24) (ha : a + n ≤ 24) {Q : Option AVal → Memo → Prop}
    (hQ : ∀ μ1, (Fr [82] μ0 μ1 ∧ (∀ t, t < n → μ1 82 (24 * g + a + t) = μ0 92 t) ∧ ∀ z, z < 24 * g + a ∨ 24 * g + a + n ≤ z → μ1 82 z = μ0 82 z) → Go V d mX9_copy 185 [some (vR 76), some (vI (nI f)), some (vI (nI p)), some (vI (nI g)), some (vI (nI a)), some (vI (nI n)), some (vI (nI n))] [] μ1 Q) :
    ∀ (j i : Nat) (μ : Memo), i + j = n → (Fr [82] μ0 μ ∧ (∀ t, t < i → μ 82 (24 * g + a + t) = μ0 92 t) ∧ ∀ z, z < 24 * g + a ∨ 24 * g + a + i ≤ z → μ 82 z = μ0 82 z) → Go V d mX9_copy 150 [some (vR 76), some (vI (nI f)), some (vI (nI p)), some (vI (nI g)), some (vI (nI a)), some (vI (nI n)), some (vI (nI i))] [] μ Q
  | 0, i, μ, hij, hi => by
    obtain rfl : i = n := by omega
    refine Go.iload dX9_copy_150 rfl ?_
    refine Go.iload dX9_copy_152 rfl ?_
    refine Go.icmp_ge_t (tgt := 185) dX9_copy_154 (by decide) (by rw [sI_le]; exact Int.le_refl _) ?_
    exact hQ _ hi
  | j + 1, i, μ, hij, hi => by
    have hin : i < n := by omega
    refine Go.iload dX9_copy_150 rfl ?_
    refine Go.iload dX9_copy_152 rfl ?_
    refine Go.icmp_ge_f (tgt := 185) dX9_copy_154 (by decide) (nI_ge hin (by omega)) ?_
    refine Go.aload_n dX9_copy_157 rfl ?_
    refine Go.getR dX9_copy_158 flX9_25 rfl ?_
    refine Go.bipush (v := nI 24) dX9_copy_161 rfl ?_
    refine Go.at 163 rfl ?_
    refine Go.iload_n dX9_copy_163 rfl ?_
    refine Go.imulN dX9_copy_164 ?_
    refine Go.iload dX9_copy_165 rfl ?_
    refine Go.iaddN dX9_copy_167 ?_
    refine Go.iload dX9_copy_168 rfl ?_
    refine Go.iaddN dX9_copy_170 ?_
    refine Go.at 171 rfl ?_
    refine Go.aload_n dX9_copy_171 rfl ?_
    refine Go.getR dX9_copy_172 flX9_55 rfl ?_
    refine Go.iload dX9_copy_175 rfl ?_
    refine Go.iaload i dX9_copy_177 rfl (by omega) rfl ?_
    refine Go.topE (y := μ0 92 i) (congrFun (hi.1 92 (by decide)) _) ?_
    refine Go.iastore (((24 * g) + a) + i) dX9_copy_178 rfl (by omega) rfl ?_
    refine Go.iinc (v := nI (i + 1)) (ls' := [some (vR 76), some (vI (nI f)), some (vI (nI p)), some (vI (nI g)), some (vI (nI a)), some (vI (nI n)), some (vI (nI (i + 1)))]) dX9_copy_179 rfl (nI_add _ _) (by decide) rfl ?_
    refine Go.at 182 rfl ?_
    refine Go.goto (tgt := 150) dX9_copy_182 (by decide) ?_
    exact m_copy2 hf hg hp ha hQ j (i + 1) _ (by omega) ⟨hi.1.ms _ _ (by decide), fun t ht => by
      rw [ms_self]
      by_cases z : t = i
      · subst z; exact upd_self _ _ _
      · rw [upd_ne _ _ (by omega)]; exact hi.2.1 t (by omega), fun z hz => by rw [ms_self, upd_ne _ _ (by omega)]; exact hi.2.2 z (by omega)⟩
theorem op_copy {V : VV} {d : Nat} {μ : Memo} (hS : Sim μ) (k0 : Int32) (place : Int32) (k1_ : Int32) (at_ : Int32) (many : Int32) : OpOK V (d + 3) mX8_copy mX9_copy [vI k0, vI place, vI k1_, vI at_, vI many] μ := by
  obtain ⟨⟨hT, hCo, hKd, hO, hH⟩, hI, hX, hIm, hSh, hSl, hTp, hWt⟩ := id hS
  by_cases h1 : nI 0 ≤ k0 ∧ k0 ≤ nI 3
  · skip
    by_cases h2 : nI 0 ≤ k1_ ∧ k1_ ≤ nI 3
    · skip
      obtain ⟨f, hf0, rfl⟩ := in_nI (by decide) h1
      have hf : f < 4 := by omega
      obtain ⟨a1, a2, a3, ⟨n1, hn1, en1⟩, a4⟩ := hSh f hf
      obtain ⟨g, hg0, rfl⟩ := in_nI (by decide) h2
      have hg : g < 4 := by omega
      obtain ⟨b1, b2, b3, ⟨n2, hn2, en2⟩, b4⟩ := hSh g hg
      rcases a2 with es | es | es
      · skip
        rcases b2 with et | et | et
        · skip
          refine OpOK.q (x := (-1000000011)) hS ?_ (fun μ5 k5 => ?_)
          · show Go V (d + 3) mX8_copy 0 [some (vR 0), some (vI (nI f)), some (vI place), some (vI (nI g)), some (vI at_), some (vI many), none, none] [] μ _
            refine Go.iload_n dX8_copy_0 rfl ?_
            refine Go.callSi [vI (nI f)] [] dX8_copy_1 lkX8_227 rfl (Nat.le_of_ble_eq_true rfl) rfl (Nat.le_of_ble_eq_true rfl) (c_isSheet (nI f)) ?_
            refine Go.if_eqb_f (tgt := 14) dX8_copy_4 (by decide) h1 ?_
            refine Go.iload_n dX8_copy_7 rfl ?_
            refine Go.callSi [vI (nI g)] [] dX8_copy_8 lkX8_227 rfl (Nat.le_of_ble_eq_true rfl) rfl (Nat.le_of_ble_eq_true rfl) (c_isSheet (nI g)) ?_
            refine Go.if_neb_t (tgt := 17) dX8_copy_11 (by decide) h2 ?_
            refine Go.at 17 rfl ?_
            refine Go.aload_n dX8_copy_17 rfl ?_
            refine Go.getR dX8_copy_18 flX8_49 rfl ?_
            refine Go.iload_n dX8_copy_21 rfl ?_
            refine Go.aaload (r := 53 + f) f dX8_copy_22 (arSh hf) rfl ?_
            refine Go.astore (ls' := [some (vR 0), some (vI (nI f)), some (vI place), some (vI (nI g)), some (vI at_), some (vI many), some (vR (53 + f)), none]) dX8_copy_23 (by decide) rfl ?_
            refine Go.aload_n dX8_copy_25 rfl ?_
            refine Go.at 26 rfl ?_
            refine Go.getR dX8_copy_26 flX8_49 rfl ?_
            refine Go.iload_n dX8_copy_29 rfl ?_
            refine Go.aaload (r := 53 + g) g dX8_copy_30 (arSh hg) rfl ?_
            refine Go.astore (ls' := [some (vR 0), some (vI (nI f)), some (vI place), some (vI (nI g)), some (vI at_), some (vI many), some (vR (53 + f)), some (vR (53 + g))]) dX8_copy_31 (by decide) rfl ?_
            refine Go.aload dX8_copy_33 rfl ?_
            refine Go.getI dX8_copy_35 flX8_235 (shA hf).1 ?_
            refine Go.topE (y := (-1)) (a1.trans es) ?_
            refine Go.at 38 rfl ?_
            refine Go.iconst (v := (-1)) dX8_copy_38 rfl ?_
            refine Go.icmp_eq_t (tgt := 51) dX8_copy_39 (by decide) (by decide) ?_
            refine Go.ldc dX8_copy_51 cnX8_238 ?_
            refine Go.ireturn .int dX8_copy_53 rfl rfl ?_
            exact ⟨rfl, Fr.rf _ _⟩
          · skip
            have e80 : μ5 80 f = (-1) := (congrFun (k5 80 (by simp only [List.mem_cons, List.not_mem_nil, or_false]; omega)) f).trans es
            have f80 : μ5 80 g = (-1) := (congrFun (k5 80 (by simp only [List.mem_cons, List.not_mem_nil, or_false]; omega)) g).trans et
            have e81 : μ5 81 f = nI n1 := (congrFun (k5 81 (by simp only [List.mem_cons, List.not_mem_nil, or_false]; omega)) f).trans en1
            have f81 : μ5 81 g = nI n2 := (congrFun (k5 81 (by simp only [List.mem_cons, List.not_mem_nil, or_false]; omega)) g).trans en2
            show Go V (d + 3) mX9_copy 0 [some (vR 76), some (vI (nI f)), some (vI place), some (vI (nI g)), some (vI at_), some (vI many), none] [] μ5 _
            refine Go.iload_n dX9_copy_0 rfl ?_
            refine Go.callSi [vI (nI f)] [] dX9_copy_1 lkX9_285 rfl (Nat.le_of_ble_eq_true rfl) rfl (Nat.le_of_ble_eq_true rfl) (m_isSheet (nI f)) ?_
            refine Go.if_eqb_f (tgt := 14) dX9_copy_4 (by decide) h1 ?_
            refine Go.iload_n dX9_copy_7 rfl ?_
            refine Go.callSi [vI (nI g)] [] dX9_copy_8 lkX9_285 rfl (Nat.le_of_ble_eq_true rfl) rfl (Nat.le_of_ble_eq_true rfl) (m_isSheet (nI g)) ?_
            refine Go.if_neb_t (tgt := 17) dX9_copy_11 (by decide) h2 ?_
            refine Go.at 17 rfl ?_
            refine Go.aload_n dX9_copy_17 rfl ?_
            refine Go.getR dX9_copy_18 flX9_19 rfl ?_
            refine Go.iload_n dX9_copy_21 rfl ?_
            refine Go.iaload f dX9_copy_22 rfl (by omega) rfl ?_
            refine Go.topE (y := (-1)) e80 ?_
            refine Go.if_lt_t (tgt := 35) dX9_copy_23 (by decide) (by decide) ?_
            refine Go.ldc_w dX9_copy_35 cnX9_291 ?_
            refine Go.at 38 rfl ?_
            refine Go.ireturn .int dX9_copy_38 rfl rfl ?_
            exact ⟨rfl, Fr.rf _ _⟩
        · skip
          refine OpOK.q (x := (-1000000011)) hS ?_ (fun μ5 k5 => ?_)
          · show Go V (d + 3) mX8_copy 0 [some (vR 0), some (vI (nI f)), some (vI place), some (vI (nI g)), some (vI at_), some (vI many), none, none] [] μ _
            refine Go.iload_n dX8_copy_0 rfl ?_
            refine Go.callSi [vI (nI f)] [] dX8_copy_1 lkX8_227 rfl (Nat.le_of_ble_eq_true rfl) rfl (Nat.le_of_ble_eq_true rfl) (c_isSheet (nI f)) ?_
            refine Go.if_eqb_f (tgt := 14) dX8_copy_4 (by decide) h1 ?_
            refine Go.iload_n dX8_copy_7 rfl ?_
            refine Go.callSi [vI (nI g)] [] dX8_copy_8 lkX8_227 rfl (Nat.le_of_ble_eq_true rfl) rfl (Nat.le_of_ble_eq_true rfl) (c_isSheet (nI g)) ?_
            refine Go.if_neb_t (tgt := 17) dX8_copy_11 (by decide) h2 ?_
            refine Go.at 17 rfl ?_
            refine Go.aload_n dX8_copy_17 rfl ?_
            refine Go.getR dX8_copy_18 flX8_49 rfl ?_
            refine Go.iload_n dX8_copy_21 rfl ?_
            refine Go.aaload (r := 53 + f) f dX8_copy_22 (arSh hf) rfl ?_
            refine Go.astore (ls' := [some (vR 0), some (vI (nI f)), some (vI place), some (vI (nI g)), some (vI at_), some (vI many), some (vR (53 + f)), none]) dX8_copy_23 (by decide) rfl ?_
            refine Go.aload_n dX8_copy_25 rfl ?_
            refine Go.at 26 rfl ?_
            refine Go.getR dX8_copy_26 flX8_49 rfl ?_
            refine Go.iload_n dX8_copy_29 rfl ?_
            refine Go.aaload (r := 53 + g) g dX8_copy_30 (arSh hg) rfl ?_
            refine Go.astore (ls' := [some (vR 0), some (vI (nI f)), some (vI place), some (vI (nI g)), some (vI at_), some (vI many), some (vR (53 + f)), some (vR (53 + g))]) dX8_copy_31 (by decide) rfl ?_
            refine Go.aload dX8_copy_33 rfl ?_
            refine Go.getI dX8_copy_35 flX8_235 (shA hf).1 ?_
            refine Go.topE (y := (-1)) (a1.trans es) ?_
            refine Go.at 38 rfl ?_
            refine Go.iconst (v := (-1)) dX8_copy_38 rfl ?_
            refine Go.icmp_eq_t (tgt := 51) dX8_copy_39 (by decide) (by decide) ?_
            refine Go.ldc dX8_copy_51 cnX8_238 ?_
            refine Go.ireturn .int dX8_copy_53 rfl rfl ?_
            exact ⟨rfl, Fr.rf _ _⟩
          · skip
            have e80 : μ5 80 f = (-1) := (congrFun (k5 80 (by simp only [List.mem_cons, List.not_mem_nil, or_false]; omega)) f).trans es
            have f80 : μ5 80 g = nI 0 := (congrFun (k5 80 (by simp only [List.mem_cons, List.not_mem_nil, or_false]; omega)) g).trans et
            have e81 : μ5 81 f = nI n1 := (congrFun (k5 81 (by simp only [List.mem_cons, List.not_mem_nil, or_false]; omega)) f).trans en1
            have f81 : μ5 81 g = nI n2 := (congrFun (k5 81 (by simp only [List.mem_cons, List.not_mem_nil, or_false]; omega)) g).trans en2
            show Go V (d + 3) mX9_copy 0 [some (vR 76), some (vI (nI f)), some (vI place), some (vI (nI g)), some (vI at_), some (vI many), none] [] μ5 _
            refine Go.iload_n dX9_copy_0 rfl ?_
            refine Go.callSi [vI (nI f)] [] dX9_copy_1 lkX9_285 rfl (Nat.le_of_ble_eq_true rfl) rfl (Nat.le_of_ble_eq_true rfl) (m_isSheet (nI f)) ?_
            refine Go.if_eqb_f (tgt := 14) dX9_copy_4 (by decide) h1 ?_
            refine Go.iload_n dX9_copy_7 rfl ?_
            refine Go.callSi [vI (nI g)] [] dX9_copy_8 lkX9_285 rfl (Nat.le_of_ble_eq_true rfl) rfl (Nat.le_of_ble_eq_true rfl) (m_isSheet (nI g)) ?_
            refine Go.if_neb_t (tgt := 17) dX9_copy_11 (by decide) h2 ?_
            refine Go.at 17 rfl ?_
            refine Go.aload_n dX9_copy_17 rfl ?_
            refine Go.getR dX9_copy_18 flX9_19 rfl ?_
            refine Go.iload_n dX9_copy_21 rfl ?_
            refine Go.iaload f dX9_copy_22 rfl (by omega) rfl ?_
            refine Go.topE (y := (-1)) e80 ?_
            refine Go.if_lt_t (tgt := 35) dX9_copy_23 (by decide) (by decide) ?_
            refine Go.ldc_w dX9_copy_35 cnX9_291 ?_
            refine Go.at 38 rfl ?_
            refine Go.ireturn .int dX9_copy_38 rfl rfl ?_
            exact ⟨rfl, Fr.rf _ _⟩
        · skip
          refine OpOK.q (x := (-1000000011)) hS ?_ (fun μ5 k5 => ?_)
          · show Go V (d + 3) mX8_copy 0 [some (vR 0), some (vI (nI f)), some (vI place), some (vI (nI g)), some (vI at_), some (vI many), none, none] [] μ _
            refine Go.iload_n dX8_copy_0 rfl ?_
            refine Go.callSi [vI (nI f)] [] dX8_copy_1 lkX8_227 rfl (Nat.le_of_ble_eq_true rfl) rfl (Nat.le_of_ble_eq_true rfl) (c_isSheet (nI f)) ?_
            refine Go.if_eqb_f (tgt := 14) dX8_copy_4 (by decide) h1 ?_
            refine Go.iload_n dX8_copy_7 rfl ?_
            refine Go.callSi [vI (nI g)] [] dX8_copy_8 lkX8_227 rfl (Nat.le_of_ble_eq_true rfl) rfl (Nat.le_of_ble_eq_true rfl) (c_isSheet (nI g)) ?_
            refine Go.if_neb_t (tgt := 17) dX8_copy_11 (by decide) h2 ?_
            refine Go.at 17 rfl ?_
            refine Go.aload_n dX8_copy_17 rfl ?_
            refine Go.getR dX8_copy_18 flX8_49 rfl ?_
            refine Go.iload_n dX8_copy_21 rfl ?_
            refine Go.aaload (r := 53 + f) f dX8_copy_22 (arSh hf) rfl ?_
            refine Go.astore (ls' := [some (vR 0), some (vI (nI f)), some (vI place), some (vI (nI g)), some (vI at_), some (vI many), some (vR (53 + f)), none]) dX8_copy_23 (by decide) rfl ?_
            refine Go.aload_n dX8_copy_25 rfl ?_
            refine Go.at 26 rfl ?_
            refine Go.getR dX8_copy_26 flX8_49 rfl ?_
            refine Go.iload_n dX8_copy_29 rfl ?_
            refine Go.aaload (r := 53 + g) g dX8_copy_30 (arSh hg) rfl ?_
            refine Go.astore (ls' := [some (vR 0), some (vI (nI f)), some (vI place), some (vI (nI g)), some (vI at_), some (vI many), some (vR (53 + f)), some (vR (53 + g))]) dX8_copy_31 (by decide) rfl ?_
            refine Go.aload dX8_copy_33 rfl ?_
            refine Go.getI dX8_copy_35 flX8_235 (shA hf).1 ?_
            refine Go.topE (y := (-1)) (a1.trans es) ?_
            refine Go.at 38 rfl ?_
            refine Go.iconst (v := (-1)) dX8_copy_38 rfl ?_
            refine Go.icmp_eq_t (tgt := 51) dX8_copy_39 (by decide) (by decide) ?_
            refine Go.ldc dX8_copy_51 cnX8_238 ?_
            refine Go.ireturn .int dX8_copy_53 rfl rfl ?_
            exact ⟨rfl, Fr.rf _ _⟩
          · skip
            have e80 : μ5 80 f = (-1) := (congrFun (k5 80 (by simp only [List.mem_cons, List.not_mem_nil, or_false]; omega)) f).trans es
            have f80 : μ5 80 g = nI 1 := (congrFun (k5 80 (by simp only [List.mem_cons, List.not_mem_nil, or_false]; omega)) g).trans et
            have e81 : μ5 81 f = nI n1 := (congrFun (k5 81 (by simp only [List.mem_cons, List.not_mem_nil, or_false]; omega)) f).trans en1
            have f81 : μ5 81 g = nI n2 := (congrFun (k5 81 (by simp only [List.mem_cons, List.not_mem_nil, or_false]; omega)) g).trans en2
            show Go V (d + 3) mX9_copy 0 [some (vR 76), some (vI (nI f)), some (vI place), some (vI (nI g)), some (vI at_), some (vI many), none] [] μ5 _
            refine Go.iload_n dX9_copy_0 rfl ?_
            refine Go.callSi [vI (nI f)] [] dX9_copy_1 lkX9_285 rfl (Nat.le_of_ble_eq_true rfl) rfl (Nat.le_of_ble_eq_true rfl) (m_isSheet (nI f)) ?_
            refine Go.if_eqb_f (tgt := 14) dX9_copy_4 (by decide) h1 ?_
            refine Go.iload_n dX9_copy_7 rfl ?_
            refine Go.callSi [vI (nI g)] [] dX9_copy_8 lkX9_285 rfl (Nat.le_of_ble_eq_true rfl) rfl (Nat.le_of_ble_eq_true rfl) (m_isSheet (nI g)) ?_
            refine Go.if_neb_t (tgt := 17) dX9_copy_11 (by decide) h2 ?_
            refine Go.at 17 rfl ?_
            refine Go.aload_n dX9_copy_17 rfl ?_
            refine Go.getR dX9_copy_18 flX9_19 rfl ?_
            refine Go.iload_n dX9_copy_21 rfl ?_
            refine Go.iaload f dX9_copy_22 rfl (by omega) rfl ?_
            refine Go.topE (y := (-1)) e80 ?_
            refine Go.if_lt_t (tgt := 35) dX9_copy_23 (by decide) (by decide) ?_
            refine Go.ldc_w dX9_copy_35 cnX9_291 ?_
            refine Go.at 38 rfl ?_
            refine Go.ireturn .int dX9_copy_38 rfl rfl ?_
            exact ⟨rfl, Fr.rf _ _⟩
      · skip
        rcases b2 with et | et | et
        · skip
          refine OpOK.q (x := (-1000000011)) hS ?_ (fun μ5 k5 => ?_)
          · show Go V (d + 3) mX8_copy 0 [some (vR 0), some (vI (nI f)), some (vI place), some (vI (nI g)), some (vI at_), some (vI many), none, none] [] μ _
            refine Go.iload_n dX8_copy_0 rfl ?_
            refine Go.callSi [vI (nI f)] [] dX8_copy_1 lkX8_227 rfl (Nat.le_of_ble_eq_true rfl) rfl (Nat.le_of_ble_eq_true rfl) (c_isSheet (nI f)) ?_
            refine Go.if_eqb_f (tgt := 14) dX8_copy_4 (by decide) h1 ?_
            refine Go.iload_n dX8_copy_7 rfl ?_
            refine Go.callSi [vI (nI g)] [] dX8_copy_8 lkX8_227 rfl (Nat.le_of_ble_eq_true rfl) rfl (Nat.le_of_ble_eq_true rfl) (c_isSheet (nI g)) ?_
            refine Go.if_neb_t (tgt := 17) dX8_copy_11 (by decide) h2 ?_
            refine Go.at 17 rfl ?_
            refine Go.aload_n dX8_copy_17 rfl ?_
            refine Go.getR dX8_copy_18 flX8_49 rfl ?_
            refine Go.iload_n dX8_copy_21 rfl ?_
            refine Go.aaload (r := 53 + f) f dX8_copy_22 (arSh hf) rfl ?_
            refine Go.astore (ls' := [some (vR 0), some (vI (nI f)), some (vI place), some (vI (nI g)), some (vI at_), some (vI many), some (vR (53 + f)), none]) dX8_copy_23 (by decide) rfl ?_
            refine Go.aload_n dX8_copy_25 rfl ?_
            refine Go.at 26 rfl ?_
            refine Go.getR dX8_copy_26 flX8_49 rfl ?_
            refine Go.iload_n dX8_copy_29 rfl ?_
            refine Go.aaload (r := 53 + g) g dX8_copy_30 (arSh hg) rfl ?_
            refine Go.astore (ls' := [some (vR 0), some (vI (nI f)), some (vI place), some (vI (nI g)), some (vI at_), some (vI many), some (vR (53 + f)), some (vR (53 + g))]) dX8_copy_31 (by decide) rfl ?_
            refine Go.aload dX8_copy_33 rfl ?_
            refine Go.getI dX8_copy_35 flX8_235 (shA hf).1 ?_
            refine Go.topE (y := nI 0) (a1.trans es) ?_
            refine Go.at 38 rfl ?_
            refine Go.iconst (v := (-1)) dX8_copy_38 rfl ?_
            refine Go.icmp_eq_f (tgt := 51) dX8_copy_39 (by decide) (by decide) ?_
            refine Go.aload dX8_copy_42 rfl ?_
            refine Go.getI dX8_copy_44 flX8_235 (shA hg).1 ?_
            refine Go.topE (y := (-1)) (b1.trans et) ?_
            refine Go.iconst (v := (-1)) dX8_copy_47 rfl ?_
            refine Go.icmp_ne_f (tgt := 54) dX8_copy_48 (by decide) (by decide) ?_
            refine Go.at 51 rfl ?_
            refine Go.ldc dX8_copy_51 cnX8_238 ?_
            refine Go.ireturn .int dX8_copy_53 rfl rfl ?_
            exact ⟨rfl, Fr.rf _ _⟩
          · skip
            have e80 : μ5 80 f = nI 0 := (congrFun (k5 80 (by simp only [List.mem_cons, List.not_mem_nil, or_false]; omega)) f).trans es
            have f80 : μ5 80 g = (-1) := (congrFun (k5 80 (by simp only [List.mem_cons, List.not_mem_nil, or_false]; omega)) g).trans et
            have e81 : μ5 81 f = nI n1 := (congrFun (k5 81 (by simp only [List.mem_cons, List.not_mem_nil, or_false]; omega)) f).trans en1
            have f81 : μ5 81 g = nI n2 := (congrFun (k5 81 (by simp only [List.mem_cons, List.not_mem_nil, or_false]; omega)) g).trans en2
            show Go V (d + 3) mX9_copy 0 [some (vR 76), some (vI (nI f)), some (vI place), some (vI (nI g)), some (vI at_), some (vI many), none] [] μ5 _
            refine Go.iload_n dX9_copy_0 rfl ?_
            refine Go.callSi [vI (nI f)] [] dX9_copy_1 lkX9_285 rfl (Nat.le_of_ble_eq_true rfl) rfl (Nat.le_of_ble_eq_true rfl) (m_isSheet (nI f)) ?_
            refine Go.if_eqb_f (tgt := 14) dX9_copy_4 (by decide) h1 ?_
            refine Go.iload_n dX9_copy_7 rfl ?_
            refine Go.callSi [vI (nI g)] [] dX9_copy_8 lkX9_285 rfl (Nat.le_of_ble_eq_true rfl) rfl (Nat.le_of_ble_eq_true rfl) (m_isSheet (nI g)) ?_
            refine Go.if_neb_t (tgt := 17) dX9_copy_11 (by decide) h2 ?_
            refine Go.at 17 rfl ?_
            refine Go.aload_n dX9_copy_17 rfl ?_
            refine Go.getR dX9_copy_18 flX9_19 rfl ?_
            refine Go.iload_n dX9_copy_21 rfl ?_
            refine Go.iaload f dX9_copy_22 rfl (by omega) rfl ?_
            refine Go.topE (y := nI 0) e80 ?_
            refine Go.if_lt_f (tgt := 35) dX9_copy_23 (by decide) (by decide) ?_
            refine Go.aload_n dX9_copy_26 rfl ?_
            refine Go.at 27 rfl ?_
            refine Go.getR dX9_copy_27 flX9_19 rfl ?_
            refine Go.iload_n dX9_copy_30 rfl ?_
            refine Go.iaload g dX9_copy_31 rfl (by omega) rfl ?_
            refine Go.topE (y := (-1)) f80 ?_
            refine Go.if_ge_f (tgt := 39) dX9_copy_32 (by decide) (by decide) ?_
            refine Go.ldc_w dX9_copy_35 cnX9_291 ?_
            refine Go.ireturn .int dX9_copy_38 rfl rfl ?_
            exact ⟨rfl, Fr.rf _ _⟩
        · skip
          by_cases c1 : place.toInt < 0
          · skip
            refine OpOK.q (x := (-1000000013)) hS ?_ (fun μ5 k5 => ?_)
            · show Go V (d + 3) mX8_copy 0 [some (vR 0), some (vI (nI f)), some (vI place), some (vI (nI g)), some (vI at_), some (vI many), none, none] [] μ _
              refine Go.iload_n dX8_copy_0 rfl ?_
              refine Go.callSi [vI (nI f)] [] dX8_copy_1 lkX8_227 rfl (Nat.le_of_ble_eq_true rfl) rfl (Nat.le_of_ble_eq_true rfl) (c_isSheet (nI f)) ?_
              refine Go.if_eqb_f (tgt := 14) dX8_copy_4 (by decide) h1 ?_
              refine Go.iload_n dX8_copy_7 rfl ?_
              refine Go.callSi [vI (nI g)] [] dX8_copy_8 lkX8_227 rfl (Nat.le_of_ble_eq_true rfl) rfl (Nat.le_of_ble_eq_true rfl) (c_isSheet (nI g)) ?_
              refine Go.if_neb_t (tgt := 17) dX8_copy_11 (by decide) h2 ?_
              refine Go.at 17 rfl ?_
              refine Go.aload_n dX8_copy_17 rfl ?_
              refine Go.getR dX8_copy_18 flX8_49 rfl ?_
              refine Go.iload_n dX8_copy_21 rfl ?_
              refine Go.aaload (r := 53 + f) f dX8_copy_22 (arSh hf) rfl ?_
              refine Go.astore (ls' := [some (vR 0), some (vI (nI f)), some (vI place), some (vI (nI g)), some (vI at_), some (vI many), some (vR (53 + f)), none]) dX8_copy_23 (by decide) rfl ?_
              refine Go.aload_n dX8_copy_25 rfl ?_
              refine Go.at 26 rfl ?_
              refine Go.getR dX8_copy_26 flX8_49 rfl ?_
              refine Go.iload_n dX8_copy_29 rfl ?_
              refine Go.aaload (r := 53 + g) g dX8_copy_30 (arSh hg) rfl ?_
              refine Go.astore (ls' := [some (vR 0), some (vI (nI f)), some (vI place), some (vI (nI g)), some (vI at_), some (vI many), some (vR (53 + f)), some (vR (53 + g))]) dX8_copy_31 (by decide) rfl ?_
              refine Go.aload dX8_copy_33 rfl ?_
              refine Go.getI dX8_copy_35 flX8_235 (shA hf).1 ?_
              refine Go.topE (y := nI 0) (a1.trans es) ?_
              refine Go.at 38 rfl ?_
              refine Go.iconst (v := (-1)) dX8_copy_38 rfl ?_
              refine Go.icmp_eq_f (tgt := 51) dX8_copy_39 (by decide) (by decide) ?_
              refine Go.aload dX8_copy_42 rfl ?_
              refine Go.getI dX8_copy_44 flX8_235 (shA hg).1 ?_
              refine Go.topE (y := nI 0) (b1.trans et) ?_
              refine Go.iconst (v := (-1)) dX8_copy_47 rfl ?_
              refine Go.icmp_ne_t (tgt := 54) dX8_copy_48 (by decide) (by decide) ?_
              refine Go.at 54 rfl ?_
              refine Go.aload dX8_copy_54 rfl ?_
              refine Go.getI dX8_copy_56 flX8_235 (shA hf).1 ?_
              refine Go.topE (y := nI 0) (a1.trans es) ?_
              refine Go.aload dX8_copy_59 rfl ?_
              refine Go.getI dX8_copy_61 flX8_235 (shA hg).1 ?_
              refine Go.topE (y := nI 0) (b1.trans et) ?_
              refine Go.icmp_eq_t (tgt := 70) dX8_copy_64 (by decide) (by decide) ?_
              refine Go.aload dX8_copy_70 rfl ?_
              refine Go.at 72 rfl ?_
              refine Go.iload_n dX8_copy_72 rfl ?_
              refine Go.iload dX8_copy_73 rfl ?_
              refine Go.callVi (53 + f) [vI place, vI many] [] dX8_copy_75 lkX8_256 (shA hf).2.2.2.2.1 rfl (Nat.le_of_ble_eq_true rfl) rfl (Nat.le_of_ble_eq_true rfl) (c_hasPlaces (shA hf) place many) ?_
              refine Go.if_eqb_t (tgt := 93) dX8_copy_78 (by decide) (by rw [a3, en1, hpl_iff _ _ hn1]; omega) ?_
              refine Go.ldc dX8_copy_93 cnX8_242 ?_
              refine Go.ireturn .int dX8_copy_95 rfl rfl ?_
              exact ⟨rfl, Fr.rf _ _⟩
            · skip
              have e80 : μ5 80 f = nI 0 := (congrFun (k5 80 (by simp only [List.mem_cons, List.not_mem_nil, or_false]; omega)) f).trans es
              have f80 : μ5 80 g = nI 0 := (congrFun (k5 80 (by simp only [List.mem_cons, List.not_mem_nil, or_false]; omega)) g).trans et
              have e81 : μ5 81 f = nI n1 := (congrFun (k5 81 (by simp only [List.mem_cons, List.not_mem_nil, or_false]; omega)) f).trans en1
              have f81 : μ5 81 g = nI n2 := (congrFun (k5 81 (by simp only [List.mem_cons, List.not_mem_nil, or_false]; omega)) g).trans en2
              show Go V (d + 3) mX9_copy 0 [some (vR 76), some (vI (nI f)), some (vI place), some (vI (nI g)), some (vI at_), some (vI many), none] [] μ5 _
              refine Go.iload_n dX9_copy_0 rfl ?_
              refine Go.callSi [vI (nI f)] [] dX9_copy_1 lkX9_285 rfl (Nat.le_of_ble_eq_true rfl) rfl (Nat.le_of_ble_eq_true rfl) (m_isSheet (nI f)) ?_
              refine Go.if_eqb_f (tgt := 14) dX9_copy_4 (by decide) h1 ?_
              refine Go.iload_n dX9_copy_7 rfl ?_
              refine Go.callSi [vI (nI g)] [] dX9_copy_8 lkX9_285 rfl (Nat.le_of_ble_eq_true rfl) rfl (Nat.le_of_ble_eq_true rfl) (m_isSheet (nI g)) ?_
              refine Go.if_neb_t (tgt := 17) dX9_copy_11 (by decide) h2 ?_
              refine Go.at 17 rfl ?_
              refine Go.aload_n dX9_copy_17 rfl ?_
              refine Go.getR dX9_copy_18 flX9_19 rfl ?_
              refine Go.iload_n dX9_copy_21 rfl ?_
              refine Go.iaload f dX9_copy_22 rfl (by omega) rfl ?_
              refine Go.topE (y := nI 0) e80 ?_
              refine Go.if_lt_f (tgt := 35) dX9_copy_23 (by decide) (by decide) ?_
              refine Go.aload_n dX9_copy_26 rfl ?_
              refine Go.at 27 rfl ?_
              refine Go.getR dX9_copy_27 flX9_19 rfl ?_
              refine Go.iload_n dX9_copy_30 rfl ?_
              refine Go.iaload g dX9_copy_31 rfl (by omega) rfl ?_
              refine Go.topE (y := nI 0) f80 ?_
              refine Go.if_ge_t (tgt := 39) dX9_copy_32 (by decide) (by decide) ?_
              refine Go.aload_n dX9_copy_39 rfl ?_
              refine Go.getR dX9_copy_40 flX9_19 rfl ?_
              refine Go.at 43 rfl ?_
              refine Go.iload_n dX9_copy_43 rfl ?_
              refine Go.iaload f dX9_copy_44 rfl (by omega) rfl ?_
              refine Go.topE (y := nI 0) e80 ?_
              refine Go.aload_n dX9_copy_45 rfl ?_
              refine Go.getR dX9_copy_46 flX9_19 rfl ?_
              refine Go.iload_n dX9_copy_49 rfl ?_
              refine Go.iaload g dX9_copy_50 rfl (by omega) rfl ?_
              refine Go.topE (y := nI 0) f80 ?_
              refine Go.at 51 rfl ?_
              refine Go.icmp_eq_t (tgt := 57) dX9_copy_51 (by decide) (by decide) ?_
              refine Go.iload_n dX9_copy_57 rfl ?_
              refine Go.if_lt_t (tgt := 106) dX9_copy_58 (by decide) ((lt0I _).mpr c1) ?_
              refine Go.ldc_w dX9_copy_106 cnX9_292 ?_
              refine Go.ireturn .int dX9_copy_109 rfl rfl ?_
              exact ⟨rfl, Fr.rf _ _⟩
          · skip
            by_cases c2 : at_.toInt < 0
            · skip
              refine OpOK.q (x := (-1000000013)) hS ?_ (fun μ5 k5 => ?_)
              · show Go V (d + 3) mX8_copy 0 [some (vR 0), some (vI (nI f)), some (vI place), some (vI (nI g)), some (vI at_), some (vI many), none, none] [] μ _
                refine Go.iload_n dX8_copy_0 rfl ?_
                refine Go.callSi [vI (nI f)] [] dX8_copy_1 lkX8_227 rfl (Nat.le_of_ble_eq_true rfl) rfl (Nat.le_of_ble_eq_true rfl) (c_isSheet (nI f)) ?_
                refine Go.if_eqb_f (tgt := 14) dX8_copy_4 (by decide) h1 ?_
                refine Go.iload_n dX8_copy_7 rfl ?_
                refine Go.callSi [vI (nI g)] [] dX8_copy_8 lkX8_227 rfl (Nat.le_of_ble_eq_true rfl) rfl (Nat.le_of_ble_eq_true rfl) (c_isSheet (nI g)) ?_
                refine Go.if_neb_t (tgt := 17) dX8_copy_11 (by decide) h2 ?_
                refine Go.at 17 rfl ?_
                refine Go.aload_n dX8_copy_17 rfl ?_
                refine Go.getR dX8_copy_18 flX8_49 rfl ?_
                refine Go.iload_n dX8_copy_21 rfl ?_
                refine Go.aaload (r := 53 + f) f dX8_copy_22 (arSh hf) rfl ?_
                refine Go.astore (ls' := [some (vR 0), some (vI (nI f)), some (vI place), some (vI (nI g)), some (vI at_), some (vI many), some (vR (53 + f)), none]) dX8_copy_23 (by decide) rfl ?_
                refine Go.aload_n dX8_copy_25 rfl ?_
                refine Go.at 26 rfl ?_
                refine Go.getR dX8_copy_26 flX8_49 rfl ?_
                refine Go.iload_n dX8_copy_29 rfl ?_
                refine Go.aaload (r := 53 + g) g dX8_copy_30 (arSh hg) rfl ?_
                refine Go.astore (ls' := [some (vR 0), some (vI (nI f)), some (vI place), some (vI (nI g)), some (vI at_), some (vI many), some (vR (53 + f)), some (vR (53 + g))]) dX8_copy_31 (by decide) rfl ?_
                refine Go.aload dX8_copy_33 rfl ?_
                refine Go.getI dX8_copy_35 flX8_235 (shA hf).1 ?_
                refine Go.topE (y := nI 0) (a1.trans es) ?_
                refine Go.at 38 rfl ?_
                refine Go.iconst (v := (-1)) dX8_copy_38 rfl ?_
                refine Go.icmp_eq_f (tgt := 51) dX8_copy_39 (by decide) (by decide) ?_
                refine Go.aload dX8_copy_42 rfl ?_
                refine Go.getI dX8_copy_44 flX8_235 (shA hg).1 ?_
                refine Go.topE (y := nI 0) (b1.trans et) ?_
                refine Go.iconst (v := (-1)) dX8_copy_47 rfl ?_
                refine Go.icmp_ne_t (tgt := 54) dX8_copy_48 (by decide) (by decide) ?_
                refine Go.at 54 rfl ?_
                refine Go.aload dX8_copy_54 rfl ?_
                refine Go.getI dX8_copy_56 flX8_235 (shA hf).1 ?_
                refine Go.topE (y := nI 0) (a1.trans es) ?_
                refine Go.aload dX8_copy_59 rfl ?_
                refine Go.getI dX8_copy_61 flX8_235 (shA hg).1 ?_
                refine Go.topE (y := nI 0) (b1.trans et) ?_
                refine Go.icmp_eq_t (tgt := 70) dX8_copy_64 (by decide) (by decide) ?_
                refine Go.aload dX8_copy_70 rfl ?_
                refine Go.at 72 rfl ?_
                refine Go.iload_n dX8_copy_72 rfl ?_
                refine Go.iload dX8_copy_73 rfl ?_
                refine Go.callVi (53 + f) [vI place, vI many] [] dX8_copy_75 lkX8_256 (shA hf).2.2.2.2.1 rfl (Nat.le_of_ble_eq_true rfl) rfl (Nat.le_of_ble_eq_true rfl) (c_hasPlaces (shA hf) place many) ?_
                refine Go.if_eqb (tgt := 93) dX8_copy_78 (by decide) (fun h78 => ?_) (fun h78 => ?_)
                · -- 78 taken
                  refine Go.ldc dX8_copy_93 cnX8_242 ?_
                  refine Go.ireturn .int dX8_copy_95 rfl rfl ?_
                  exact ⟨rfl, Fr.rf _ _⟩
                · -- 78 not
                  refine Go.aload dX8_copy_81 rfl ?_
                  refine Go.iload dX8_copy_83 rfl ?_
                  refine Go.iload dX8_copy_85 rfl ?_
                  refine Go.callVi (53 + g) [vI at_, vI many] [] dX8_copy_87 lkX8_256 (shA hg).2.2.2.2.1 rfl (Nat.le_of_ble_eq_true rfl) rfl (Nat.le_of_ble_eq_true rfl) (c_hasPlaces (shA hg) at_ many) ?_
                  refine Go.if_neb_f (tgt := 96) dX8_copy_90 (by decide) (by rw [b3, en2, hpl_iff _ _ hn2]; omega) ?_
                  refine Go.ldc dX8_copy_93 cnX8_242 ?_
                  refine Go.at 95 rfl ?_
                  refine Go.ireturn .int dX8_copy_95 rfl rfl ?_
                  exact ⟨rfl, Fr.rf _ _⟩
              · skip
                have e80 : μ5 80 f = nI 0 := (congrFun (k5 80 (by simp only [List.mem_cons, List.not_mem_nil, or_false]; omega)) f).trans es
                have f80 : μ5 80 g = nI 0 := (congrFun (k5 80 (by simp only [List.mem_cons, List.not_mem_nil, or_false]; omega)) g).trans et
                have e81 : μ5 81 f = nI n1 := (congrFun (k5 81 (by simp only [List.mem_cons, List.not_mem_nil, or_false]; omega)) f).trans en1
                have f81 : μ5 81 g = nI n2 := (congrFun (k5 81 (by simp only [List.mem_cons, List.not_mem_nil, or_false]; omega)) g).trans en2
                show Go V (d + 3) mX9_copy 0 [some (vR 76), some (vI (nI f)), some (vI place), some (vI (nI g)), some (vI at_), some (vI many), none] [] μ5 _
                refine Go.iload_n dX9_copy_0 rfl ?_
                refine Go.callSi [vI (nI f)] [] dX9_copy_1 lkX9_285 rfl (Nat.le_of_ble_eq_true rfl) rfl (Nat.le_of_ble_eq_true rfl) (m_isSheet (nI f)) ?_
                refine Go.if_eqb_f (tgt := 14) dX9_copy_4 (by decide) h1 ?_
                refine Go.iload_n dX9_copy_7 rfl ?_
                refine Go.callSi [vI (nI g)] [] dX9_copy_8 lkX9_285 rfl (Nat.le_of_ble_eq_true rfl) rfl (Nat.le_of_ble_eq_true rfl) (m_isSheet (nI g)) ?_
                refine Go.if_neb_t (tgt := 17) dX9_copy_11 (by decide) h2 ?_
                refine Go.at 17 rfl ?_
                refine Go.aload_n dX9_copy_17 rfl ?_
                refine Go.getR dX9_copy_18 flX9_19 rfl ?_
                refine Go.iload_n dX9_copy_21 rfl ?_
                refine Go.iaload f dX9_copy_22 rfl (by omega) rfl ?_
                refine Go.topE (y := nI 0) e80 ?_
                refine Go.if_lt_f (tgt := 35) dX9_copy_23 (by decide) (by decide) ?_
                refine Go.aload_n dX9_copy_26 rfl ?_
                refine Go.at 27 rfl ?_
                refine Go.getR dX9_copy_27 flX9_19 rfl ?_
                refine Go.iload_n dX9_copy_30 rfl ?_
                refine Go.iaload g dX9_copy_31 rfl (by omega) rfl ?_
                refine Go.topE (y := nI 0) f80 ?_
                refine Go.if_ge_t (tgt := 39) dX9_copy_32 (by decide) (by decide) ?_
                refine Go.aload_n dX9_copy_39 rfl ?_
                refine Go.getR dX9_copy_40 flX9_19 rfl ?_
                refine Go.at 43 rfl ?_
                refine Go.iload_n dX9_copy_43 rfl ?_
                refine Go.iaload f dX9_copy_44 rfl (by omega) rfl ?_
                refine Go.topE (y := nI 0) e80 ?_
                refine Go.aload_n dX9_copy_45 rfl ?_
                refine Go.getR dX9_copy_46 flX9_19 rfl ?_
                refine Go.iload_n dX9_copy_49 rfl ?_
                refine Go.iaload g dX9_copy_50 rfl (by omega) rfl ?_
                refine Go.topE (y := nI 0) f80 ?_
                refine Go.at 51 rfl ?_
                refine Go.icmp_eq_t (tgt := 57) dX9_copy_51 (by decide) (by decide) ?_
                refine Go.iload_n dX9_copy_57 rfl ?_
                refine Go.if_lt_f (tgt := 106) dX9_copy_58 (by decide) (fun z => c1 ((lt0I _).mp z)) ?_
                refine Go.iload dX9_copy_61 rfl ?_
                refine Go.if_lt_t (tgt := 106) dX9_copy_63 (by decide) ((lt0I _).mpr c2) ?_
                refine Go.ldc_w dX9_copy_106 cnX9_292 ?_
                refine Go.at 109 rfl ?_
                refine Go.ireturn .int dX9_copy_109 rfl rfl ?_
                exact ⟨rfl, Fr.rf _ _⟩
            · skip
              by_cases c3 : many.toInt < 0
              · skip
                refine OpOK.q (x := (-1000000013)) hS ?_ (fun μ5 k5 => ?_)
                · show Go V (d + 3) mX8_copy 0 [some (vR 0), some (vI (nI f)), some (vI place), some (vI (nI g)), some (vI at_), some (vI many), none, none] [] μ _
                  refine Go.iload_n dX8_copy_0 rfl ?_
                  refine Go.callSi [vI (nI f)] [] dX8_copy_1 lkX8_227 rfl (Nat.le_of_ble_eq_true rfl) rfl (Nat.le_of_ble_eq_true rfl) (c_isSheet (nI f)) ?_
                  refine Go.if_eqb_f (tgt := 14) dX8_copy_4 (by decide) h1 ?_
                  refine Go.iload_n dX8_copy_7 rfl ?_
                  refine Go.callSi [vI (nI g)] [] dX8_copy_8 lkX8_227 rfl (Nat.le_of_ble_eq_true rfl) rfl (Nat.le_of_ble_eq_true rfl) (c_isSheet (nI g)) ?_
                  refine Go.if_neb_t (tgt := 17) dX8_copy_11 (by decide) h2 ?_
                  refine Go.at 17 rfl ?_
                  refine Go.aload_n dX8_copy_17 rfl ?_
                  refine Go.getR dX8_copy_18 flX8_49 rfl ?_
                  refine Go.iload_n dX8_copy_21 rfl ?_
                  refine Go.aaload (r := 53 + f) f dX8_copy_22 (arSh hf) rfl ?_
                  refine Go.astore (ls' := [some (vR 0), some (vI (nI f)), some (vI place), some (vI (nI g)), some (vI at_), some (vI many), some (vR (53 + f)), none]) dX8_copy_23 (by decide) rfl ?_
                  refine Go.aload_n dX8_copy_25 rfl ?_
                  refine Go.at 26 rfl ?_
                  refine Go.getR dX8_copy_26 flX8_49 rfl ?_
                  refine Go.iload_n dX8_copy_29 rfl ?_
                  refine Go.aaload (r := 53 + g) g dX8_copy_30 (arSh hg) rfl ?_
                  refine Go.astore (ls' := [some (vR 0), some (vI (nI f)), some (vI place), some (vI (nI g)), some (vI at_), some (vI many), some (vR (53 + f)), some (vR (53 + g))]) dX8_copy_31 (by decide) rfl ?_
                  refine Go.aload dX8_copy_33 rfl ?_
                  refine Go.getI dX8_copy_35 flX8_235 (shA hf).1 ?_
                  refine Go.topE (y := nI 0) (a1.trans es) ?_
                  refine Go.at 38 rfl ?_
                  refine Go.iconst (v := (-1)) dX8_copy_38 rfl ?_
                  refine Go.icmp_eq_f (tgt := 51) dX8_copy_39 (by decide) (by decide) ?_
                  refine Go.aload dX8_copy_42 rfl ?_
                  refine Go.getI dX8_copy_44 flX8_235 (shA hg).1 ?_
                  refine Go.topE (y := nI 0) (b1.trans et) ?_
                  refine Go.iconst (v := (-1)) dX8_copy_47 rfl ?_
                  refine Go.icmp_ne_t (tgt := 54) dX8_copy_48 (by decide) (by decide) ?_
                  refine Go.at 54 rfl ?_
                  refine Go.aload dX8_copy_54 rfl ?_
                  refine Go.getI dX8_copy_56 flX8_235 (shA hf).1 ?_
                  refine Go.topE (y := nI 0) (a1.trans es) ?_
                  refine Go.aload dX8_copy_59 rfl ?_
                  refine Go.getI dX8_copy_61 flX8_235 (shA hg).1 ?_
                  refine Go.topE (y := nI 0) (b1.trans et) ?_
                  refine Go.icmp_eq_t (tgt := 70) dX8_copy_64 (by decide) (by decide) ?_
                  refine Go.aload dX8_copy_70 rfl ?_
                  refine Go.at 72 rfl ?_
                  refine Go.iload_n dX8_copy_72 rfl ?_
                  refine Go.iload dX8_copy_73 rfl ?_
                  refine Go.callVi (53 + f) [vI place, vI many] [] dX8_copy_75 lkX8_256 (shA hf).2.2.2.2.1 rfl (Nat.le_of_ble_eq_true rfl) rfl (Nat.le_of_ble_eq_true rfl) (c_hasPlaces (shA hf) place many) ?_
                  refine Go.if_eqb_t (tgt := 93) dX8_copy_78 (by decide) (by rw [a3, en1, hpl_iff _ _ hn1]; omega) ?_
                  refine Go.ldc dX8_copy_93 cnX8_242 ?_
                  refine Go.ireturn .int dX8_copy_95 rfl rfl ?_
                  exact ⟨rfl, Fr.rf _ _⟩
                · skip
                  have e80 : μ5 80 f = nI 0 := (congrFun (k5 80 (by simp only [List.mem_cons, List.not_mem_nil, or_false]; omega)) f).trans es
                  have f80 : μ5 80 g = nI 0 := (congrFun (k5 80 (by simp only [List.mem_cons, List.not_mem_nil, or_false]; omega)) g).trans et
                  have e81 : μ5 81 f = nI n1 := (congrFun (k5 81 (by simp only [List.mem_cons, List.not_mem_nil, or_false]; omega)) f).trans en1
                  have f81 : μ5 81 g = nI n2 := (congrFun (k5 81 (by simp only [List.mem_cons, List.not_mem_nil, or_false]; omega)) g).trans en2
                  show Go V (d + 3) mX9_copy 0 [some (vR 76), some (vI (nI f)), some (vI place), some (vI (nI g)), some (vI at_), some (vI many), none] [] μ5 _
                  refine Go.iload_n dX9_copy_0 rfl ?_
                  refine Go.callSi [vI (nI f)] [] dX9_copy_1 lkX9_285 rfl (Nat.le_of_ble_eq_true rfl) rfl (Nat.le_of_ble_eq_true rfl) (m_isSheet (nI f)) ?_
                  refine Go.if_eqb_f (tgt := 14) dX9_copy_4 (by decide) h1 ?_
                  refine Go.iload_n dX9_copy_7 rfl ?_
                  refine Go.callSi [vI (nI g)] [] dX9_copy_8 lkX9_285 rfl (Nat.le_of_ble_eq_true rfl) rfl (Nat.le_of_ble_eq_true rfl) (m_isSheet (nI g)) ?_
                  refine Go.if_neb_t (tgt := 17) dX9_copy_11 (by decide) h2 ?_
                  refine Go.at 17 rfl ?_
                  refine Go.aload_n dX9_copy_17 rfl ?_
                  refine Go.getR dX9_copy_18 flX9_19 rfl ?_
                  refine Go.iload_n dX9_copy_21 rfl ?_
                  refine Go.iaload f dX9_copy_22 rfl (by omega) rfl ?_
                  refine Go.topE (y := nI 0) e80 ?_
                  refine Go.if_lt_f (tgt := 35) dX9_copy_23 (by decide) (by decide) ?_
                  refine Go.aload_n dX9_copy_26 rfl ?_
                  refine Go.at 27 rfl ?_
                  refine Go.getR dX9_copy_27 flX9_19 rfl ?_
                  refine Go.iload_n dX9_copy_30 rfl ?_
                  refine Go.iaload g dX9_copy_31 rfl (by omega) rfl ?_
                  refine Go.topE (y := nI 0) f80 ?_
                  refine Go.if_ge_t (tgt := 39) dX9_copy_32 (by decide) (by decide) ?_
                  refine Go.aload_n dX9_copy_39 rfl ?_
                  refine Go.getR dX9_copy_40 flX9_19 rfl ?_
                  refine Go.at 43 rfl ?_
                  refine Go.iload_n dX9_copy_43 rfl ?_
                  refine Go.iaload f dX9_copy_44 rfl (by omega) rfl ?_
                  refine Go.topE (y := nI 0) e80 ?_
                  refine Go.aload_n dX9_copy_45 rfl ?_
                  refine Go.getR dX9_copy_46 flX9_19 rfl ?_
                  refine Go.iload_n dX9_copy_49 rfl ?_
                  refine Go.iaload g dX9_copy_50 rfl (by omega) rfl ?_
                  refine Go.topE (y := nI 0) f80 ?_
                  refine Go.at 51 rfl ?_
                  refine Go.icmp_eq_t (tgt := 57) dX9_copy_51 (by decide) (by decide) ?_
                  refine Go.iload_n dX9_copy_57 rfl ?_
                  refine Go.if_lt_f (tgt := 106) dX9_copy_58 (by decide) (fun z => c1 ((lt0I _).mp z)) ?_
                  refine Go.iload dX9_copy_61 rfl ?_
                  refine Go.if_lt_f (tgt := 106) dX9_copy_63 (by decide) (fun z => c2 ((lt0I _).mp z)) ?_
                  refine Go.iload dX9_copy_66 rfl ?_
                  refine Go.at 68 rfl ?_
                  refine Go.if_lt_t (tgt := 106) dX9_copy_68 (by decide) ((lt0I _).mpr c3) ?_
                  refine Go.ldc_w dX9_copy_106 cnX9_292 ?_
                  refine Go.ireturn .int dX9_copy_109 rfl rfl ?_
                  exact ⟨rfl, Fr.rf _ _⟩
              · skip
                by_cases c4 : (n1 : Int) < place.toInt + many.toInt
                · skip
                  refine OpOK.q (x := (-1000000013)) hS ?_ (fun μ5 k5 => ?_)
                  · show Go V (d + 3) mX8_copy 0 [some (vR 0), some (vI (nI f)), some (vI place), some (vI (nI g)), some (vI at_), some (vI many), none, none] [] μ _
                    refine Go.iload_n dX8_copy_0 rfl ?_
                    refine Go.callSi [vI (nI f)] [] dX8_copy_1 lkX8_227 rfl (Nat.le_of_ble_eq_true rfl) rfl (Nat.le_of_ble_eq_true rfl) (c_isSheet (nI f)) ?_
                    refine Go.if_eqb_f (tgt := 14) dX8_copy_4 (by decide) h1 ?_
                    refine Go.iload_n dX8_copy_7 rfl ?_
                    refine Go.callSi [vI (nI g)] [] dX8_copy_8 lkX8_227 rfl (Nat.le_of_ble_eq_true rfl) rfl (Nat.le_of_ble_eq_true rfl) (c_isSheet (nI g)) ?_
                    refine Go.if_neb_t (tgt := 17) dX8_copy_11 (by decide) h2 ?_
                    refine Go.at 17 rfl ?_
                    refine Go.aload_n dX8_copy_17 rfl ?_
                    refine Go.getR dX8_copy_18 flX8_49 rfl ?_
                    refine Go.iload_n dX8_copy_21 rfl ?_
                    refine Go.aaload (r := 53 + f) f dX8_copy_22 (arSh hf) rfl ?_
                    refine Go.astore (ls' := [some (vR 0), some (vI (nI f)), some (vI place), some (vI (nI g)), some (vI at_), some (vI many), some (vR (53 + f)), none]) dX8_copy_23 (by decide) rfl ?_
                    refine Go.aload_n dX8_copy_25 rfl ?_
                    refine Go.at 26 rfl ?_
                    refine Go.getR dX8_copy_26 flX8_49 rfl ?_
                    refine Go.iload_n dX8_copy_29 rfl ?_
                    refine Go.aaload (r := 53 + g) g dX8_copy_30 (arSh hg) rfl ?_
                    refine Go.astore (ls' := [some (vR 0), some (vI (nI f)), some (vI place), some (vI (nI g)), some (vI at_), some (vI many), some (vR (53 + f)), some (vR (53 + g))]) dX8_copy_31 (by decide) rfl ?_
                    refine Go.aload dX8_copy_33 rfl ?_
                    refine Go.getI dX8_copy_35 flX8_235 (shA hf).1 ?_
                    refine Go.topE (y := nI 0) (a1.trans es) ?_
                    refine Go.at 38 rfl ?_
                    refine Go.iconst (v := (-1)) dX8_copy_38 rfl ?_
                    refine Go.icmp_eq_f (tgt := 51) dX8_copy_39 (by decide) (by decide) ?_
                    refine Go.aload dX8_copy_42 rfl ?_
                    refine Go.getI dX8_copy_44 flX8_235 (shA hg).1 ?_
                    refine Go.topE (y := nI 0) (b1.trans et) ?_
                    refine Go.iconst (v := (-1)) dX8_copy_47 rfl ?_
                    refine Go.icmp_ne_t (tgt := 54) dX8_copy_48 (by decide) (by decide) ?_
                    refine Go.at 54 rfl ?_
                    refine Go.aload dX8_copy_54 rfl ?_
                    refine Go.getI dX8_copy_56 flX8_235 (shA hf).1 ?_
                    refine Go.topE (y := nI 0) (a1.trans es) ?_
                    refine Go.aload dX8_copy_59 rfl ?_
                    refine Go.getI dX8_copy_61 flX8_235 (shA hg).1 ?_
                    refine Go.topE (y := nI 0) (b1.trans et) ?_
                    refine Go.icmp_eq_t (tgt := 70) dX8_copy_64 (by decide) (by decide) ?_
                    refine Go.aload dX8_copy_70 rfl ?_
                    refine Go.at 72 rfl ?_
                    refine Go.iload_n dX8_copy_72 rfl ?_
                    refine Go.iload dX8_copy_73 rfl ?_
                    refine Go.callVi (53 + f) [vI place, vI many] [] dX8_copy_75 lkX8_256 (shA hf).2.2.2.2.1 rfl (Nat.le_of_ble_eq_true rfl) rfl (Nat.le_of_ble_eq_true rfl) (c_hasPlaces (shA hf) place many) ?_
                    refine Go.if_eqb_t (tgt := 93) dX8_copy_78 (by decide) (by rw [a3, en1, hpl_iff _ _ hn1]; omega) ?_
                    refine Go.ldc dX8_copy_93 cnX8_242 ?_
                    refine Go.ireturn .int dX8_copy_95 rfl rfl ?_
                    exact ⟨rfl, Fr.rf _ _⟩
                  · skip
                    have e80 : μ5 80 f = nI 0 := (congrFun (k5 80 (by simp only [List.mem_cons, List.not_mem_nil, or_false]; omega)) f).trans es
                    have f80 : μ5 80 g = nI 0 := (congrFun (k5 80 (by simp only [List.mem_cons, List.not_mem_nil, or_false]; omega)) g).trans et
                    have e81 : μ5 81 f = nI n1 := (congrFun (k5 81 (by simp only [List.mem_cons, List.not_mem_nil, or_false]; omega)) f).trans en1
                    have f81 : μ5 81 g = nI n2 := (congrFun (k5 81 (by simp only [List.mem_cons, List.not_mem_nil, or_false]; omega)) g).trans en2
                    show Go V (d + 3) mX9_copy 0 [some (vR 76), some (vI (nI f)), some (vI place), some (vI (nI g)), some (vI at_), some (vI many), none] [] μ5 _
                    refine Go.iload_n dX9_copy_0 rfl ?_
                    refine Go.callSi [vI (nI f)] [] dX9_copy_1 lkX9_285 rfl (Nat.le_of_ble_eq_true rfl) rfl (Nat.le_of_ble_eq_true rfl) (m_isSheet (nI f)) ?_
                    refine Go.if_eqb_f (tgt := 14) dX9_copy_4 (by decide) h1 ?_
                    refine Go.iload_n dX9_copy_7 rfl ?_
                    refine Go.callSi [vI (nI g)] [] dX9_copy_8 lkX9_285 rfl (Nat.le_of_ble_eq_true rfl) rfl (Nat.le_of_ble_eq_true rfl) (m_isSheet (nI g)) ?_
                    refine Go.if_neb_t (tgt := 17) dX9_copy_11 (by decide) h2 ?_
                    refine Go.at 17 rfl ?_
                    refine Go.aload_n dX9_copy_17 rfl ?_
                    refine Go.getR dX9_copy_18 flX9_19 rfl ?_
                    refine Go.iload_n dX9_copy_21 rfl ?_
                    refine Go.iaload f dX9_copy_22 rfl (by omega) rfl ?_
                    refine Go.topE (y := nI 0) e80 ?_
                    refine Go.if_lt_f (tgt := 35) dX9_copy_23 (by decide) (by decide) ?_
                    refine Go.aload_n dX9_copy_26 rfl ?_
                    refine Go.at 27 rfl ?_
                    refine Go.getR dX9_copy_27 flX9_19 rfl ?_
                    refine Go.iload_n dX9_copy_30 rfl ?_
                    refine Go.iaload g dX9_copy_31 rfl (by omega) rfl ?_
                    refine Go.topE (y := nI 0) f80 ?_
                    refine Go.if_ge_t (tgt := 39) dX9_copy_32 (by decide) (by decide) ?_
                    refine Go.aload_n dX9_copy_39 rfl ?_
                    refine Go.getR dX9_copy_40 flX9_19 rfl ?_
                    refine Go.at 43 rfl ?_
                    refine Go.iload_n dX9_copy_43 rfl ?_
                    refine Go.iaload f dX9_copy_44 rfl (by omega) rfl ?_
                    refine Go.topE (y := nI 0) e80 ?_
                    refine Go.aload_n dX9_copy_45 rfl ?_
                    refine Go.getR dX9_copy_46 flX9_19 rfl ?_
                    refine Go.iload_n dX9_copy_49 rfl ?_
                    refine Go.iaload g dX9_copy_50 rfl (by omega) rfl ?_
                    refine Go.topE (y := nI 0) f80 ?_
                    refine Go.at 51 rfl ?_
                    refine Go.icmp_eq_t (tgt := 57) dX9_copy_51 (by decide) (by decide) ?_
                    refine Go.iload_n dX9_copy_57 rfl ?_
                    refine Go.if_lt_f (tgt := 106) dX9_copy_58 (by decide) (fun z => c1 ((lt0I _).mp z)) ?_
                    refine Go.iload dX9_copy_61 rfl ?_
                    refine Go.if_lt_f (tgt := 106) dX9_copy_63 (by decide) (fun z => c2 ((lt0I _).mp z)) ?_
                    refine Go.iload dX9_copy_66 rfl ?_
                    refine Go.at 68 rfl ?_
                    refine Go.if_lt_f (tgt := 106) dX9_copy_68 (by decide) (fun z => c3 ((lt0I _).mp z)) ?_
                    refine Go.iload_n dX9_copy_71 rfl ?_
                    refine Go.i2l dX9_copy_72 ?_
                    refine Go.iload dX9_copy_73 rfl ?_
                    refine Go.i2l dX9_copy_75 ?_
                    refine Go.ladd dX9_copy_76 ?_
                    refine Go.at 77 rfl ?_
                    refine Go.aload_n dX9_copy_77 rfl ?_
                    refine Go.getR dX9_copy_78 flX9_22 rfl ?_
                    refine Go.iload_n dX9_copy_81 rfl ?_
                    refine Go.iaload f dX9_copy_82 rfl (by omega) rfl ?_
                    refine Go.topE (y := nI n1) e81 ?_
                    refine Go.i2l dX9_copy_83 ?_
                    refine Go.lcmp dX9_copy_84 ?_
                    refine Go.at 85 rfl ?_
                    refine Go.if_gt_t (tgt := 106) dX9_copy_85 (by decide) (by rw [lgc_gt, i64_add, Int32.toInt_toInt64, nT24 hn1]; omega) ?_
                    refine Go.ldc_w dX9_copy_106 cnX9_292 ?_
                    refine Go.ireturn .int dX9_copy_109 rfl rfl ?_
                    exact ⟨rfl, Fr.rf _ _⟩
                · skip
                  by_cases c5 : (n2 : Int) < at_.toInt + many.toInt
                  · skip
                    refine OpOK.q (x := (-1000000013)) hS ?_ (fun μ5 k5 => ?_)
                    · show Go V (d + 3) mX8_copy 0 [some (vR 0), some (vI (nI f)), some (vI place), some (vI (nI g)), some (vI at_), some (vI many), none, none] [] μ _
                      refine Go.iload_n dX8_copy_0 rfl ?_
                      refine Go.callSi [vI (nI f)] [] dX8_copy_1 lkX8_227 rfl (Nat.le_of_ble_eq_true rfl) rfl (Nat.le_of_ble_eq_true rfl) (c_isSheet (nI f)) ?_
                      refine Go.if_eqb_f (tgt := 14) dX8_copy_4 (by decide) h1 ?_
                      refine Go.iload_n dX8_copy_7 rfl ?_
                      refine Go.callSi [vI (nI g)] [] dX8_copy_8 lkX8_227 rfl (Nat.le_of_ble_eq_true rfl) rfl (Nat.le_of_ble_eq_true rfl) (c_isSheet (nI g)) ?_
                      refine Go.if_neb_t (tgt := 17) dX8_copy_11 (by decide) h2 ?_
                      refine Go.at 17 rfl ?_
                      refine Go.aload_n dX8_copy_17 rfl ?_
                      refine Go.getR dX8_copy_18 flX8_49 rfl ?_
                      refine Go.iload_n dX8_copy_21 rfl ?_
                      refine Go.aaload (r := 53 + f) f dX8_copy_22 (arSh hf) rfl ?_
                      refine Go.astore (ls' := [some (vR 0), some (vI (nI f)), some (vI place), some (vI (nI g)), some (vI at_), some (vI many), some (vR (53 + f)), none]) dX8_copy_23 (by decide) rfl ?_
                      refine Go.aload_n dX8_copy_25 rfl ?_
                      refine Go.at 26 rfl ?_
                      refine Go.getR dX8_copy_26 flX8_49 rfl ?_
                      refine Go.iload_n dX8_copy_29 rfl ?_
                      refine Go.aaload (r := 53 + g) g dX8_copy_30 (arSh hg) rfl ?_
                      refine Go.astore (ls' := [some (vR 0), some (vI (nI f)), some (vI place), some (vI (nI g)), some (vI at_), some (vI many), some (vR (53 + f)), some (vR (53 + g))]) dX8_copy_31 (by decide) rfl ?_
                      refine Go.aload dX8_copy_33 rfl ?_
                      refine Go.getI dX8_copy_35 flX8_235 (shA hf).1 ?_
                      refine Go.topE (y := nI 0) (a1.trans es) ?_
                      refine Go.at 38 rfl ?_
                      refine Go.iconst (v := (-1)) dX8_copy_38 rfl ?_
                      refine Go.icmp_eq_f (tgt := 51) dX8_copy_39 (by decide) (by decide) ?_
                      refine Go.aload dX8_copy_42 rfl ?_
                      refine Go.getI dX8_copy_44 flX8_235 (shA hg).1 ?_
                      refine Go.topE (y := nI 0) (b1.trans et) ?_
                      refine Go.iconst (v := (-1)) dX8_copy_47 rfl ?_
                      refine Go.icmp_ne_t (tgt := 54) dX8_copy_48 (by decide) (by decide) ?_
                      refine Go.at 54 rfl ?_
                      refine Go.aload dX8_copy_54 rfl ?_
                      refine Go.getI dX8_copy_56 flX8_235 (shA hf).1 ?_
                      refine Go.topE (y := nI 0) (a1.trans es) ?_
                      refine Go.aload dX8_copy_59 rfl ?_
                      refine Go.getI dX8_copy_61 flX8_235 (shA hg).1 ?_
                      refine Go.topE (y := nI 0) (b1.trans et) ?_
                      refine Go.icmp_eq_t (tgt := 70) dX8_copy_64 (by decide) (by decide) ?_
                      refine Go.aload dX8_copy_70 rfl ?_
                      refine Go.at 72 rfl ?_
                      refine Go.iload_n dX8_copy_72 rfl ?_
                      refine Go.iload dX8_copy_73 rfl ?_
                      refine Go.callVi (53 + f) [vI place, vI many] [] dX8_copy_75 lkX8_256 (shA hf).2.2.2.2.1 rfl (Nat.le_of_ble_eq_true rfl) rfl (Nat.le_of_ble_eq_true rfl) (c_hasPlaces (shA hf) place many) ?_
                      refine Go.if_eqb (tgt := 93) dX8_copy_78 (by decide) (fun h78 => ?_) (fun h78 => ?_)
                      · -- 78 taken
                        refine Go.ldc dX8_copy_93 cnX8_242 ?_
                        refine Go.ireturn .int dX8_copy_95 rfl rfl ?_
                        exact ⟨rfl, Fr.rf _ _⟩
                      · -- 78 not
                        refine Go.aload dX8_copy_81 rfl ?_
                        refine Go.iload dX8_copy_83 rfl ?_
                        refine Go.iload dX8_copy_85 rfl ?_
                        refine Go.callVi (53 + g) [vI at_, vI many] [] dX8_copy_87 lkX8_256 (shA hg).2.2.2.2.1 rfl (Nat.le_of_ble_eq_true rfl) rfl (Nat.le_of_ble_eq_true rfl) (c_hasPlaces (shA hg) at_ many) ?_
                        refine Go.if_neb_f (tgt := 96) dX8_copy_90 (by decide) (by rw [b3, en2, hpl_iff _ _ hn2]; omega) ?_
                        refine Go.ldc dX8_copy_93 cnX8_242 ?_
                        refine Go.at 95 rfl ?_
                        refine Go.ireturn .int dX8_copy_95 rfl rfl ?_
                        exact ⟨rfl, Fr.rf _ _⟩
                    · skip
                      have e80 : μ5 80 f = nI 0 := (congrFun (k5 80 (by simp only [List.mem_cons, List.not_mem_nil, or_false]; omega)) f).trans es
                      have f80 : μ5 80 g = nI 0 := (congrFun (k5 80 (by simp only [List.mem_cons, List.not_mem_nil, or_false]; omega)) g).trans et
                      have e81 : μ5 81 f = nI n1 := (congrFun (k5 81 (by simp only [List.mem_cons, List.not_mem_nil, or_false]; omega)) f).trans en1
                      have f81 : μ5 81 g = nI n2 := (congrFun (k5 81 (by simp only [List.mem_cons, List.not_mem_nil, or_false]; omega)) g).trans en2
                      show Go V (d + 3) mX9_copy 0 [some (vR 76), some (vI (nI f)), some (vI place), some (vI (nI g)), some (vI at_), some (vI many), none] [] μ5 _
                      refine Go.iload_n dX9_copy_0 rfl ?_
                      refine Go.callSi [vI (nI f)] [] dX9_copy_1 lkX9_285 rfl (Nat.le_of_ble_eq_true rfl) rfl (Nat.le_of_ble_eq_true rfl) (m_isSheet (nI f)) ?_
                      refine Go.if_eqb_f (tgt := 14) dX9_copy_4 (by decide) h1 ?_
                      refine Go.iload_n dX9_copy_7 rfl ?_
                      refine Go.callSi [vI (nI g)] [] dX9_copy_8 lkX9_285 rfl (Nat.le_of_ble_eq_true rfl) rfl (Nat.le_of_ble_eq_true rfl) (m_isSheet (nI g)) ?_
                      refine Go.if_neb_t (tgt := 17) dX9_copy_11 (by decide) h2 ?_
                      refine Go.at 17 rfl ?_
                      refine Go.aload_n dX9_copy_17 rfl ?_
                      refine Go.getR dX9_copy_18 flX9_19 rfl ?_
                      refine Go.iload_n dX9_copy_21 rfl ?_
                      refine Go.iaload f dX9_copy_22 rfl (by omega) rfl ?_
                      refine Go.topE (y := nI 0) e80 ?_
                      refine Go.if_lt_f (tgt := 35) dX9_copy_23 (by decide) (by decide) ?_
                      refine Go.aload_n dX9_copy_26 rfl ?_
                      refine Go.at 27 rfl ?_
                      refine Go.getR dX9_copy_27 flX9_19 rfl ?_
                      refine Go.iload_n dX9_copy_30 rfl ?_
                      refine Go.iaload g dX9_copy_31 rfl (by omega) rfl ?_
                      refine Go.topE (y := nI 0) f80 ?_
                      refine Go.if_ge_t (tgt := 39) dX9_copy_32 (by decide) (by decide) ?_
                      refine Go.aload_n dX9_copy_39 rfl ?_
                      refine Go.getR dX9_copy_40 flX9_19 rfl ?_
                      refine Go.at 43 rfl ?_
                      refine Go.iload_n dX9_copy_43 rfl ?_
                      refine Go.iaload f dX9_copy_44 rfl (by omega) rfl ?_
                      refine Go.topE (y := nI 0) e80 ?_
                      refine Go.aload_n dX9_copy_45 rfl ?_
                      refine Go.getR dX9_copy_46 flX9_19 rfl ?_
                      refine Go.iload_n dX9_copy_49 rfl ?_
                      refine Go.iaload g dX9_copy_50 rfl (by omega) rfl ?_
                      refine Go.topE (y := nI 0) f80 ?_
                      refine Go.at 51 rfl ?_
                      refine Go.icmp_eq_t (tgt := 57) dX9_copy_51 (by decide) (by decide) ?_
                      refine Go.iload_n dX9_copy_57 rfl ?_
                      refine Go.if_lt_f (tgt := 106) dX9_copy_58 (by decide) (fun z => c1 ((lt0I _).mp z)) ?_
                      refine Go.iload dX9_copy_61 rfl ?_
                      refine Go.if_lt_f (tgt := 106) dX9_copy_63 (by decide) (fun z => c2 ((lt0I _).mp z)) ?_
                      refine Go.iload dX9_copy_66 rfl ?_
                      refine Go.at 68 rfl ?_
                      refine Go.if_lt_f (tgt := 106) dX9_copy_68 (by decide) (fun z => c3 ((lt0I _).mp z)) ?_
                      refine Go.iload_n dX9_copy_71 rfl ?_
                      refine Go.i2l dX9_copy_72 ?_
                      refine Go.iload dX9_copy_73 rfl ?_
                      refine Go.i2l dX9_copy_75 ?_
                      refine Go.ladd dX9_copy_76 ?_
                      refine Go.at 77 rfl ?_
                      refine Go.aload_n dX9_copy_77 rfl ?_
                      refine Go.getR dX9_copy_78 flX9_22 rfl ?_
                      refine Go.iload_n dX9_copy_81 rfl ?_
                      refine Go.iaload f dX9_copy_82 rfl (by omega) rfl ?_
                      refine Go.topE (y := nI n1) e81 ?_
                      refine Go.i2l dX9_copy_83 ?_
                      refine Go.lcmp dX9_copy_84 ?_
                      refine Go.at 85 rfl ?_
                      refine Go.if_gt_f (tgt := 106) dX9_copy_85 (by decide) (by rw [lgc_gt, i64_add, Int32.toInt_toInt64, nT24 hn1]; omega) ?_
                      refine Go.iload dX9_copy_88 rfl ?_
                      refine Go.i2l dX9_copy_90 ?_
                      refine Go.iload dX9_copy_91 rfl ?_
                      refine Go.i2l dX9_copy_93 ?_
                      refine Go.ladd dX9_copy_94 ?_
                      refine Go.at 95 rfl ?_
                      refine Go.aload_n dX9_copy_95 rfl ?_
                      refine Go.getR dX9_copy_96 flX9_22 rfl ?_
                      refine Go.iload_n dX9_copy_99 rfl ?_
                      refine Go.iaload g dX9_copy_100 rfl (by omega) rfl ?_
                      refine Go.topE (y := nI n2) f81 ?_
                      refine Go.i2l dX9_copy_101 ?_
                      refine Go.lcmp dX9_copy_102 ?_
                      refine Go.at 103 rfl ?_
                      refine Go.if_le_f (tgt := 110) dX9_copy_103 (by decide) (by rw [lgc_le, i64_add, Int32.toInt_toInt64, nT24 hn2]; omega) ?_
                      refine Go.ldc_w dX9_copy_106 cnX9_292 ?_
                      refine Go.ireturn .int dX9_copy_109 rfl rfl ?_
                      exact ⟨rfl, Fr.rf _ _⟩
                  · skip
                    obtain ⟨p, hp0, rfl⟩ := natI (x := place) (N := 24) (by omega) (by omega) (by decide)
                    obtain ⟨a, ha0, rfl⟩ := natI (x := at_) (N := 24) (by omega) (by omega) (by decide)
                    obtain ⟨n, hn0, rfl⟩ := natI (x := many) (N := 24) (by omega) (by omega) (by decide)
                    have hpn : p + n ≤ n1 := by rw [nT24 hp0, nT24 hn0] at c4; omega
                    have han : a + n ≤ n2 := by rw [nT24 ha0, nT24 hn0] at c5; omega
                    refine OpOK.of (x := nI n) (P := fun μ1 => Fr [57 + g] μ μ1 ∧ μ1 (57 + g) = va_cpy (μ (57 + f)) (μ (57 + g)) p a n) ?_ (fun μ5 k5 => ?_)
                    · show Go V (d + 3) mX8_copy 0 [some (vR 0), some (vI (nI f)), some (vI (nI p)), some (vI (nI g)), some (vI (nI a)), some (vI (nI n)), none, none] [] μ _
                      refine Go.iload_n dX8_copy_0 rfl ?_
                      refine Go.callSi [vI (nI f)] [] dX8_copy_1 lkX8_227 rfl (Nat.le_of_ble_eq_true rfl) rfl (Nat.le_of_ble_eq_true rfl) (c_isSheet (nI f)) ?_
                      refine Go.if_eqb_f (tgt := 14) dX8_copy_4 (by decide) h1 ?_
                      refine Go.iload_n dX8_copy_7 rfl ?_
                      refine Go.callSi [vI (nI g)] [] dX8_copy_8 lkX8_227 rfl (Nat.le_of_ble_eq_true rfl) rfl (Nat.le_of_ble_eq_true rfl) (c_isSheet (nI g)) ?_
                      refine Go.if_neb_t (tgt := 17) dX8_copy_11 (by decide) h2 ?_
                      refine Go.at 17 rfl ?_
                      refine Go.aload_n dX8_copy_17 rfl ?_
                      refine Go.getR dX8_copy_18 flX8_49 rfl ?_
                      refine Go.iload_n dX8_copy_21 rfl ?_
                      refine Go.aaload (r := 53 + f) f dX8_copy_22 (arSh hf) rfl ?_
                      refine Go.astore (ls' := [some (vR 0), some (vI (nI f)), some (vI (nI p)), some (vI (nI g)), some (vI (nI a)), some (vI (nI n)), some (vR (53 + f)), none]) dX8_copy_23 (by decide) rfl ?_
                      refine Go.aload_n dX8_copy_25 rfl ?_
                      refine Go.at 26 rfl ?_
                      refine Go.getR dX8_copy_26 flX8_49 rfl ?_
                      refine Go.iload_n dX8_copy_29 rfl ?_
                      refine Go.aaload (r := 53 + g) g dX8_copy_30 (arSh hg) rfl ?_
                      refine Go.astore (ls' := [some (vR 0), some (vI (nI f)), some (vI (nI p)), some (vI (nI g)), some (vI (nI a)), some (vI (nI n)), some (vR (53 + f)), some (vR (53 + g))]) dX8_copy_31 (by decide) rfl ?_
                      refine Go.aload dX8_copy_33 rfl ?_
                      refine Go.getI dX8_copy_35 flX8_235 (shA hf).1 ?_
                      refine Go.topE (y := nI 0) (a1.trans es) ?_
                      refine Go.at 38 rfl ?_
                      refine Go.iconst (v := (-1)) dX8_copy_38 rfl ?_
                      refine Go.icmp_eq_f (tgt := 51) dX8_copy_39 (by decide) (by decide) ?_
                      refine Go.aload dX8_copy_42 rfl ?_
                      refine Go.getI dX8_copy_44 flX8_235 (shA hg).1 ?_
                      refine Go.topE (y := nI 0) (b1.trans et) ?_
                      refine Go.iconst (v := (-1)) dX8_copy_47 rfl ?_
                      refine Go.icmp_ne_t (tgt := 54) dX8_copy_48 (by decide) (by decide) ?_
                      refine Go.at 54 rfl ?_
                      refine Go.aload dX8_copy_54 rfl ?_
                      refine Go.getI dX8_copy_56 flX8_235 (shA hf).1 ?_
                      refine Go.topE (y := nI 0) (a1.trans es) ?_
                      refine Go.aload dX8_copy_59 rfl ?_
                      refine Go.getI dX8_copy_61 flX8_235 (shA hg).1 ?_
                      refine Go.topE (y := nI 0) (b1.trans et) ?_
                      refine Go.icmp_eq_t (tgt := 70) dX8_copy_64 (by decide) (by decide) ?_
                      refine Go.aload dX8_copy_70 rfl ?_
                      refine Go.at 72 rfl ?_
                      refine Go.iload_n dX8_copy_72 rfl ?_
                      refine Go.iload dX8_copy_73 rfl ?_
                      refine Go.callVi (53 + f) [vI (nI p), vI (nI n)] [] dX8_copy_75 lkX8_256 (shA hf).2.2.2.2.1 rfl (Nat.le_of_ble_eq_true rfl) rfl (Nat.le_of_ble_eq_true rfl) (c_hasPlaces (shA hf) (nI p) (nI n)) ?_
                      refine Go.if_eqb_f (tgt := 93) dX8_copy_78 (by decide) (by rw [a3, en1, hpl_iff _ _ hn1]; omega) ?_
                      refine Go.aload dX8_copy_81 rfl ?_
                      refine Go.iload dX8_copy_83 rfl ?_
                      refine Go.at 85 rfl ?_
                      refine Go.iload dX8_copy_85 rfl ?_
                      refine Go.callVi (53 + g) [vI (nI a), vI (nI n)] [] dX8_copy_87 lkX8_256 (shA hg).2.2.2.2.1 rfl (Nat.le_of_ble_eq_true rfl) rfl (Nat.le_of_ble_eq_true rfl) (c_hasPlaces (shA hg) (nI a) (nI n)) ?_
                      refine Go.if_neb_t (tgt := 96) dX8_copy_90 (by decide) (by rw [b3, en2, hpl_iff _ _ hn2]; omega) ?_
                      refine Go.aload dX8_copy_96 rfl ?_
                      refine Go.getR dX8_copy_98 flX8_243 (shA hf).2.2.1 ?_
                      refine Go.iload_n dX8_copy_101 rfl ?_
                      refine Go.at 102 rfl ?_
                      refine Go.aload dX8_copy_102 rfl ?_
                      refine Go.getR dX8_copy_104 flX8_243 (shA hg).2.2.1 ?_
                      refine Go.iload dX8_copy_107 rfl ?_
                      refine Go.iload dX8_copy_109 rfl ?_
                      refine Go.copyi p a n dX8_copy_111 acX8 (shA hf).2.2.2.1 (shA hg).2.2.2.1 rfl rfl rfl (by omega) (by omega) (by exact Nat.le_of_ble_eq_true rfl) ?_
                      refine Go.iload dX8_copy_114 rfl ?_
                      refine Go.at 116 rfl ?_
                      refine Go.ireturn .int dX8_copy_116 rfl rfl ?_
                      exact ⟨rfl, (Fr.rf _ _).mw _ (by simp), mw_self _ _ _⟩
                    · skip
                      have e80 : μ5 80 f = nI 0 := (congrFun (k5.1 80 (by simp only [List.mem_cons, List.not_mem_nil, or_false]; omega)) f).trans es
                      have f80 : μ5 80 g = nI 0 := (congrFun (k5.1 80 (by simp only [List.mem_cons, List.not_mem_nil, or_false]; omega)) g).trans et
                      have e81 : μ5 81 f = nI n1 := (congrFun (k5.1 81 (by simp only [List.mem_cons, List.not_mem_nil, or_false]; omega)) f).trans en1
                      have f81 : μ5 81 g = nI n2 := (congrFun (k5.1 81 (by simp only [List.mem_cons, List.not_mem_nil, or_false]; omega)) g).trans en2
                      show Go V (d + 3) mX9_copy 0 [some (vR 76), some (vI (nI f)), some (vI (nI p)), some (vI (nI g)), some (vI (nI a)), some (vI (nI n)), none] [] μ5 _
                      refine Go.iload_n dX9_copy_0 rfl ?_
                      refine Go.callSi [vI (nI f)] [] dX9_copy_1 lkX9_285 rfl (Nat.le_of_ble_eq_true rfl) rfl (Nat.le_of_ble_eq_true rfl) (m_isSheet (nI f)) ?_
                      refine Go.if_eqb_f (tgt := 14) dX9_copy_4 (by decide) h1 ?_
                      refine Go.iload_n dX9_copy_7 rfl ?_
                      refine Go.callSi [vI (nI g)] [] dX9_copy_8 lkX9_285 rfl (Nat.le_of_ble_eq_true rfl) rfl (Nat.le_of_ble_eq_true rfl) (m_isSheet (nI g)) ?_
                      refine Go.if_neb_t (tgt := 17) dX9_copy_11 (by decide) h2 ?_
                      refine Go.at 17 rfl ?_
                      refine Go.aload_n dX9_copy_17 rfl ?_
                      refine Go.getR dX9_copy_18 flX9_19 rfl ?_
                      refine Go.iload_n dX9_copy_21 rfl ?_
                      refine Go.iaload f dX9_copy_22 rfl (by omega) rfl ?_
                      refine Go.topE (y := nI 0) e80 ?_
                      refine Go.if_lt_f (tgt := 35) dX9_copy_23 (by decide) (by decide) ?_
                      refine Go.aload_n dX9_copy_26 rfl ?_
                      refine Go.at 27 rfl ?_
                      refine Go.getR dX9_copy_27 flX9_19 rfl ?_
                      refine Go.iload_n dX9_copy_30 rfl ?_
                      refine Go.iaload g dX9_copy_31 rfl (by omega) rfl ?_
                      refine Go.topE (y := nI 0) f80 ?_
                      refine Go.if_ge_t (tgt := 39) dX9_copy_32 (by decide) (by decide) ?_
                      refine Go.aload_n dX9_copy_39 rfl ?_
                      refine Go.getR dX9_copy_40 flX9_19 rfl ?_
                      refine Go.at 43 rfl ?_
                      refine Go.iload_n dX9_copy_43 rfl ?_
                      refine Go.iaload f dX9_copy_44 rfl (by omega) rfl ?_
                      refine Go.topE (y := nI 0) e80 ?_
                      refine Go.aload_n dX9_copy_45 rfl ?_
                      refine Go.getR dX9_copy_46 flX9_19 rfl ?_
                      refine Go.iload_n dX9_copy_49 rfl ?_
                      refine Go.iaload g dX9_copy_50 rfl (by omega) rfl ?_
                      refine Go.topE (y := nI 0) f80 ?_
                      refine Go.at 51 rfl ?_
                      refine Go.icmp_eq_t (tgt := 57) dX9_copy_51 (by decide) (by decide) ?_
                      refine Go.iload_n dX9_copy_57 rfl ?_
                      refine Go.if_lt_f (tgt := 106) dX9_copy_58 (by decide) (fun z => c1 ((lt0I _).mp z)) ?_
                      refine Go.iload dX9_copy_61 rfl ?_
                      refine Go.if_lt_f (tgt := 106) dX9_copy_63 (by decide) (fun z => c2 ((lt0I _).mp z)) ?_
                      refine Go.iload dX9_copy_66 rfl ?_
                      refine Go.at 68 rfl ?_
                      refine Go.if_lt_f (tgt := 106) dX9_copy_68 (by decide) (fun z => c3 ((lt0I _).mp z)) ?_
                      refine Go.iload_n dX9_copy_71 rfl ?_
                      refine Go.i2l dX9_copy_72 ?_
                      refine Go.iload dX9_copy_73 rfl ?_
                      refine Go.i2l dX9_copy_75 ?_
                      refine Go.ladd dX9_copy_76 ?_
                      refine Go.at 77 rfl ?_
                      refine Go.aload_n dX9_copy_77 rfl ?_
                      refine Go.getR dX9_copy_78 flX9_22 rfl ?_
                      refine Go.iload_n dX9_copy_81 rfl ?_
                      refine Go.iaload f dX9_copy_82 rfl (by omega) rfl ?_
                      refine Go.topE (y := nI n1) e81 ?_
                      refine Go.i2l dX9_copy_83 ?_
                      refine Go.lcmp dX9_copy_84 ?_
                      refine Go.at 85 rfl ?_
                      refine Go.if_gt_f (tgt := 106) dX9_copy_85 (by decide) (by rw [lgc_gt, i64_add, Int32.toInt_toInt64, nT24 hn1]; omega) ?_
                      refine Go.iload dX9_copy_88 rfl ?_
                      refine Go.i2l dX9_copy_90 ?_
                      refine Go.iload dX9_copy_91 rfl ?_
                      refine Go.i2l dX9_copy_93 ?_
                      refine Go.ladd dX9_copy_94 ?_
                      refine Go.at 95 rfl ?_
                      refine Go.aload_n dX9_copy_95 rfl ?_
                      refine Go.getR dX9_copy_96 flX9_22 rfl ?_
                      refine Go.iload_n dX9_copy_99 rfl ?_
                      refine Go.iaload g dX9_copy_100 rfl (by omega) rfl ?_
                      refine Go.topE (y := nI n2) f81 ?_
                      refine Go.i2l dX9_copy_101 ?_
                      refine Go.lcmp dX9_copy_102 ?_
                      refine Go.at 103 rfl ?_
                      refine Go.if_le_t (tgt := 110) dX9_copy_103 (by decide) (by rw [lgc_le, i64_add, Int32.toInt_toInt64, nT24 hn2]; omega) ?_
                      refine Go.iconst (v := nI 0) dX9_copy_110 rfl ?_
                      refine Go.istore (ls' := [some (vR 76), some (vI (nI f)), some (vI (nI p)), some (vI (nI g)), some (vI (nI a)), some (vI (nI n)), some (vI (nI 0))]) dX9_copy_111 (by decide) rfl ?_
                      refine m_copy1 hf hg (by omega) (by omega) (fun μ7 i7 => ?_) n 0 _ (by omega) ⟨Fr.rf _ _, fun t ht => absurd ht (by omega)⟩
                      refine Go.iconst (v := nI 0) dX9_copy_147 rfl ?_
                      refine Go.istore (ls' := [some (vR 76), some (vI (nI f)), some (vI (nI p)), some (vI (nI g)), some (vI (nI a)), some (vI (nI n)), some (vI (nI 0))]) dX9_copy_148 (by decide) rfl ?_
                      refine m_copy2 hf hg (by omega) (by omega) (fun μ8 i8 => ?_) n 0 _ (by omega) ⟨Fr.rf _ _, fun t ht => absurd ht (by omega), fun z _ => rfl⟩
                      refine Go.iload dX9_copy_185 rfl ?_
                      refine Go.ireturn .int dX9_copy_187 rfl rfl ?_
                      have kf : ∀ o, o ≠ 57 + g → o ≠ 82 → o ≠ 92 → μ8 o = μ o := fun o g1 g2 g3 => by
                        rw [i8.1 o (by simp only [List.mem_cons, List.not_mem_nil, or_false]; exact g2), i7.1 o (by simp only [List.mem_cons, List.not_mem_nil, or_false]; exact g3), k5.1 o (by simp only [List.mem_cons, List.not_mem_nil, or_false]; exact g1)]
                      have e7 : μ7 82 = μ 82 := by rw [i7.1 82 (by decide), k5.1 82 (by simp only [List.mem_cons, List.not_mem_nil, or_false]; omega)]
                      have e5 : μ5 82 = μ 82 := k5.1 82 (by simp only [List.mem_cons, List.not_mem_nil, or_false]; omega)
                      refine ⟨rfl, hS.sheet hg (fun o g1 g2 g3 g4 g5 g6 => kf o g2 g5 g6) (fun q hq hne => by rw [kf 80 (by omega) (by decide) (by decide)]) (fun q hq hne => by rw [kf 81 (by omega) (by decide) (by decide)]) (fun q j hq hne hj => by rw [i8.2.2 _ (by omega), e7]) ?_⟩
                      rw [kf 80 (by omega) (by decide) (by decide), kf 81 (by omega) (by decide) (by decide), kf (53 + g) (by omega) (by omega) (by omega)]
                      refine ⟨b1, Or.inr (Or.inl et), b3, ⟨n2, hn2, en2⟩, fun j hj => ?_⟩
                      rw [i8.1 (57 + g) (by simp only [List.mem_cons, List.not_mem_nil, or_false]; omega), i7.1 (57 + g) (by simp only [List.mem_cons, List.not_mem_nil, or_false]; omega), k5.2, va_cpy]
                      by_cases z : a ≤ j ∧ j < a + n
                      · rw [if_pos z, a4 _ (by omega), show 24 * g + j = 24 * g + a + (j - a) by omega, i8.2.1 _ (by omega), i7.2 _ (by omega), e5]
                        congr 1; omega
                      · rw [if_neg z, b4 j hj, i8.2.2 _ (by omega), e7]
        · skip
          refine OpOK.q (x := (-1000000012)) hS ?_ (fun μ5 k5 => ?_)
          · show Go V (d + 3) mX8_copy 0 [some (vR 0), some (vI (nI f)), some (vI place), some (vI (nI g)), some (vI at_), some (vI many), none, none] [] μ _
            refine Go.iload_n dX8_copy_0 rfl ?_
            refine Go.callSi [vI (nI f)] [] dX8_copy_1 lkX8_227 rfl (Nat.le_of_ble_eq_true rfl) rfl (Nat.le_of_ble_eq_true rfl) (c_isSheet (nI f)) ?_
            refine Go.if_eqb_f (tgt := 14) dX8_copy_4 (by decide) h1 ?_
            refine Go.iload_n dX8_copy_7 rfl ?_
            refine Go.callSi [vI (nI g)] [] dX8_copy_8 lkX8_227 rfl (Nat.le_of_ble_eq_true rfl) rfl (Nat.le_of_ble_eq_true rfl) (c_isSheet (nI g)) ?_
            refine Go.if_neb_t (tgt := 17) dX8_copy_11 (by decide) h2 ?_
            refine Go.at 17 rfl ?_
            refine Go.aload_n dX8_copy_17 rfl ?_
            refine Go.getR dX8_copy_18 flX8_49 rfl ?_
            refine Go.iload_n dX8_copy_21 rfl ?_
            refine Go.aaload (r := 53 + f) f dX8_copy_22 (arSh hf) rfl ?_
            refine Go.astore (ls' := [some (vR 0), some (vI (nI f)), some (vI place), some (vI (nI g)), some (vI at_), some (vI many), some (vR (53 + f)), none]) dX8_copy_23 (by decide) rfl ?_
            refine Go.aload_n dX8_copy_25 rfl ?_
            refine Go.at 26 rfl ?_
            refine Go.getR dX8_copy_26 flX8_49 rfl ?_
            refine Go.iload_n dX8_copy_29 rfl ?_
            refine Go.aaload (r := 53 + g) g dX8_copy_30 (arSh hg) rfl ?_
            refine Go.astore (ls' := [some (vR 0), some (vI (nI f)), some (vI place), some (vI (nI g)), some (vI at_), some (vI many), some (vR (53 + f)), some (vR (53 + g))]) dX8_copy_31 (by decide) rfl ?_
            refine Go.aload dX8_copy_33 rfl ?_
            refine Go.getI dX8_copy_35 flX8_235 (shA hf).1 ?_
            refine Go.topE (y := nI 0) (a1.trans es) ?_
            refine Go.at 38 rfl ?_
            refine Go.iconst (v := (-1)) dX8_copy_38 rfl ?_
            refine Go.icmp_eq_f (tgt := 51) dX8_copy_39 (by decide) (by decide) ?_
            refine Go.aload dX8_copy_42 rfl ?_
            refine Go.getI dX8_copy_44 flX8_235 (shA hg).1 ?_
            refine Go.topE (y := nI 1) (b1.trans et) ?_
            refine Go.iconst (v := (-1)) dX8_copy_47 rfl ?_
            refine Go.icmp_ne_t (tgt := 54) dX8_copy_48 (by decide) (by decide) ?_
            refine Go.at 54 rfl ?_
            refine Go.aload dX8_copy_54 rfl ?_
            refine Go.getI dX8_copy_56 flX8_235 (shA hf).1 ?_
            refine Go.topE (y := nI 0) (a1.trans es) ?_
            refine Go.aload dX8_copy_59 rfl ?_
            refine Go.getI dX8_copy_61 flX8_235 (shA hg).1 ?_
            refine Go.topE (y := nI 1) (b1.trans et) ?_
            refine Go.icmp_eq_f (tgt := 70) dX8_copy_64 (by decide) (by decide) ?_
            refine Go.ldc dX8_copy_67 cnX8_117 ?_
            refine Go.at 69 rfl ?_
            refine Go.ireturn .int dX8_copy_69 rfl rfl ?_
            exact ⟨rfl, Fr.rf _ _⟩
          · skip
            have e80 : μ5 80 f = nI 0 := (congrFun (k5 80 (by simp only [List.mem_cons, List.not_mem_nil, or_false]; omega)) f).trans es
            have f80 : μ5 80 g = nI 1 := (congrFun (k5 80 (by simp only [List.mem_cons, List.not_mem_nil, or_false]; omega)) g).trans et
            have e81 : μ5 81 f = nI n1 := (congrFun (k5 81 (by simp only [List.mem_cons, List.not_mem_nil, or_false]; omega)) f).trans en1
            have f81 : μ5 81 g = nI n2 := (congrFun (k5 81 (by simp only [List.mem_cons, List.not_mem_nil, or_false]; omega)) g).trans en2
            show Go V (d + 3) mX9_copy 0 [some (vR 76), some (vI (nI f)), some (vI place), some (vI (nI g)), some (vI at_), some (vI many), none] [] μ5 _
            refine Go.iload_n dX9_copy_0 rfl ?_
            refine Go.callSi [vI (nI f)] [] dX9_copy_1 lkX9_285 rfl (Nat.le_of_ble_eq_true rfl) rfl (Nat.le_of_ble_eq_true rfl) (m_isSheet (nI f)) ?_
            refine Go.if_eqb_f (tgt := 14) dX9_copy_4 (by decide) h1 ?_
            refine Go.iload_n dX9_copy_7 rfl ?_
            refine Go.callSi [vI (nI g)] [] dX9_copy_8 lkX9_285 rfl (Nat.le_of_ble_eq_true rfl) rfl (Nat.le_of_ble_eq_true rfl) (m_isSheet (nI g)) ?_
            refine Go.if_neb_t (tgt := 17) dX9_copy_11 (by decide) h2 ?_
            refine Go.at 17 rfl ?_
            refine Go.aload_n dX9_copy_17 rfl ?_
            refine Go.getR dX9_copy_18 flX9_19 rfl ?_
            refine Go.iload_n dX9_copy_21 rfl ?_
            refine Go.iaload f dX9_copy_22 rfl (by omega) rfl ?_
            refine Go.topE (y := nI 0) e80 ?_
            refine Go.if_lt_f (tgt := 35) dX9_copy_23 (by decide) (by decide) ?_
            refine Go.aload_n dX9_copy_26 rfl ?_
            refine Go.at 27 rfl ?_
            refine Go.getR dX9_copy_27 flX9_19 rfl ?_
            refine Go.iload_n dX9_copy_30 rfl ?_
            refine Go.iaload g dX9_copy_31 rfl (by omega) rfl ?_
            refine Go.topE (y := nI 1) f80 ?_
            refine Go.if_ge_t (tgt := 39) dX9_copy_32 (by decide) (by decide) ?_
            refine Go.aload_n dX9_copy_39 rfl ?_
            refine Go.getR dX9_copy_40 flX9_19 rfl ?_
            refine Go.at 43 rfl ?_
            refine Go.iload_n dX9_copy_43 rfl ?_
            refine Go.iaload f dX9_copy_44 rfl (by omega) rfl ?_
            refine Go.topE (y := nI 0) e80 ?_
            refine Go.aload_n dX9_copy_45 rfl ?_
            refine Go.getR dX9_copy_46 flX9_19 rfl ?_
            refine Go.iload_n dX9_copy_49 rfl ?_
            refine Go.iaload g dX9_copy_50 rfl (by omega) rfl ?_
            refine Go.topE (y := nI 1) f80 ?_
            refine Go.at 51 rfl ?_
            refine Go.icmp_eq_f (tgt := 57) dX9_copy_51 (by decide) (by decide) ?_
            refine Go.ldc dX9_copy_54 cnX9_119 ?_
            refine Go.ireturn .int dX9_copy_56 rfl rfl ?_
            exact ⟨rfl, Fr.rf _ _⟩
      · skip
        rcases b2 with et | et | et
        · skip
          refine OpOK.q (x := (-1000000011)) hS ?_ (fun μ5 k5 => ?_)
          · show Go V (d + 3) mX8_copy 0 [some (vR 0), some (vI (nI f)), some (vI place), some (vI (nI g)), some (vI at_), some (vI many), none, none] [] μ _
            refine Go.iload_n dX8_copy_0 rfl ?_
            refine Go.callSi [vI (nI f)] [] dX8_copy_1 lkX8_227 rfl (Nat.le_of_ble_eq_true rfl) rfl (Nat.le_of_ble_eq_true rfl) (c_isSheet (nI f)) ?_
            refine Go.if_eqb_f (tgt := 14) dX8_copy_4 (by decide) h1 ?_
            refine Go.iload_n dX8_copy_7 rfl ?_
            refine Go.callSi [vI (nI g)] [] dX8_copy_8 lkX8_227 rfl (Nat.le_of_ble_eq_true rfl) rfl (Nat.le_of_ble_eq_true rfl) (c_isSheet (nI g)) ?_
            refine Go.if_neb_t (tgt := 17) dX8_copy_11 (by decide) h2 ?_
            refine Go.at 17 rfl ?_
            refine Go.aload_n dX8_copy_17 rfl ?_
            refine Go.getR dX8_copy_18 flX8_49 rfl ?_
            refine Go.iload_n dX8_copy_21 rfl ?_
            refine Go.aaload (r := 53 + f) f dX8_copy_22 (arSh hf) rfl ?_
            refine Go.astore (ls' := [some (vR 0), some (vI (nI f)), some (vI place), some (vI (nI g)), some (vI at_), some (vI many), some (vR (53 + f)), none]) dX8_copy_23 (by decide) rfl ?_
            refine Go.aload_n dX8_copy_25 rfl ?_
            refine Go.at 26 rfl ?_
            refine Go.getR dX8_copy_26 flX8_49 rfl ?_
            refine Go.iload_n dX8_copy_29 rfl ?_
            refine Go.aaload (r := 53 + g) g dX8_copy_30 (arSh hg) rfl ?_
            refine Go.astore (ls' := [some (vR 0), some (vI (nI f)), some (vI place), some (vI (nI g)), some (vI at_), some (vI many), some (vR (53 + f)), some (vR (53 + g))]) dX8_copy_31 (by decide) rfl ?_
            refine Go.aload dX8_copy_33 rfl ?_
            refine Go.getI dX8_copy_35 flX8_235 (shA hf).1 ?_
            refine Go.topE (y := nI 1) (a1.trans es) ?_
            refine Go.at 38 rfl ?_
            refine Go.iconst (v := (-1)) dX8_copy_38 rfl ?_
            refine Go.icmp_eq_f (tgt := 51) dX8_copy_39 (by decide) (by decide) ?_
            refine Go.aload dX8_copy_42 rfl ?_
            refine Go.getI dX8_copy_44 flX8_235 (shA hg).1 ?_
            refine Go.topE (y := (-1)) (b1.trans et) ?_
            refine Go.iconst (v := (-1)) dX8_copy_47 rfl ?_
            refine Go.icmp_ne_f (tgt := 54) dX8_copy_48 (by decide) (by decide) ?_
            refine Go.at 51 rfl ?_
            refine Go.ldc dX8_copy_51 cnX8_238 ?_
            refine Go.ireturn .int dX8_copy_53 rfl rfl ?_
            exact ⟨rfl, Fr.rf _ _⟩
          · skip
            have e80 : μ5 80 f = nI 1 := (congrFun (k5 80 (by simp only [List.mem_cons, List.not_mem_nil, or_false]; omega)) f).trans es
            have f80 : μ5 80 g = (-1) := (congrFun (k5 80 (by simp only [List.mem_cons, List.not_mem_nil, or_false]; omega)) g).trans et
            have e81 : μ5 81 f = nI n1 := (congrFun (k5 81 (by simp only [List.mem_cons, List.not_mem_nil, or_false]; omega)) f).trans en1
            have f81 : μ5 81 g = nI n2 := (congrFun (k5 81 (by simp only [List.mem_cons, List.not_mem_nil, or_false]; omega)) g).trans en2
            show Go V (d + 3) mX9_copy 0 [some (vR 76), some (vI (nI f)), some (vI place), some (vI (nI g)), some (vI at_), some (vI many), none] [] μ5 _
            refine Go.iload_n dX9_copy_0 rfl ?_
            refine Go.callSi [vI (nI f)] [] dX9_copy_1 lkX9_285 rfl (Nat.le_of_ble_eq_true rfl) rfl (Nat.le_of_ble_eq_true rfl) (m_isSheet (nI f)) ?_
            refine Go.if_eqb_f (tgt := 14) dX9_copy_4 (by decide) h1 ?_
            refine Go.iload_n dX9_copy_7 rfl ?_
            refine Go.callSi [vI (nI g)] [] dX9_copy_8 lkX9_285 rfl (Nat.le_of_ble_eq_true rfl) rfl (Nat.le_of_ble_eq_true rfl) (m_isSheet (nI g)) ?_
            refine Go.if_neb_t (tgt := 17) dX9_copy_11 (by decide) h2 ?_
            refine Go.at 17 rfl ?_
            refine Go.aload_n dX9_copy_17 rfl ?_
            refine Go.getR dX9_copy_18 flX9_19 rfl ?_
            refine Go.iload_n dX9_copy_21 rfl ?_
            refine Go.iaload f dX9_copy_22 rfl (by omega) rfl ?_
            refine Go.topE (y := nI 1) e80 ?_
            refine Go.if_lt_f (tgt := 35) dX9_copy_23 (by decide) (by decide) ?_
            refine Go.aload_n dX9_copy_26 rfl ?_
            refine Go.at 27 rfl ?_
            refine Go.getR dX9_copy_27 flX9_19 rfl ?_
            refine Go.iload_n dX9_copy_30 rfl ?_
            refine Go.iaload g dX9_copy_31 rfl (by omega) rfl ?_
            refine Go.topE (y := (-1)) f80 ?_
            refine Go.if_ge_f (tgt := 39) dX9_copy_32 (by decide) (by decide) ?_
            refine Go.ldc_w dX9_copy_35 cnX9_291 ?_
            refine Go.ireturn .int dX9_copy_38 rfl rfl ?_
            exact ⟨rfl, Fr.rf _ _⟩
        · skip
          refine OpOK.q (x := (-1000000012)) hS ?_ (fun μ5 k5 => ?_)
          · show Go V (d + 3) mX8_copy 0 [some (vR 0), some (vI (nI f)), some (vI place), some (vI (nI g)), some (vI at_), some (vI many), none, none] [] μ _
            refine Go.iload_n dX8_copy_0 rfl ?_
            refine Go.callSi [vI (nI f)] [] dX8_copy_1 lkX8_227 rfl (Nat.le_of_ble_eq_true rfl) rfl (Nat.le_of_ble_eq_true rfl) (c_isSheet (nI f)) ?_
            refine Go.if_eqb_f (tgt := 14) dX8_copy_4 (by decide) h1 ?_
            refine Go.iload_n dX8_copy_7 rfl ?_
            refine Go.callSi [vI (nI g)] [] dX8_copy_8 lkX8_227 rfl (Nat.le_of_ble_eq_true rfl) rfl (Nat.le_of_ble_eq_true rfl) (c_isSheet (nI g)) ?_
            refine Go.if_neb_t (tgt := 17) dX8_copy_11 (by decide) h2 ?_
            refine Go.at 17 rfl ?_
            refine Go.aload_n dX8_copy_17 rfl ?_
            refine Go.getR dX8_copy_18 flX8_49 rfl ?_
            refine Go.iload_n dX8_copy_21 rfl ?_
            refine Go.aaload (r := 53 + f) f dX8_copy_22 (arSh hf) rfl ?_
            refine Go.astore (ls' := [some (vR 0), some (vI (nI f)), some (vI place), some (vI (nI g)), some (vI at_), some (vI many), some (vR (53 + f)), none]) dX8_copy_23 (by decide) rfl ?_
            refine Go.aload_n dX8_copy_25 rfl ?_
            refine Go.at 26 rfl ?_
            refine Go.getR dX8_copy_26 flX8_49 rfl ?_
            refine Go.iload_n dX8_copy_29 rfl ?_
            refine Go.aaload (r := 53 + g) g dX8_copy_30 (arSh hg) rfl ?_
            refine Go.astore (ls' := [some (vR 0), some (vI (nI f)), some (vI place), some (vI (nI g)), some (vI at_), some (vI many), some (vR (53 + f)), some (vR (53 + g))]) dX8_copy_31 (by decide) rfl ?_
            refine Go.aload dX8_copy_33 rfl ?_
            refine Go.getI dX8_copy_35 flX8_235 (shA hf).1 ?_
            refine Go.topE (y := nI 1) (a1.trans es) ?_
            refine Go.at 38 rfl ?_
            refine Go.iconst (v := (-1)) dX8_copy_38 rfl ?_
            refine Go.icmp_eq_f (tgt := 51) dX8_copy_39 (by decide) (by decide) ?_
            refine Go.aload dX8_copy_42 rfl ?_
            refine Go.getI dX8_copy_44 flX8_235 (shA hg).1 ?_
            refine Go.topE (y := nI 0) (b1.trans et) ?_
            refine Go.iconst (v := (-1)) dX8_copy_47 rfl ?_
            refine Go.icmp_ne_t (tgt := 54) dX8_copy_48 (by decide) (by decide) ?_
            refine Go.at 54 rfl ?_
            refine Go.aload dX8_copy_54 rfl ?_
            refine Go.getI dX8_copy_56 flX8_235 (shA hf).1 ?_
            refine Go.topE (y := nI 1) (a1.trans es) ?_
            refine Go.aload dX8_copy_59 rfl ?_
            refine Go.getI dX8_copy_61 flX8_235 (shA hg).1 ?_
            refine Go.topE (y := nI 0) (b1.trans et) ?_
            refine Go.icmp_eq_f (tgt := 70) dX8_copy_64 (by decide) (by decide) ?_
            refine Go.ldc dX8_copy_67 cnX8_117 ?_
            refine Go.at 69 rfl ?_
            refine Go.ireturn .int dX8_copy_69 rfl rfl ?_
            exact ⟨rfl, Fr.rf _ _⟩
          · skip
            have e80 : μ5 80 f = nI 1 := (congrFun (k5 80 (by simp only [List.mem_cons, List.not_mem_nil, or_false]; omega)) f).trans es
            have f80 : μ5 80 g = nI 0 := (congrFun (k5 80 (by simp only [List.mem_cons, List.not_mem_nil, or_false]; omega)) g).trans et
            have e81 : μ5 81 f = nI n1 := (congrFun (k5 81 (by simp only [List.mem_cons, List.not_mem_nil, or_false]; omega)) f).trans en1
            have f81 : μ5 81 g = nI n2 := (congrFun (k5 81 (by simp only [List.mem_cons, List.not_mem_nil, or_false]; omega)) g).trans en2
            show Go V (d + 3) mX9_copy 0 [some (vR 76), some (vI (nI f)), some (vI place), some (vI (nI g)), some (vI at_), some (vI many), none] [] μ5 _
            refine Go.iload_n dX9_copy_0 rfl ?_
            refine Go.callSi [vI (nI f)] [] dX9_copy_1 lkX9_285 rfl (Nat.le_of_ble_eq_true rfl) rfl (Nat.le_of_ble_eq_true rfl) (m_isSheet (nI f)) ?_
            refine Go.if_eqb_f (tgt := 14) dX9_copy_4 (by decide) h1 ?_
            refine Go.iload_n dX9_copy_7 rfl ?_
            refine Go.callSi [vI (nI g)] [] dX9_copy_8 lkX9_285 rfl (Nat.le_of_ble_eq_true rfl) rfl (Nat.le_of_ble_eq_true rfl) (m_isSheet (nI g)) ?_
            refine Go.if_neb_t (tgt := 17) dX9_copy_11 (by decide) h2 ?_
            refine Go.at 17 rfl ?_
            refine Go.aload_n dX9_copy_17 rfl ?_
            refine Go.getR dX9_copy_18 flX9_19 rfl ?_
            refine Go.iload_n dX9_copy_21 rfl ?_
            refine Go.iaload f dX9_copy_22 rfl (by omega) rfl ?_
            refine Go.topE (y := nI 1) e80 ?_
            refine Go.if_lt_f (tgt := 35) dX9_copy_23 (by decide) (by decide) ?_
            refine Go.aload_n dX9_copy_26 rfl ?_
            refine Go.at 27 rfl ?_
            refine Go.getR dX9_copy_27 flX9_19 rfl ?_
            refine Go.iload_n dX9_copy_30 rfl ?_
            refine Go.iaload g dX9_copy_31 rfl (by omega) rfl ?_
            refine Go.topE (y := nI 0) f80 ?_
            refine Go.if_ge_t (tgt := 39) dX9_copy_32 (by decide) (by decide) ?_
            refine Go.aload_n dX9_copy_39 rfl ?_
            refine Go.getR dX9_copy_40 flX9_19 rfl ?_
            refine Go.at 43 rfl ?_
            refine Go.iload_n dX9_copy_43 rfl ?_
            refine Go.iaload f dX9_copy_44 rfl (by omega) rfl ?_
            refine Go.topE (y := nI 1) e80 ?_
            refine Go.aload_n dX9_copy_45 rfl ?_
            refine Go.getR dX9_copy_46 flX9_19 rfl ?_
            refine Go.iload_n dX9_copy_49 rfl ?_
            refine Go.iaload g dX9_copy_50 rfl (by omega) rfl ?_
            refine Go.topE (y := nI 0) f80 ?_
            refine Go.at 51 rfl ?_
            refine Go.icmp_eq_f (tgt := 57) dX9_copy_51 (by decide) (by decide) ?_
            refine Go.ldc dX9_copy_54 cnX9_119 ?_
            refine Go.ireturn .int dX9_copy_56 rfl rfl ?_
            exact ⟨rfl, Fr.rf _ _⟩
        · skip
          by_cases c1 : place.toInt < 0
          · skip
            refine OpOK.q (x := (-1000000013)) hS ?_ (fun μ5 k5 => ?_)
            · show Go V (d + 3) mX8_copy 0 [some (vR 0), some (vI (nI f)), some (vI place), some (vI (nI g)), some (vI at_), some (vI many), none, none] [] μ _
              refine Go.iload_n dX8_copy_0 rfl ?_
              refine Go.callSi [vI (nI f)] [] dX8_copy_1 lkX8_227 rfl (Nat.le_of_ble_eq_true rfl) rfl (Nat.le_of_ble_eq_true rfl) (c_isSheet (nI f)) ?_
              refine Go.if_eqb_f (tgt := 14) dX8_copy_4 (by decide) h1 ?_
              refine Go.iload_n dX8_copy_7 rfl ?_
              refine Go.callSi [vI (nI g)] [] dX8_copy_8 lkX8_227 rfl (Nat.le_of_ble_eq_true rfl) rfl (Nat.le_of_ble_eq_true rfl) (c_isSheet (nI g)) ?_
              refine Go.if_neb_t (tgt := 17) dX8_copy_11 (by decide) h2 ?_
              refine Go.at 17 rfl ?_
              refine Go.aload_n dX8_copy_17 rfl ?_
              refine Go.getR dX8_copy_18 flX8_49 rfl ?_
              refine Go.iload_n dX8_copy_21 rfl ?_
              refine Go.aaload (r := 53 + f) f dX8_copy_22 (arSh hf) rfl ?_
              refine Go.astore (ls' := [some (vR 0), some (vI (nI f)), some (vI place), some (vI (nI g)), some (vI at_), some (vI many), some (vR (53 + f)), none]) dX8_copy_23 (by decide) rfl ?_
              refine Go.aload_n dX8_copy_25 rfl ?_
              refine Go.at 26 rfl ?_
              refine Go.getR dX8_copy_26 flX8_49 rfl ?_
              refine Go.iload_n dX8_copy_29 rfl ?_
              refine Go.aaload (r := 53 + g) g dX8_copy_30 (arSh hg) rfl ?_
              refine Go.astore (ls' := [some (vR 0), some (vI (nI f)), some (vI place), some (vI (nI g)), some (vI at_), some (vI many), some (vR (53 + f)), some (vR (53 + g))]) dX8_copy_31 (by decide) rfl ?_
              refine Go.aload dX8_copy_33 rfl ?_
              refine Go.getI dX8_copy_35 flX8_235 (shA hf).1 ?_
              refine Go.topE (y := nI 1) (a1.trans es) ?_
              refine Go.at 38 rfl ?_
              refine Go.iconst (v := (-1)) dX8_copy_38 rfl ?_
              refine Go.icmp_eq_f (tgt := 51) dX8_copy_39 (by decide) (by decide) ?_
              refine Go.aload dX8_copy_42 rfl ?_
              refine Go.getI dX8_copy_44 flX8_235 (shA hg).1 ?_
              refine Go.topE (y := nI 1) (b1.trans et) ?_
              refine Go.iconst (v := (-1)) dX8_copy_47 rfl ?_
              refine Go.icmp_ne_t (tgt := 54) dX8_copy_48 (by decide) (by decide) ?_
              refine Go.at 54 rfl ?_
              refine Go.aload dX8_copy_54 rfl ?_
              refine Go.getI dX8_copy_56 flX8_235 (shA hf).1 ?_
              refine Go.topE (y := nI 1) (a1.trans es) ?_
              refine Go.aload dX8_copy_59 rfl ?_
              refine Go.getI dX8_copy_61 flX8_235 (shA hg).1 ?_
              refine Go.topE (y := nI 1) (b1.trans et) ?_
              refine Go.icmp_eq_t (tgt := 70) dX8_copy_64 (by decide) (by decide) ?_
              refine Go.aload dX8_copy_70 rfl ?_
              refine Go.at 72 rfl ?_
              refine Go.iload_n dX8_copy_72 rfl ?_
              refine Go.iload dX8_copy_73 rfl ?_
              refine Go.callVi (53 + f) [vI place, vI many] [] dX8_copy_75 lkX8_256 (shA hf).2.2.2.2.1 rfl (Nat.le_of_ble_eq_true rfl) rfl (Nat.le_of_ble_eq_true rfl) (c_hasPlaces (shA hf) place many) ?_
              refine Go.if_eqb_t (tgt := 93) dX8_copy_78 (by decide) (by rw [a3, en1, hpl_iff _ _ hn1]; omega) ?_
              refine Go.ldc dX8_copy_93 cnX8_242 ?_
              refine Go.ireturn .int dX8_copy_95 rfl rfl ?_
              exact ⟨rfl, Fr.rf _ _⟩
            · skip
              have e80 : μ5 80 f = nI 1 := (congrFun (k5 80 (by simp only [List.mem_cons, List.not_mem_nil, or_false]; omega)) f).trans es
              have f80 : μ5 80 g = nI 1 := (congrFun (k5 80 (by simp only [List.mem_cons, List.not_mem_nil, or_false]; omega)) g).trans et
              have e81 : μ5 81 f = nI n1 := (congrFun (k5 81 (by simp only [List.mem_cons, List.not_mem_nil, or_false]; omega)) f).trans en1
              have f81 : μ5 81 g = nI n2 := (congrFun (k5 81 (by simp only [List.mem_cons, List.not_mem_nil, or_false]; omega)) g).trans en2
              show Go V (d + 3) mX9_copy 0 [some (vR 76), some (vI (nI f)), some (vI place), some (vI (nI g)), some (vI at_), some (vI many), none] [] μ5 _
              refine Go.iload_n dX9_copy_0 rfl ?_
              refine Go.callSi [vI (nI f)] [] dX9_copy_1 lkX9_285 rfl (Nat.le_of_ble_eq_true rfl) rfl (Nat.le_of_ble_eq_true rfl) (m_isSheet (nI f)) ?_
              refine Go.if_eqb_f (tgt := 14) dX9_copy_4 (by decide) h1 ?_
              refine Go.iload_n dX9_copy_7 rfl ?_
              refine Go.callSi [vI (nI g)] [] dX9_copy_8 lkX9_285 rfl (Nat.le_of_ble_eq_true rfl) rfl (Nat.le_of_ble_eq_true rfl) (m_isSheet (nI g)) ?_
              refine Go.if_neb_t (tgt := 17) dX9_copy_11 (by decide) h2 ?_
              refine Go.at 17 rfl ?_
              refine Go.aload_n dX9_copy_17 rfl ?_
              refine Go.getR dX9_copy_18 flX9_19 rfl ?_
              refine Go.iload_n dX9_copy_21 rfl ?_
              refine Go.iaload f dX9_copy_22 rfl (by omega) rfl ?_
              refine Go.topE (y := nI 1) e80 ?_
              refine Go.if_lt_f (tgt := 35) dX9_copy_23 (by decide) (by decide) ?_
              refine Go.aload_n dX9_copy_26 rfl ?_
              refine Go.at 27 rfl ?_
              refine Go.getR dX9_copy_27 flX9_19 rfl ?_
              refine Go.iload_n dX9_copy_30 rfl ?_
              refine Go.iaload g dX9_copy_31 rfl (by omega) rfl ?_
              refine Go.topE (y := nI 1) f80 ?_
              refine Go.if_ge_t (tgt := 39) dX9_copy_32 (by decide) (by decide) ?_
              refine Go.aload_n dX9_copy_39 rfl ?_
              refine Go.getR dX9_copy_40 flX9_19 rfl ?_
              refine Go.at 43 rfl ?_
              refine Go.iload_n dX9_copy_43 rfl ?_
              refine Go.iaload f dX9_copy_44 rfl (by omega) rfl ?_
              refine Go.topE (y := nI 1) e80 ?_
              refine Go.aload_n dX9_copy_45 rfl ?_
              refine Go.getR dX9_copy_46 flX9_19 rfl ?_
              refine Go.iload_n dX9_copy_49 rfl ?_
              refine Go.iaload g dX9_copy_50 rfl (by omega) rfl ?_
              refine Go.topE (y := nI 1) f80 ?_
              refine Go.at 51 rfl ?_
              refine Go.icmp_eq_t (tgt := 57) dX9_copy_51 (by decide) (by decide) ?_
              refine Go.iload_n dX9_copy_57 rfl ?_
              refine Go.if_lt_t (tgt := 106) dX9_copy_58 (by decide) ((lt0I _).mpr c1) ?_
              refine Go.ldc_w dX9_copy_106 cnX9_292 ?_
              refine Go.ireturn .int dX9_copy_109 rfl rfl ?_
              exact ⟨rfl, Fr.rf _ _⟩
          · skip
            by_cases c2 : at_.toInt < 0
            · skip
              refine OpOK.q (x := (-1000000013)) hS ?_ (fun μ5 k5 => ?_)
              · show Go V (d + 3) mX8_copy 0 [some (vR 0), some (vI (nI f)), some (vI place), some (vI (nI g)), some (vI at_), some (vI many), none, none] [] μ _
                refine Go.iload_n dX8_copy_0 rfl ?_
                refine Go.callSi [vI (nI f)] [] dX8_copy_1 lkX8_227 rfl (Nat.le_of_ble_eq_true rfl) rfl (Nat.le_of_ble_eq_true rfl) (c_isSheet (nI f)) ?_
                refine Go.if_eqb_f (tgt := 14) dX8_copy_4 (by decide) h1 ?_
                refine Go.iload_n dX8_copy_7 rfl ?_
                refine Go.callSi [vI (nI g)] [] dX8_copy_8 lkX8_227 rfl (Nat.le_of_ble_eq_true rfl) rfl (Nat.le_of_ble_eq_true rfl) (c_isSheet (nI g)) ?_
                refine Go.if_neb_t (tgt := 17) dX8_copy_11 (by decide) h2 ?_
                refine Go.at 17 rfl ?_
                refine Go.aload_n dX8_copy_17 rfl ?_
                refine Go.getR dX8_copy_18 flX8_49 rfl ?_
                refine Go.iload_n dX8_copy_21 rfl ?_
                refine Go.aaload (r := 53 + f) f dX8_copy_22 (arSh hf) rfl ?_
                refine Go.astore (ls' := [some (vR 0), some (vI (nI f)), some (vI place), some (vI (nI g)), some (vI at_), some (vI many), some (vR (53 + f)), none]) dX8_copy_23 (by decide) rfl ?_
                refine Go.aload_n dX8_copy_25 rfl ?_
                refine Go.at 26 rfl ?_
                refine Go.getR dX8_copy_26 flX8_49 rfl ?_
                refine Go.iload_n dX8_copy_29 rfl ?_
                refine Go.aaload (r := 53 + g) g dX8_copy_30 (arSh hg) rfl ?_
                refine Go.astore (ls' := [some (vR 0), some (vI (nI f)), some (vI place), some (vI (nI g)), some (vI at_), some (vI many), some (vR (53 + f)), some (vR (53 + g))]) dX8_copy_31 (by decide) rfl ?_
                refine Go.aload dX8_copy_33 rfl ?_
                refine Go.getI dX8_copy_35 flX8_235 (shA hf).1 ?_
                refine Go.topE (y := nI 1) (a1.trans es) ?_
                refine Go.at 38 rfl ?_
                refine Go.iconst (v := (-1)) dX8_copy_38 rfl ?_
                refine Go.icmp_eq_f (tgt := 51) dX8_copy_39 (by decide) (by decide) ?_
                refine Go.aload dX8_copy_42 rfl ?_
                refine Go.getI dX8_copy_44 flX8_235 (shA hg).1 ?_
                refine Go.topE (y := nI 1) (b1.trans et) ?_
                refine Go.iconst (v := (-1)) dX8_copy_47 rfl ?_
                refine Go.icmp_ne_t (tgt := 54) dX8_copy_48 (by decide) (by decide) ?_
                refine Go.at 54 rfl ?_
                refine Go.aload dX8_copy_54 rfl ?_
                refine Go.getI dX8_copy_56 flX8_235 (shA hf).1 ?_
                refine Go.topE (y := nI 1) (a1.trans es) ?_
                refine Go.aload dX8_copy_59 rfl ?_
                refine Go.getI dX8_copy_61 flX8_235 (shA hg).1 ?_
                refine Go.topE (y := nI 1) (b1.trans et) ?_
                refine Go.icmp_eq_t (tgt := 70) dX8_copy_64 (by decide) (by decide) ?_
                refine Go.aload dX8_copy_70 rfl ?_
                refine Go.at 72 rfl ?_
                refine Go.iload_n dX8_copy_72 rfl ?_
                refine Go.iload dX8_copy_73 rfl ?_
                refine Go.callVi (53 + f) [vI place, vI many] [] dX8_copy_75 lkX8_256 (shA hf).2.2.2.2.1 rfl (Nat.le_of_ble_eq_true rfl) rfl (Nat.le_of_ble_eq_true rfl) (c_hasPlaces (shA hf) place many) ?_
                refine Go.if_eqb (tgt := 93) dX8_copy_78 (by decide) (fun h78 => ?_) (fun h78 => ?_)
                · -- 78 taken
                  refine Go.ldc dX8_copy_93 cnX8_242 ?_
                  refine Go.ireturn .int dX8_copy_95 rfl rfl ?_
                  exact ⟨rfl, Fr.rf _ _⟩
                · -- 78 not
                  refine Go.aload dX8_copy_81 rfl ?_
                  refine Go.iload dX8_copy_83 rfl ?_
                  refine Go.iload dX8_copy_85 rfl ?_
                  refine Go.callVi (53 + g) [vI at_, vI many] [] dX8_copy_87 lkX8_256 (shA hg).2.2.2.2.1 rfl (Nat.le_of_ble_eq_true rfl) rfl (Nat.le_of_ble_eq_true rfl) (c_hasPlaces (shA hg) at_ many) ?_
                  refine Go.if_neb_f (tgt := 96) dX8_copy_90 (by decide) (by rw [b3, en2, hpl_iff _ _ hn2]; omega) ?_
                  refine Go.ldc dX8_copy_93 cnX8_242 ?_
                  refine Go.at 95 rfl ?_
                  refine Go.ireturn .int dX8_copy_95 rfl rfl ?_
                  exact ⟨rfl, Fr.rf _ _⟩
              · skip
                have e80 : μ5 80 f = nI 1 := (congrFun (k5 80 (by simp only [List.mem_cons, List.not_mem_nil, or_false]; omega)) f).trans es
                have f80 : μ5 80 g = nI 1 := (congrFun (k5 80 (by simp only [List.mem_cons, List.not_mem_nil, or_false]; omega)) g).trans et
                have e81 : μ5 81 f = nI n1 := (congrFun (k5 81 (by simp only [List.mem_cons, List.not_mem_nil, or_false]; omega)) f).trans en1
                have f81 : μ5 81 g = nI n2 := (congrFun (k5 81 (by simp only [List.mem_cons, List.not_mem_nil, or_false]; omega)) g).trans en2
                show Go V (d + 3) mX9_copy 0 [some (vR 76), some (vI (nI f)), some (vI place), some (vI (nI g)), some (vI at_), some (vI many), none] [] μ5 _
                refine Go.iload_n dX9_copy_0 rfl ?_
                refine Go.callSi [vI (nI f)] [] dX9_copy_1 lkX9_285 rfl (Nat.le_of_ble_eq_true rfl) rfl (Nat.le_of_ble_eq_true rfl) (m_isSheet (nI f)) ?_
                refine Go.if_eqb_f (tgt := 14) dX9_copy_4 (by decide) h1 ?_
                refine Go.iload_n dX9_copy_7 rfl ?_
                refine Go.callSi [vI (nI g)] [] dX9_copy_8 lkX9_285 rfl (Nat.le_of_ble_eq_true rfl) rfl (Nat.le_of_ble_eq_true rfl) (m_isSheet (nI g)) ?_
                refine Go.if_neb_t (tgt := 17) dX9_copy_11 (by decide) h2 ?_
                refine Go.at 17 rfl ?_
                refine Go.aload_n dX9_copy_17 rfl ?_
                refine Go.getR dX9_copy_18 flX9_19 rfl ?_
                refine Go.iload_n dX9_copy_21 rfl ?_
                refine Go.iaload f dX9_copy_22 rfl (by omega) rfl ?_
                refine Go.topE (y := nI 1) e80 ?_
                refine Go.if_lt_f (tgt := 35) dX9_copy_23 (by decide) (by decide) ?_
                refine Go.aload_n dX9_copy_26 rfl ?_
                refine Go.at 27 rfl ?_
                refine Go.getR dX9_copy_27 flX9_19 rfl ?_
                refine Go.iload_n dX9_copy_30 rfl ?_
                refine Go.iaload g dX9_copy_31 rfl (by omega) rfl ?_
                refine Go.topE (y := nI 1) f80 ?_
                refine Go.if_ge_t (tgt := 39) dX9_copy_32 (by decide) (by decide) ?_
                refine Go.aload_n dX9_copy_39 rfl ?_
                refine Go.getR dX9_copy_40 flX9_19 rfl ?_
                refine Go.at 43 rfl ?_
                refine Go.iload_n dX9_copy_43 rfl ?_
                refine Go.iaload f dX9_copy_44 rfl (by omega) rfl ?_
                refine Go.topE (y := nI 1) e80 ?_
                refine Go.aload_n dX9_copy_45 rfl ?_
                refine Go.getR dX9_copy_46 flX9_19 rfl ?_
                refine Go.iload_n dX9_copy_49 rfl ?_
                refine Go.iaload g dX9_copy_50 rfl (by omega) rfl ?_
                refine Go.topE (y := nI 1) f80 ?_
                refine Go.at 51 rfl ?_
                refine Go.icmp_eq_t (tgt := 57) dX9_copy_51 (by decide) (by decide) ?_
                refine Go.iload_n dX9_copy_57 rfl ?_
                refine Go.if_lt_f (tgt := 106) dX9_copy_58 (by decide) (fun z => c1 ((lt0I _).mp z)) ?_
                refine Go.iload dX9_copy_61 rfl ?_
                refine Go.if_lt_t (tgt := 106) dX9_copy_63 (by decide) ((lt0I _).mpr c2) ?_
                refine Go.ldc_w dX9_copy_106 cnX9_292 ?_
                refine Go.at 109 rfl ?_
                refine Go.ireturn .int dX9_copy_109 rfl rfl ?_
                exact ⟨rfl, Fr.rf _ _⟩
            · skip
              by_cases c3 : many.toInt < 0
              · skip
                refine OpOK.q (x := (-1000000013)) hS ?_ (fun μ5 k5 => ?_)
                · show Go V (d + 3) mX8_copy 0 [some (vR 0), some (vI (nI f)), some (vI place), some (vI (nI g)), some (vI at_), some (vI many), none, none] [] μ _
                  refine Go.iload_n dX8_copy_0 rfl ?_
                  refine Go.callSi [vI (nI f)] [] dX8_copy_1 lkX8_227 rfl (Nat.le_of_ble_eq_true rfl) rfl (Nat.le_of_ble_eq_true rfl) (c_isSheet (nI f)) ?_
                  refine Go.if_eqb_f (tgt := 14) dX8_copy_4 (by decide) h1 ?_
                  refine Go.iload_n dX8_copy_7 rfl ?_
                  refine Go.callSi [vI (nI g)] [] dX8_copy_8 lkX8_227 rfl (Nat.le_of_ble_eq_true rfl) rfl (Nat.le_of_ble_eq_true rfl) (c_isSheet (nI g)) ?_
                  refine Go.if_neb_t (tgt := 17) dX8_copy_11 (by decide) h2 ?_
                  refine Go.at 17 rfl ?_
                  refine Go.aload_n dX8_copy_17 rfl ?_
                  refine Go.getR dX8_copy_18 flX8_49 rfl ?_
                  refine Go.iload_n dX8_copy_21 rfl ?_
                  refine Go.aaload (r := 53 + f) f dX8_copy_22 (arSh hf) rfl ?_
                  refine Go.astore (ls' := [some (vR 0), some (vI (nI f)), some (vI place), some (vI (nI g)), some (vI at_), some (vI many), some (vR (53 + f)), none]) dX8_copy_23 (by decide) rfl ?_
                  refine Go.aload_n dX8_copy_25 rfl ?_
                  refine Go.at 26 rfl ?_
                  refine Go.getR dX8_copy_26 flX8_49 rfl ?_
                  refine Go.iload_n dX8_copy_29 rfl ?_
                  refine Go.aaload (r := 53 + g) g dX8_copy_30 (arSh hg) rfl ?_
                  refine Go.astore (ls' := [some (vR 0), some (vI (nI f)), some (vI place), some (vI (nI g)), some (vI at_), some (vI many), some (vR (53 + f)), some (vR (53 + g))]) dX8_copy_31 (by decide) rfl ?_
                  refine Go.aload dX8_copy_33 rfl ?_
                  refine Go.getI dX8_copy_35 flX8_235 (shA hf).1 ?_
                  refine Go.topE (y := nI 1) (a1.trans es) ?_
                  refine Go.at 38 rfl ?_
                  refine Go.iconst (v := (-1)) dX8_copy_38 rfl ?_
                  refine Go.icmp_eq_f (tgt := 51) dX8_copy_39 (by decide) (by decide) ?_
                  refine Go.aload dX8_copy_42 rfl ?_
                  refine Go.getI dX8_copy_44 flX8_235 (shA hg).1 ?_
                  refine Go.topE (y := nI 1) (b1.trans et) ?_
                  refine Go.iconst (v := (-1)) dX8_copy_47 rfl ?_
                  refine Go.icmp_ne_t (tgt := 54) dX8_copy_48 (by decide) (by decide) ?_
                  refine Go.at 54 rfl ?_
                  refine Go.aload dX8_copy_54 rfl ?_
                  refine Go.getI dX8_copy_56 flX8_235 (shA hf).1 ?_
                  refine Go.topE (y := nI 1) (a1.trans es) ?_
                  refine Go.aload dX8_copy_59 rfl ?_
                  refine Go.getI dX8_copy_61 flX8_235 (shA hg).1 ?_
                  refine Go.topE (y := nI 1) (b1.trans et) ?_
                  refine Go.icmp_eq_t (tgt := 70) dX8_copy_64 (by decide) (by decide) ?_
                  refine Go.aload dX8_copy_70 rfl ?_
                  refine Go.at 72 rfl ?_
                  refine Go.iload_n dX8_copy_72 rfl ?_
                  refine Go.iload dX8_copy_73 rfl ?_
                  refine Go.callVi (53 + f) [vI place, vI many] [] dX8_copy_75 lkX8_256 (shA hf).2.2.2.2.1 rfl (Nat.le_of_ble_eq_true rfl) rfl (Nat.le_of_ble_eq_true rfl) (c_hasPlaces (shA hf) place many) ?_
                  refine Go.if_eqb_t (tgt := 93) dX8_copy_78 (by decide) (by rw [a3, en1, hpl_iff _ _ hn1]; omega) ?_
                  refine Go.ldc dX8_copy_93 cnX8_242 ?_
                  refine Go.ireturn .int dX8_copy_95 rfl rfl ?_
                  exact ⟨rfl, Fr.rf _ _⟩
                · skip
                  have e80 : μ5 80 f = nI 1 := (congrFun (k5 80 (by simp only [List.mem_cons, List.not_mem_nil, or_false]; omega)) f).trans es
                  have f80 : μ5 80 g = nI 1 := (congrFun (k5 80 (by simp only [List.mem_cons, List.not_mem_nil, or_false]; omega)) g).trans et
                  have e81 : μ5 81 f = nI n1 := (congrFun (k5 81 (by simp only [List.mem_cons, List.not_mem_nil, or_false]; omega)) f).trans en1
                  have f81 : μ5 81 g = nI n2 := (congrFun (k5 81 (by simp only [List.mem_cons, List.not_mem_nil, or_false]; omega)) g).trans en2
                  show Go V (d + 3) mX9_copy 0 [some (vR 76), some (vI (nI f)), some (vI place), some (vI (nI g)), some (vI at_), some (vI many), none] [] μ5 _
                  refine Go.iload_n dX9_copy_0 rfl ?_
                  refine Go.callSi [vI (nI f)] [] dX9_copy_1 lkX9_285 rfl (Nat.le_of_ble_eq_true rfl) rfl (Nat.le_of_ble_eq_true rfl) (m_isSheet (nI f)) ?_
                  refine Go.if_eqb_f (tgt := 14) dX9_copy_4 (by decide) h1 ?_
                  refine Go.iload_n dX9_copy_7 rfl ?_
                  refine Go.callSi [vI (nI g)] [] dX9_copy_8 lkX9_285 rfl (Nat.le_of_ble_eq_true rfl) rfl (Nat.le_of_ble_eq_true rfl) (m_isSheet (nI g)) ?_
                  refine Go.if_neb_t (tgt := 17) dX9_copy_11 (by decide) h2 ?_
                  refine Go.at 17 rfl ?_
                  refine Go.aload_n dX9_copy_17 rfl ?_
                  refine Go.getR dX9_copy_18 flX9_19 rfl ?_
                  refine Go.iload_n dX9_copy_21 rfl ?_
                  refine Go.iaload f dX9_copy_22 rfl (by omega) rfl ?_
                  refine Go.topE (y := nI 1) e80 ?_
                  refine Go.if_lt_f (tgt := 35) dX9_copy_23 (by decide) (by decide) ?_
                  refine Go.aload_n dX9_copy_26 rfl ?_
                  refine Go.at 27 rfl ?_
                  refine Go.getR dX9_copy_27 flX9_19 rfl ?_
                  refine Go.iload_n dX9_copy_30 rfl ?_
                  refine Go.iaload g dX9_copy_31 rfl (by omega) rfl ?_
                  refine Go.topE (y := nI 1) f80 ?_
                  refine Go.if_ge_t (tgt := 39) dX9_copy_32 (by decide) (by decide) ?_
                  refine Go.aload_n dX9_copy_39 rfl ?_
                  refine Go.getR dX9_copy_40 flX9_19 rfl ?_
                  refine Go.at 43 rfl ?_
                  refine Go.iload_n dX9_copy_43 rfl ?_
                  refine Go.iaload f dX9_copy_44 rfl (by omega) rfl ?_
                  refine Go.topE (y := nI 1) e80 ?_
                  refine Go.aload_n dX9_copy_45 rfl ?_
                  refine Go.getR dX9_copy_46 flX9_19 rfl ?_
                  refine Go.iload_n dX9_copy_49 rfl ?_
                  refine Go.iaload g dX9_copy_50 rfl (by omega) rfl ?_
                  refine Go.topE (y := nI 1) f80 ?_
                  refine Go.at 51 rfl ?_
                  refine Go.icmp_eq_t (tgt := 57) dX9_copy_51 (by decide) (by decide) ?_
                  refine Go.iload_n dX9_copy_57 rfl ?_
                  refine Go.if_lt_f (tgt := 106) dX9_copy_58 (by decide) (fun z => c1 ((lt0I _).mp z)) ?_
                  refine Go.iload dX9_copy_61 rfl ?_
                  refine Go.if_lt_f (tgt := 106) dX9_copy_63 (by decide) (fun z => c2 ((lt0I _).mp z)) ?_
                  refine Go.iload dX9_copy_66 rfl ?_
                  refine Go.at 68 rfl ?_
                  refine Go.if_lt_t (tgt := 106) dX9_copy_68 (by decide) ((lt0I _).mpr c3) ?_
                  refine Go.ldc_w dX9_copy_106 cnX9_292 ?_
                  refine Go.ireturn .int dX9_copy_109 rfl rfl ?_
                  exact ⟨rfl, Fr.rf _ _⟩
              · skip
                by_cases c4 : (n1 : Int) < place.toInt + many.toInt
                · skip
                  refine OpOK.q (x := (-1000000013)) hS ?_ (fun μ5 k5 => ?_)
                  · show Go V (d + 3) mX8_copy 0 [some (vR 0), some (vI (nI f)), some (vI place), some (vI (nI g)), some (vI at_), some (vI many), none, none] [] μ _
                    refine Go.iload_n dX8_copy_0 rfl ?_
                    refine Go.callSi [vI (nI f)] [] dX8_copy_1 lkX8_227 rfl (Nat.le_of_ble_eq_true rfl) rfl (Nat.le_of_ble_eq_true rfl) (c_isSheet (nI f)) ?_
                    refine Go.if_eqb_f (tgt := 14) dX8_copy_4 (by decide) h1 ?_
                    refine Go.iload_n dX8_copy_7 rfl ?_
                    refine Go.callSi [vI (nI g)] [] dX8_copy_8 lkX8_227 rfl (Nat.le_of_ble_eq_true rfl) rfl (Nat.le_of_ble_eq_true rfl) (c_isSheet (nI g)) ?_
                    refine Go.if_neb_t (tgt := 17) dX8_copy_11 (by decide) h2 ?_
                    refine Go.at 17 rfl ?_
                    refine Go.aload_n dX8_copy_17 rfl ?_
                    refine Go.getR dX8_copy_18 flX8_49 rfl ?_
                    refine Go.iload_n dX8_copy_21 rfl ?_
                    refine Go.aaload (r := 53 + f) f dX8_copy_22 (arSh hf) rfl ?_
                    refine Go.astore (ls' := [some (vR 0), some (vI (nI f)), some (vI place), some (vI (nI g)), some (vI at_), some (vI many), some (vR (53 + f)), none]) dX8_copy_23 (by decide) rfl ?_
                    refine Go.aload_n dX8_copy_25 rfl ?_
                    refine Go.at 26 rfl ?_
                    refine Go.getR dX8_copy_26 flX8_49 rfl ?_
                    refine Go.iload_n dX8_copy_29 rfl ?_
                    refine Go.aaload (r := 53 + g) g dX8_copy_30 (arSh hg) rfl ?_
                    refine Go.astore (ls' := [some (vR 0), some (vI (nI f)), some (vI place), some (vI (nI g)), some (vI at_), some (vI many), some (vR (53 + f)), some (vR (53 + g))]) dX8_copy_31 (by decide) rfl ?_
                    refine Go.aload dX8_copy_33 rfl ?_
                    refine Go.getI dX8_copy_35 flX8_235 (shA hf).1 ?_
                    refine Go.topE (y := nI 1) (a1.trans es) ?_
                    refine Go.at 38 rfl ?_
                    refine Go.iconst (v := (-1)) dX8_copy_38 rfl ?_
                    refine Go.icmp_eq_f (tgt := 51) dX8_copy_39 (by decide) (by decide) ?_
                    refine Go.aload dX8_copy_42 rfl ?_
                    refine Go.getI dX8_copy_44 flX8_235 (shA hg).1 ?_
                    refine Go.topE (y := nI 1) (b1.trans et) ?_
                    refine Go.iconst (v := (-1)) dX8_copy_47 rfl ?_
                    refine Go.icmp_ne_t (tgt := 54) dX8_copy_48 (by decide) (by decide) ?_
                    refine Go.at 54 rfl ?_
                    refine Go.aload dX8_copy_54 rfl ?_
                    refine Go.getI dX8_copy_56 flX8_235 (shA hf).1 ?_
                    refine Go.topE (y := nI 1) (a1.trans es) ?_
                    refine Go.aload dX8_copy_59 rfl ?_
                    refine Go.getI dX8_copy_61 flX8_235 (shA hg).1 ?_
                    refine Go.topE (y := nI 1) (b1.trans et) ?_
                    refine Go.icmp_eq_t (tgt := 70) dX8_copy_64 (by decide) (by decide) ?_
                    refine Go.aload dX8_copy_70 rfl ?_
                    refine Go.at 72 rfl ?_
                    refine Go.iload_n dX8_copy_72 rfl ?_
                    refine Go.iload dX8_copy_73 rfl ?_
                    refine Go.callVi (53 + f) [vI place, vI many] [] dX8_copy_75 lkX8_256 (shA hf).2.2.2.2.1 rfl (Nat.le_of_ble_eq_true rfl) rfl (Nat.le_of_ble_eq_true rfl) (c_hasPlaces (shA hf) place many) ?_
                    refine Go.if_eqb_t (tgt := 93) dX8_copy_78 (by decide) (by rw [a3, en1, hpl_iff _ _ hn1]; omega) ?_
                    refine Go.ldc dX8_copy_93 cnX8_242 ?_
                    refine Go.ireturn .int dX8_copy_95 rfl rfl ?_
                    exact ⟨rfl, Fr.rf _ _⟩
                  · skip
                    have e80 : μ5 80 f = nI 1 := (congrFun (k5 80 (by simp only [List.mem_cons, List.not_mem_nil, or_false]; omega)) f).trans es
                    have f80 : μ5 80 g = nI 1 := (congrFun (k5 80 (by simp only [List.mem_cons, List.not_mem_nil, or_false]; omega)) g).trans et
                    have e81 : μ5 81 f = nI n1 := (congrFun (k5 81 (by simp only [List.mem_cons, List.not_mem_nil, or_false]; omega)) f).trans en1
                    have f81 : μ5 81 g = nI n2 := (congrFun (k5 81 (by simp only [List.mem_cons, List.not_mem_nil, or_false]; omega)) g).trans en2
                    show Go V (d + 3) mX9_copy 0 [some (vR 76), some (vI (nI f)), some (vI place), some (vI (nI g)), some (vI at_), some (vI many), none] [] μ5 _
                    refine Go.iload_n dX9_copy_0 rfl ?_
                    refine Go.callSi [vI (nI f)] [] dX9_copy_1 lkX9_285 rfl (Nat.le_of_ble_eq_true rfl) rfl (Nat.le_of_ble_eq_true rfl) (m_isSheet (nI f)) ?_
                    refine Go.if_eqb_f (tgt := 14) dX9_copy_4 (by decide) h1 ?_
                    refine Go.iload_n dX9_copy_7 rfl ?_
                    refine Go.callSi [vI (nI g)] [] dX9_copy_8 lkX9_285 rfl (Nat.le_of_ble_eq_true rfl) rfl (Nat.le_of_ble_eq_true rfl) (m_isSheet (nI g)) ?_
                    refine Go.if_neb_t (tgt := 17) dX9_copy_11 (by decide) h2 ?_
                    refine Go.at 17 rfl ?_
                    refine Go.aload_n dX9_copy_17 rfl ?_
                    refine Go.getR dX9_copy_18 flX9_19 rfl ?_
                    refine Go.iload_n dX9_copy_21 rfl ?_
                    refine Go.iaload f dX9_copy_22 rfl (by omega) rfl ?_
                    refine Go.topE (y := nI 1) e80 ?_
                    refine Go.if_lt_f (tgt := 35) dX9_copy_23 (by decide) (by decide) ?_
                    refine Go.aload_n dX9_copy_26 rfl ?_
                    refine Go.at 27 rfl ?_
                    refine Go.getR dX9_copy_27 flX9_19 rfl ?_
                    refine Go.iload_n dX9_copy_30 rfl ?_
                    refine Go.iaload g dX9_copy_31 rfl (by omega) rfl ?_
                    refine Go.topE (y := nI 1) f80 ?_
                    refine Go.if_ge_t (tgt := 39) dX9_copy_32 (by decide) (by decide) ?_
                    refine Go.aload_n dX9_copy_39 rfl ?_
                    refine Go.getR dX9_copy_40 flX9_19 rfl ?_
                    refine Go.at 43 rfl ?_
                    refine Go.iload_n dX9_copy_43 rfl ?_
                    refine Go.iaload f dX9_copy_44 rfl (by omega) rfl ?_
                    refine Go.topE (y := nI 1) e80 ?_
                    refine Go.aload_n dX9_copy_45 rfl ?_
                    refine Go.getR dX9_copy_46 flX9_19 rfl ?_
                    refine Go.iload_n dX9_copy_49 rfl ?_
                    refine Go.iaload g dX9_copy_50 rfl (by omega) rfl ?_
                    refine Go.topE (y := nI 1) f80 ?_
                    refine Go.at 51 rfl ?_
                    refine Go.icmp_eq_t (tgt := 57) dX9_copy_51 (by decide) (by decide) ?_
                    refine Go.iload_n dX9_copy_57 rfl ?_
                    refine Go.if_lt_f (tgt := 106) dX9_copy_58 (by decide) (fun z => c1 ((lt0I _).mp z)) ?_
                    refine Go.iload dX9_copy_61 rfl ?_
                    refine Go.if_lt_f (tgt := 106) dX9_copy_63 (by decide) (fun z => c2 ((lt0I _).mp z)) ?_
                    refine Go.iload dX9_copy_66 rfl ?_
                    refine Go.at 68 rfl ?_
                    refine Go.if_lt_f (tgt := 106) dX9_copy_68 (by decide) (fun z => c3 ((lt0I _).mp z)) ?_
                    refine Go.iload_n dX9_copy_71 rfl ?_
                    refine Go.i2l dX9_copy_72 ?_
                    refine Go.iload dX9_copy_73 rfl ?_
                    refine Go.i2l dX9_copy_75 ?_
                    refine Go.ladd dX9_copy_76 ?_
                    refine Go.at 77 rfl ?_
                    refine Go.aload_n dX9_copy_77 rfl ?_
                    refine Go.getR dX9_copy_78 flX9_22 rfl ?_
                    refine Go.iload_n dX9_copy_81 rfl ?_
                    refine Go.iaload f dX9_copy_82 rfl (by omega) rfl ?_
                    refine Go.topE (y := nI n1) e81 ?_
                    refine Go.i2l dX9_copy_83 ?_
                    refine Go.lcmp dX9_copy_84 ?_
                    refine Go.at 85 rfl ?_
                    refine Go.if_gt_t (tgt := 106) dX9_copy_85 (by decide) (by rw [lgc_gt, i64_add, Int32.toInt_toInt64, nT24 hn1]; omega) ?_
                    refine Go.ldc_w dX9_copy_106 cnX9_292 ?_
                    refine Go.ireturn .int dX9_copy_109 rfl rfl ?_
                    exact ⟨rfl, Fr.rf _ _⟩
                · skip
                  by_cases c5 : (n2 : Int) < at_.toInt + many.toInt
                  · skip
                    refine OpOK.q (x := (-1000000013)) hS ?_ (fun μ5 k5 => ?_)
                    · show Go V (d + 3) mX8_copy 0 [some (vR 0), some (vI (nI f)), some (vI place), some (vI (nI g)), some (vI at_), some (vI many), none, none] [] μ _
                      refine Go.iload_n dX8_copy_0 rfl ?_
                      refine Go.callSi [vI (nI f)] [] dX8_copy_1 lkX8_227 rfl (Nat.le_of_ble_eq_true rfl) rfl (Nat.le_of_ble_eq_true rfl) (c_isSheet (nI f)) ?_
                      refine Go.if_eqb_f (tgt := 14) dX8_copy_4 (by decide) h1 ?_
                      refine Go.iload_n dX8_copy_7 rfl ?_
                      refine Go.callSi [vI (nI g)] [] dX8_copy_8 lkX8_227 rfl (Nat.le_of_ble_eq_true rfl) rfl (Nat.le_of_ble_eq_true rfl) (c_isSheet (nI g)) ?_
                      refine Go.if_neb_t (tgt := 17) dX8_copy_11 (by decide) h2 ?_
                      refine Go.at 17 rfl ?_
                      refine Go.aload_n dX8_copy_17 rfl ?_
                      refine Go.getR dX8_copy_18 flX8_49 rfl ?_
                      refine Go.iload_n dX8_copy_21 rfl ?_
                      refine Go.aaload (r := 53 + f) f dX8_copy_22 (arSh hf) rfl ?_
                      refine Go.astore (ls' := [some (vR 0), some (vI (nI f)), some (vI place), some (vI (nI g)), some (vI at_), some (vI many), some (vR (53 + f)), none]) dX8_copy_23 (by decide) rfl ?_
                      refine Go.aload_n dX8_copy_25 rfl ?_
                      refine Go.at 26 rfl ?_
                      refine Go.getR dX8_copy_26 flX8_49 rfl ?_
                      refine Go.iload_n dX8_copy_29 rfl ?_
                      refine Go.aaload (r := 53 + g) g dX8_copy_30 (arSh hg) rfl ?_
                      refine Go.astore (ls' := [some (vR 0), some (vI (nI f)), some (vI place), some (vI (nI g)), some (vI at_), some (vI many), some (vR (53 + f)), some (vR (53 + g))]) dX8_copy_31 (by decide) rfl ?_
                      refine Go.aload dX8_copy_33 rfl ?_
                      refine Go.getI dX8_copy_35 flX8_235 (shA hf).1 ?_
                      refine Go.topE (y := nI 1) (a1.trans es) ?_
                      refine Go.at 38 rfl ?_
                      refine Go.iconst (v := (-1)) dX8_copy_38 rfl ?_
                      refine Go.icmp_eq_f (tgt := 51) dX8_copy_39 (by decide) (by decide) ?_
                      refine Go.aload dX8_copy_42 rfl ?_
                      refine Go.getI dX8_copy_44 flX8_235 (shA hg).1 ?_
                      refine Go.topE (y := nI 1) (b1.trans et) ?_
                      refine Go.iconst (v := (-1)) dX8_copy_47 rfl ?_
                      refine Go.icmp_ne_t (tgt := 54) dX8_copy_48 (by decide) (by decide) ?_
                      refine Go.at 54 rfl ?_
                      refine Go.aload dX8_copy_54 rfl ?_
                      refine Go.getI dX8_copy_56 flX8_235 (shA hf).1 ?_
                      refine Go.topE (y := nI 1) (a1.trans es) ?_
                      refine Go.aload dX8_copy_59 rfl ?_
                      refine Go.getI dX8_copy_61 flX8_235 (shA hg).1 ?_
                      refine Go.topE (y := nI 1) (b1.trans et) ?_
                      refine Go.icmp_eq_t (tgt := 70) dX8_copy_64 (by decide) (by decide) ?_
                      refine Go.aload dX8_copy_70 rfl ?_
                      refine Go.at 72 rfl ?_
                      refine Go.iload_n dX8_copy_72 rfl ?_
                      refine Go.iload dX8_copy_73 rfl ?_
                      refine Go.callVi (53 + f) [vI place, vI many] [] dX8_copy_75 lkX8_256 (shA hf).2.2.2.2.1 rfl (Nat.le_of_ble_eq_true rfl) rfl (Nat.le_of_ble_eq_true rfl) (c_hasPlaces (shA hf) place many) ?_
                      refine Go.if_eqb (tgt := 93) dX8_copy_78 (by decide) (fun h78 => ?_) (fun h78 => ?_)
                      · -- 78 taken
                        refine Go.ldc dX8_copy_93 cnX8_242 ?_
                        refine Go.ireturn .int dX8_copy_95 rfl rfl ?_
                        exact ⟨rfl, Fr.rf _ _⟩
                      · -- 78 not
                        refine Go.aload dX8_copy_81 rfl ?_
                        refine Go.iload dX8_copy_83 rfl ?_
                        refine Go.iload dX8_copy_85 rfl ?_
                        refine Go.callVi (53 + g) [vI at_, vI many] [] dX8_copy_87 lkX8_256 (shA hg).2.2.2.2.1 rfl (Nat.le_of_ble_eq_true rfl) rfl (Nat.le_of_ble_eq_true rfl) (c_hasPlaces (shA hg) at_ many) ?_
                        refine Go.if_neb_f (tgt := 96) dX8_copy_90 (by decide) (by rw [b3, en2, hpl_iff _ _ hn2]; omega) ?_
                        refine Go.ldc dX8_copy_93 cnX8_242 ?_
                        refine Go.at 95 rfl ?_
                        refine Go.ireturn .int dX8_copy_95 rfl rfl ?_
                        exact ⟨rfl, Fr.rf _ _⟩
                    · skip
                      have e80 : μ5 80 f = nI 1 := (congrFun (k5 80 (by simp only [List.mem_cons, List.not_mem_nil, or_false]; omega)) f).trans es
                      have f80 : μ5 80 g = nI 1 := (congrFun (k5 80 (by simp only [List.mem_cons, List.not_mem_nil, or_false]; omega)) g).trans et
                      have e81 : μ5 81 f = nI n1 := (congrFun (k5 81 (by simp only [List.mem_cons, List.not_mem_nil, or_false]; omega)) f).trans en1
                      have f81 : μ5 81 g = nI n2 := (congrFun (k5 81 (by simp only [List.mem_cons, List.not_mem_nil, or_false]; omega)) g).trans en2
                      show Go V (d + 3) mX9_copy 0 [some (vR 76), some (vI (nI f)), some (vI place), some (vI (nI g)), some (vI at_), some (vI many), none] [] μ5 _
                      refine Go.iload_n dX9_copy_0 rfl ?_
                      refine Go.callSi [vI (nI f)] [] dX9_copy_1 lkX9_285 rfl (Nat.le_of_ble_eq_true rfl) rfl (Nat.le_of_ble_eq_true rfl) (m_isSheet (nI f)) ?_
                      refine Go.if_eqb_f (tgt := 14) dX9_copy_4 (by decide) h1 ?_
                      refine Go.iload_n dX9_copy_7 rfl ?_
                      refine Go.callSi [vI (nI g)] [] dX9_copy_8 lkX9_285 rfl (Nat.le_of_ble_eq_true rfl) rfl (Nat.le_of_ble_eq_true rfl) (m_isSheet (nI g)) ?_
                      refine Go.if_neb_t (tgt := 17) dX9_copy_11 (by decide) h2 ?_
                      refine Go.at 17 rfl ?_
                      refine Go.aload_n dX9_copy_17 rfl ?_
                      refine Go.getR dX9_copy_18 flX9_19 rfl ?_
                      refine Go.iload_n dX9_copy_21 rfl ?_
                      refine Go.iaload f dX9_copy_22 rfl (by omega) rfl ?_
                      refine Go.topE (y := nI 1) e80 ?_
                      refine Go.if_lt_f (tgt := 35) dX9_copy_23 (by decide) (by decide) ?_
                      refine Go.aload_n dX9_copy_26 rfl ?_
                      refine Go.at 27 rfl ?_
                      refine Go.getR dX9_copy_27 flX9_19 rfl ?_
                      refine Go.iload_n dX9_copy_30 rfl ?_
                      refine Go.iaload g dX9_copy_31 rfl (by omega) rfl ?_
                      refine Go.topE (y := nI 1) f80 ?_
                      refine Go.if_ge_t (tgt := 39) dX9_copy_32 (by decide) (by decide) ?_
                      refine Go.aload_n dX9_copy_39 rfl ?_
                      refine Go.getR dX9_copy_40 flX9_19 rfl ?_
                      refine Go.at 43 rfl ?_
                      refine Go.iload_n dX9_copy_43 rfl ?_
                      refine Go.iaload f dX9_copy_44 rfl (by omega) rfl ?_
                      refine Go.topE (y := nI 1) e80 ?_
                      refine Go.aload_n dX9_copy_45 rfl ?_
                      refine Go.getR dX9_copy_46 flX9_19 rfl ?_
                      refine Go.iload_n dX9_copy_49 rfl ?_
                      refine Go.iaload g dX9_copy_50 rfl (by omega) rfl ?_
                      refine Go.topE (y := nI 1) f80 ?_
                      refine Go.at 51 rfl ?_
                      refine Go.icmp_eq_t (tgt := 57) dX9_copy_51 (by decide) (by decide) ?_
                      refine Go.iload_n dX9_copy_57 rfl ?_
                      refine Go.if_lt_f (tgt := 106) dX9_copy_58 (by decide) (fun z => c1 ((lt0I _).mp z)) ?_
                      refine Go.iload dX9_copy_61 rfl ?_
                      refine Go.if_lt_f (tgt := 106) dX9_copy_63 (by decide) (fun z => c2 ((lt0I _).mp z)) ?_
                      refine Go.iload dX9_copy_66 rfl ?_
                      refine Go.at 68 rfl ?_
                      refine Go.if_lt_f (tgt := 106) dX9_copy_68 (by decide) (fun z => c3 ((lt0I _).mp z)) ?_
                      refine Go.iload_n dX9_copy_71 rfl ?_
                      refine Go.i2l dX9_copy_72 ?_
                      refine Go.iload dX9_copy_73 rfl ?_
                      refine Go.i2l dX9_copy_75 ?_
                      refine Go.ladd dX9_copy_76 ?_
                      refine Go.at 77 rfl ?_
                      refine Go.aload_n dX9_copy_77 rfl ?_
                      refine Go.getR dX9_copy_78 flX9_22 rfl ?_
                      refine Go.iload_n dX9_copy_81 rfl ?_
                      refine Go.iaload f dX9_copy_82 rfl (by omega) rfl ?_
                      refine Go.topE (y := nI n1) e81 ?_
                      refine Go.i2l dX9_copy_83 ?_
                      refine Go.lcmp dX9_copy_84 ?_
                      refine Go.at 85 rfl ?_
                      refine Go.if_gt_f (tgt := 106) dX9_copy_85 (by decide) (by rw [lgc_gt, i64_add, Int32.toInt_toInt64, nT24 hn1]; omega) ?_
                      refine Go.iload dX9_copy_88 rfl ?_
                      refine Go.i2l dX9_copy_90 ?_
                      refine Go.iload dX9_copy_91 rfl ?_
                      refine Go.i2l dX9_copy_93 ?_
                      refine Go.ladd dX9_copy_94 ?_
                      refine Go.at 95 rfl ?_
                      refine Go.aload_n dX9_copy_95 rfl ?_
                      refine Go.getR dX9_copy_96 flX9_22 rfl ?_
                      refine Go.iload_n dX9_copy_99 rfl ?_
                      refine Go.iaload g dX9_copy_100 rfl (by omega) rfl ?_
                      refine Go.topE (y := nI n2) f81 ?_
                      refine Go.i2l dX9_copy_101 ?_
                      refine Go.lcmp dX9_copy_102 ?_
                      refine Go.at 103 rfl ?_
                      refine Go.if_le_f (tgt := 110) dX9_copy_103 (by decide) (by rw [lgc_le, i64_add, Int32.toInt_toInt64, nT24 hn2]; omega) ?_
                      refine Go.ldc_w dX9_copy_106 cnX9_292 ?_
                      refine Go.ireturn .int dX9_copy_109 rfl rfl ?_
                      exact ⟨rfl, Fr.rf _ _⟩
                  · skip
                    obtain ⟨p, hp0, rfl⟩ := natI (x := place) (N := 24) (by omega) (by omega) (by decide)
                    obtain ⟨a, ha0, rfl⟩ := natI (x := at_) (N := 24) (by omega) (by omega) (by decide)
                    obtain ⟨n, hn0, rfl⟩ := natI (x := many) (N := 24) (by omega) (by omega) (by decide)
                    have hpn : p + n ≤ n1 := by rw [nT24 hp0, nT24 hn0] at c4; omega
                    have han : a + n ≤ n2 := by rw [nT24 ha0, nT24 hn0] at c5; omega
                    refine OpOK.of (x := nI n) (P := fun μ1 => Fr [57 + g] μ μ1 ∧ μ1 (57 + g) = va_cpy (μ (57 + f)) (μ (57 + g)) p a n) ?_ (fun μ5 k5 => ?_)
                    · show Go V (d + 3) mX8_copy 0 [some (vR 0), some (vI (nI f)), some (vI (nI p)), some (vI (nI g)), some (vI (nI a)), some (vI (nI n)), none, none] [] μ _
                      refine Go.iload_n dX8_copy_0 rfl ?_
                      refine Go.callSi [vI (nI f)] [] dX8_copy_1 lkX8_227 rfl (Nat.le_of_ble_eq_true rfl) rfl (Nat.le_of_ble_eq_true rfl) (c_isSheet (nI f)) ?_
                      refine Go.if_eqb_f (tgt := 14) dX8_copy_4 (by decide) h1 ?_
                      refine Go.iload_n dX8_copy_7 rfl ?_
                      refine Go.callSi [vI (nI g)] [] dX8_copy_8 lkX8_227 rfl (Nat.le_of_ble_eq_true rfl) rfl (Nat.le_of_ble_eq_true rfl) (c_isSheet (nI g)) ?_
                      refine Go.if_neb_t (tgt := 17) dX8_copy_11 (by decide) h2 ?_
                      refine Go.at 17 rfl ?_
                      refine Go.aload_n dX8_copy_17 rfl ?_
                      refine Go.getR dX8_copy_18 flX8_49 rfl ?_
                      refine Go.iload_n dX8_copy_21 rfl ?_
                      refine Go.aaload (r := 53 + f) f dX8_copy_22 (arSh hf) rfl ?_
                      refine Go.astore (ls' := [some (vR 0), some (vI (nI f)), some (vI (nI p)), some (vI (nI g)), some (vI (nI a)), some (vI (nI n)), some (vR (53 + f)), none]) dX8_copy_23 (by decide) rfl ?_
                      refine Go.aload_n dX8_copy_25 rfl ?_
                      refine Go.at 26 rfl ?_
                      refine Go.getR dX8_copy_26 flX8_49 rfl ?_
                      refine Go.iload_n dX8_copy_29 rfl ?_
                      refine Go.aaload (r := 53 + g) g dX8_copy_30 (arSh hg) rfl ?_
                      refine Go.astore (ls' := [some (vR 0), some (vI (nI f)), some (vI (nI p)), some (vI (nI g)), some (vI (nI a)), some (vI (nI n)), some (vR (53 + f)), some (vR (53 + g))]) dX8_copy_31 (by decide) rfl ?_
                      refine Go.aload dX8_copy_33 rfl ?_
                      refine Go.getI dX8_copy_35 flX8_235 (shA hf).1 ?_
                      refine Go.topE (y := nI 1) (a1.trans es) ?_
                      refine Go.at 38 rfl ?_
                      refine Go.iconst (v := (-1)) dX8_copy_38 rfl ?_
                      refine Go.icmp_eq_f (tgt := 51) dX8_copy_39 (by decide) (by decide) ?_
                      refine Go.aload dX8_copy_42 rfl ?_
                      refine Go.getI dX8_copy_44 flX8_235 (shA hg).1 ?_
                      refine Go.topE (y := nI 1) (b1.trans et) ?_
                      refine Go.iconst (v := (-1)) dX8_copy_47 rfl ?_
                      refine Go.icmp_ne_t (tgt := 54) dX8_copy_48 (by decide) (by decide) ?_
                      refine Go.at 54 rfl ?_
                      refine Go.aload dX8_copy_54 rfl ?_
                      refine Go.getI dX8_copy_56 flX8_235 (shA hf).1 ?_
                      refine Go.topE (y := nI 1) (a1.trans es) ?_
                      refine Go.aload dX8_copy_59 rfl ?_
                      refine Go.getI dX8_copy_61 flX8_235 (shA hg).1 ?_
                      refine Go.topE (y := nI 1) (b1.trans et) ?_
                      refine Go.icmp_eq_t (tgt := 70) dX8_copy_64 (by decide) (by decide) ?_
                      refine Go.aload dX8_copy_70 rfl ?_
                      refine Go.at 72 rfl ?_
                      refine Go.iload_n dX8_copy_72 rfl ?_
                      refine Go.iload dX8_copy_73 rfl ?_
                      refine Go.callVi (53 + f) [vI (nI p), vI (nI n)] [] dX8_copy_75 lkX8_256 (shA hf).2.2.2.2.1 rfl (Nat.le_of_ble_eq_true rfl) rfl (Nat.le_of_ble_eq_true rfl) (c_hasPlaces (shA hf) (nI p) (nI n)) ?_
                      refine Go.if_eqb_f (tgt := 93) dX8_copy_78 (by decide) (by rw [a3, en1, hpl_iff _ _ hn1]; omega) ?_
                      refine Go.aload dX8_copy_81 rfl ?_
                      refine Go.iload dX8_copy_83 rfl ?_
                      refine Go.at 85 rfl ?_
                      refine Go.iload dX8_copy_85 rfl ?_
                      refine Go.callVi (53 + g) [vI (nI a), vI (nI n)] [] dX8_copy_87 lkX8_256 (shA hg).2.2.2.2.1 rfl (Nat.le_of_ble_eq_true rfl) rfl (Nat.le_of_ble_eq_true rfl) (c_hasPlaces (shA hg) (nI a) (nI n)) ?_
                      refine Go.if_neb_t (tgt := 96) dX8_copy_90 (by decide) (by rw [b3, en2, hpl_iff _ _ hn2]; omega) ?_
                      refine Go.aload dX8_copy_96 rfl ?_
                      refine Go.getR dX8_copy_98 flX8_243 (shA hf).2.2.1 ?_
                      refine Go.iload_n dX8_copy_101 rfl ?_
                      refine Go.at 102 rfl ?_
                      refine Go.aload dX8_copy_102 rfl ?_
                      refine Go.getR dX8_copy_104 flX8_243 (shA hg).2.2.1 ?_
                      refine Go.iload dX8_copy_107 rfl ?_
                      refine Go.iload dX8_copy_109 rfl ?_
                      refine Go.copyi p a n dX8_copy_111 acX8 (shA hf).2.2.2.1 (shA hg).2.2.2.1 rfl rfl rfl (by omega) (by omega) (by exact Nat.le_of_ble_eq_true rfl) ?_
                      refine Go.iload dX8_copy_114 rfl ?_
                      refine Go.at 116 rfl ?_
                      refine Go.ireturn .int dX8_copy_116 rfl rfl ?_
                      exact ⟨rfl, (Fr.rf _ _).mw _ (by simp), mw_self _ _ _⟩
                    · skip
                      have e80 : μ5 80 f = nI 1 := (congrFun (k5.1 80 (by simp only [List.mem_cons, List.not_mem_nil, or_false]; omega)) f).trans es
                      have f80 : μ5 80 g = nI 1 := (congrFun (k5.1 80 (by simp only [List.mem_cons, List.not_mem_nil, or_false]; omega)) g).trans et
                      have e81 : μ5 81 f = nI n1 := (congrFun (k5.1 81 (by simp only [List.mem_cons, List.not_mem_nil, or_false]; omega)) f).trans en1
                      have f81 : μ5 81 g = nI n2 := (congrFun (k5.1 81 (by simp only [List.mem_cons, List.not_mem_nil, or_false]; omega)) g).trans en2
                      show Go V (d + 3) mX9_copy 0 [some (vR 76), some (vI (nI f)), some (vI (nI p)), some (vI (nI g)), some (vI (nI a)), some (vI (nI n)), none] [] μ5 _
                      refine Go.iload_n dX9_copy_0 rfl ?_
                      refine Go.callSi [vI (nI f)] [] dX9_copy_1 lkX9_285 rfl (Nat.le_of_ble_eq_true rfl) rfl (Nat.le_of_ble_eq_true rfl) (m_isSheet (nI f)) ?_
                      refine Go.if_eqb_f (tgt := 14) dX9_copy_4 (by decide) h1 ?_
                      refine Go.iload_n dX9_copy_7 rfl ?_
                      refine Go.callSi [vI (nI g)] [] dX9_copy_8 lkX9_285 rfl (Nat.le_of_ble_eq_true rfl) rfl (Nat.le_of_ble_eq_true rfl) (m_isSheet (nI g)) ?_
                      refine Go.if_neb_t (tgt := 17) dX9_copy_11 (by decide) h2 ?_
                      refine Go.at 17 rfl ?_
                      refine Go.aload_n dX9_copy_17 rfl ?_
                      refine Go.getR dX9_copy_18 flX9_19 rfl ?_
                      refine Go.iload_n dX9_copy_21 rfl ?_
                      refine Go.iaload f dX9_copy_22 rfl (by omega) rfl ?_
                      refine Go.topE (y := nI 1) e80 ?_
                      refine Go.if_lt_f (tgt := 35) dX9_copy_23 (by decide) (by decide) ?_
                      refine Go.aload_n dX9_copy_26 rfl ?_
                      refine Go.at 27 rfl ?_
                      refine Go.getR dX9_copy_27 flX9_19 rfl ?_
                      refine Go.iload_n dX9_copy_30 rfl ?_
                      refine Go.iaload g dX9_copy_31 rfl (by omega) rfl ?_
                      refine Go.topE (y := nI 1) f80 ?_
                      refine Go.if_ge_t (tgt := 39) dX9_copy_32 (by decide) (by decide) ?_
                      refine Go.aload_n dX9_copy_39 rfl ?_
                      refine Go.getR dX9_copy_40 flX9_19 rfl ?_
                      refine Go.at 43 rfl ?_
                      refine Go.iload_n dX9_copy_43 rfl ?_
                      refine Go.iaload f dX9_copy_44 rfl (by omega) rfl ?_
                      refine Go.topE (y := nI 1) e80 ?_
                      refine Go.aload_n dX9_copy_45 rfl ?_
                      refine Go.getR dX9_copy_46 flX9_19 rfl ?_
                      refine Go.iload_n dX9_copy_49 rfl ?_
                      refine Go.iaload g dX9_copy_50 rfl (by omega) rfl ?_
                      refine Go.topE (y := nI 1) f80 ?_
                      refine Go.at 51 rfl ?_
                      refine Go.icmp_eq_t (tgt := 57) dX9_copy_51 (by decide) (by decide) ?_
                      refine Go.iload_n dX9_copy_57 rfl ?_
                      refine Go.if_lt_f (tgt := 106) dX9_copy_58 (by decide) (fun z => c1 ((lt0I _).mp z)) ?_
                      refine Go.iload dX9_copy_61 rfl ?_
                      refine Go.if_lt_f (tgt := 106) dX9_copy_63 (by decide) (fun z => c2 ((lt0I _).mp z)) ?_
                      refine Go.iload dX9_copy_66 rfl ?_
                      refine Go.at 68 rfl ?_
                      refine Go.if_lt_f (tgt := 106) dX9_copy_68 (by decide) (fun z => c3 ((lt0I _).mp z)) ?_
                      refine Go.iload_n dX9_copy_71 rfl ?_
                      refine Go.i2l dX9_copy_72 ?_
                      refine Go.iload dX9_copy_73 rfl ?_
                      refine Go.i2l dX9_copy_75 ?_
                      refine Go.ladd dX9_copy_76 ?_
                      refine Go.at 77 rfl ?_
                      refine Go.aload_n dX9_copy_77 rfl ?_
                      refine Go.getR dX9_copy_78 flX9_22 rfl ?_
                      refine Go.iload_n dX9_copy_81 rfl ?_
                      refine Go.iaload f dX9_copy_82 rfl (by omega) rfl ?_
                      refine Go.topE (y := nI n1) e81 ?_
                      refine Go.i2l dX9_copy_83 ?_
                      refine Go.lcmp dX9_copy_84 ?_
                      refine Go.at 85 rfl ?_
                      refine Go.if_gt_f (tgt := 106) dX9_copy_85 (by decide) (by rw [lgc_gt, i64_add, Int32.toInt_toInt64, nT24 hn1]; omega) ?_
                      refine Go.iload dX9_copy_88 rfl ?_
                      refine Go.i2l dX9_copy_90 ?_
                      refine Go.iload dX9_copy_91 rfl ?_
                      refine Go.i2l dX9_copy_93 ?_
                      refine Go.ladd dX9_copy_94 ?_
                      refine Go.at 95 rfl ?_
                      refine Go.aload_n dX9_copy_95 rfl ?_
                      refine Go.getR dX9_copy_96 flX9_22 rfl ?_
                      refine Go.iload_n dX9_copy_99 rfl ?_
                      refine Go.iaload g dX9_copy_100 rfl (by omega) rfl ?_
                      refine Go.topE (y := nI n2) f81 ?_
                      refine Go.i2l dX9_copy_101 ?_
                      refine Go.lcmp dX9_copy_102 ?_
                      refine Go.at 103 rfl ?_
                      refine Go.if_le_t (tgt := 110) dX9_copy_103 (by decide) (by rw [lgc_le, i64_add, Int32.toInt_toInt64, nT24 hn2]; omega) ?_
                      refine Go.iconst (v := nI 0) dX9_copy_110 rfl ?_
                      refine Go.istore (ls' := [some (vR 76), some (vI (nI f)), some (vI (nI p)), some (vI (nI g)), some (vI (nI a)), some (vI (nI n)), some (vI (nI 0))]) dX9_copy_111 (by decide) rfl ?_
                      refine m_copy1 hf hg (by omega) (by omega) (fun μ7 i7 => ?_) n 0 _ (by omega) ⟨Fr.rf _ _, fun t ht => absurd ht (by omega)⟩
                      refine Go.iconst (v := nI 0) dX9_copy_147 rfl ?_
                      refine Go.istore (ls' := [some (vR 76), some (vI (nI f)), some (vI (nI p)), some (vI (nI g)), some (vI (nI a)), some (vI (nI n)), some (vI (nI 0))]) dX9_copy_148 (by decide) rfl ?_
                      refine m_copy2 hf hg (by omega) (by omega) (fun μ8 i8 => ?_) n 0 _ (by omega) ⟨Fr.rf _ _, fun t ht => absurd ht (by omega), fun z _ => rfl⟩
                      refine Go.iload dX9_copy_185 rfl ?_
                      refine Go.ireturn .int dX9_copy_187 rfl rfl ?_
                      have kf : ∀ o, o ≠ 57 + g → o ≠ 82 → o ≠ 92 → μ8 o = μ o := fun o g1 g2 g3 => by
                        rw [i8.1 o (by simp only [List.mem_cons, List.not_mem_nil, or_false]; exact g2), i7.1 o (by simp only [List.mem_cons, List.not_mem_nil, or_false]; exact g3), k5.1 o (by simp only [List.mem_cons, List.not_mem_nil, or_false]; exact g1)]
                      have e7 : μ7 82 = μ 82 := by rw [i7.1 82 (by decide), k5.1 82 (by simp only [List.mem_cons, List.not_mem_nil, or_false]; omega)]
                      have e5 : μ5 82 = μ 82 := k5.1 82 (by simp only [List.mem_cons, List.not_mem_nil, or_false]; omega)
                      refine ⟨rfl, hS.sheet hg (fun o g1 g2 g3 g4 g5 g6 => kf o g2 g5 g6) (fun q hq hne => by rw [kf 80 (by omega) (by decide) (by decide)]) (fun q hq hne => by rw [kf 81 (by omega) (by decide) (by decide)]) (fun q j hq hne hj => by rw [i8.2.2 _ (by omega), e7]) ?_⟩
                      rw [kf 80 (by omega) (by decide) (by decide), kf 81 (by omega) (by decide) (by decide), kf (53 + g) (by omega) (by omega) (by omega)]
                      refine ⟨b1, Or.inr (Or.inr et), b3, ⟨n2, hn2, en2⟩, fun j hj => ?_⟩
                      rw [i8.1 (57 + g) (by simp only [List.mem_cons, List.not_mem_nil, or_false]; omega), i7.1 (57 + g) (by simp only [List.mem_cons, List.not_mem_nil, or_false]; omega), k5.2, va_cpy]
                      by_cases z : a ≤ j ∧ j < a + n
                      · rw [if_pos z, a4 _ (by omega), show 24 * g + j = 24 * g + a + (j - a) by omega, i8.2.1 _ (by omega), i7.2 _ (by omega), e5]
                        congr 1; omega
                      · rw [if_neg z, b4 j hj, i8.2.2 _ (by omega), e7]
    · skip
      refine OpOK.q (x := (-1000000001)) hS ?_ (fun μ5 k5 => ?_)
      · show Go V (d + 3) mX8_copy 0 [some (vR 0), some (vI k0), some (vI place), some (vI k1_), some (vI at_), some (vI many), none, none] [] μ _
        refine Go.iload_n dX8_copy_0 rfl ?_
        refine Go.callSi [vI k0] [] dX8_copy_1 lkX8_227 rfl (Nat.le_of_ble_eq_true rfl) rfl (Nat.le_of_ble_eq_true rfl) (c_isSheet k0) ?_
        refine Go.if_eqb_f (tgt := 14) dX8_copy_4 (by decide) h1 ?_
        refine Go.iload_n dX8_copy_7 rfl ?_
        refine Go.callSi [vI k1_] [] dX8_copy_8 lkX8_227 rfl (Nat.le_of_ble_eq_true rfl) rfl (Nat.le_of_ble_eq_true rfl) (c_isSheet k1_) ?_
        refine Go.if_neb_f (tgt := 17) dX8_copy_11 (by decide) h2 ?_
        refine Go.at 14 rfl ?_
        refine Go.ldc dX8_copy_14 cnX8_76 ?_
        refine Go.ireturn .int dX8_copy_16 rfl rfl ?_
        exact ⟨rfl, Fr.rf _ _⟩
      · skip
        show Go V (d + 3) mX9_copy 0 [some (vR 76), some (vI k0), some (vI place), some (vI k1_), some (vI at_), some (vI many), none] [] μ5 _
        refine Go.iload_n dX9_copy_0 rfl ?_
        refine Go.callSi [vI k0] [] dX9_copy_1 lkX9_285 rfl (Nat.le_of_ble_eq_true rfl) rfl (Nat.le_of_ble_eq_true rfl) (m_isSheet k0) ?_
        refine Go.if_eqb_f (tgt := 14) dX9_copy_4 (by decide) h1 ?_
        refine Go.iload_n dX9_copy_7 rfl ?_
        refine Go.callSi [vI k1_] [] dX9_copy_8 lkX9_285 rfl (Nat.le_of_ble_eq_true rfl) rfl (Nat.le_of_ble_eq_true rfl) (m_isSheet k1_) ?_
        refine Go.if_neb_f (tgt := 17) dX9_copy_11 (by decide) h2 ?_
        refine Go.at 14 rfl ?_
        refine Go.ldc dX9_copy_14 cnX9_98 ?_
        refine Go.ireturn .int dX9_copy_16 rfl rfl ?_
        exact ⟨rfl, Fr.rf _ _⟩
  · skip
    refine OpOK.q (x := (-1000000001)) hS ?_ (fun μ5 k5 => ?_)
    · show Go V (d + 3) mX8_copy 0 [some (vR 0), some (vI k0), some (vI place), some (vI k1_), some (vI at_), some (vI many), none, none] [] μ _
      refine Go.iload_n dX8_copy_0 rfl ?_
      refine Go.callSi [vI k0] [] dX8_copy_1 lkX8_227 rfl (Nat.le_of_ble_eq_true rfl) rfl (Nat.le_of_ble_eq_true rfl) (c_isSheet k0) ?_
      refine Go.if_eqb_t (tgt := 14) dX8_copy_4 (by decide) h1 ?_
      refine Go.ldc dX8_copy_14 cnX8_76 ?_
      refine Go.ireturn .int dX8_copy_16 rfl rfl ?_
      exact ⟨rfl, Fr.rf _ _⟩
    · skip
      show Go V (d + 3) mX9_copy 0 [some (vR 76), some (vI k0), some (vI place), some (vI k1_), some (vI at_), some (vI many), none] [] μ5 _
      refine Go.iload_n dX9_copy_0 rfl ?_
      refine Go.callSi [vI k0] [] dX9_copy_1 lkX9_285 rfl (Nat.le_of_ble_eq_true rfl) rfl (Nat.le_of_ble_eq_true rfl) (m_isSheet k0) ?_
      refine Go.if_eqb_t (tgt := 14) dX9_copy_4 (by decide) h1 ?_
      refine Go.ldc dX9_copy_14 cnX9_98 ?_
      refine Go.ireturn .int dX9_copy_16 rfl rfl ?_
      exact ⟨rfl, Fr.rf _ _⟩
