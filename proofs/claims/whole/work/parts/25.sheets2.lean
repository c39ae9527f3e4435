theorem Sim.mark {μ μ5 : Memo} (hS : Sim μ) {k : Nat} (hk : k < 4) (k5 : Fr [57 + k] μ μ5) {p : Nat} (hp : p < 24) {y : Int32} (e : μ5 (57 + k) = upd (μ (57 + k)) p y) : Sim (ms μ5 82 (24 * k + p) y) := by
  have k6 : ∀ o, o ≠ 57 + k → μ5 o = μ o := fun o h => k5 o (by simp only [List.mem_cons, List.not_mem_nil, or_false]; exact h)
  obtain ⟨a1, a2, a3, a4, a5⟩ := hS.2.2.2.2.1 k hk
  refine hS.sheet hk (fun o h1 h2 h3 h4 h5 h6 => by rw [ms_ne _ _ _ h5]; exact k6 o h2) (fun q hq hne => by rw [ms_ne _ _ _ (by decide), k6 80 (by omega)]) (fun q hq hne => by rw [ms_ne _ _ _ (by decide), k6 81 (by omega)]) (fun q j hq hne hj => by rw [ms_self, upd_ne _ _ (by omega), k6 82 (by omega)]) ?_
  rw [ms_ne _ _ _ (by omega), ms_ne _ _ _ (by omega), ms_ne _ _ _ (by omega), ms_ne _ _ _ (by omega), ms_self, k6 80 (by omega), k6 81 (by omega), k6 82 (by omega), k6 (53 + k) (by omega), e]
  refine ⟨a1, a2, a3, a4, fun j hj => ?_⟩
  by_cases z : j = p
  · subst z; rw [upd_self, upd_self]
  · rw [upd_ne _ _ z, upd_ne _ _ (by omega)]; exact a5 j hj
theorem op_mark {V : VV} {d : Nat} {μ : Memo} (hS : Sim μ) (k0 : Int32) (place : Int32) (v : Int32) : OpOK V (d + 3) mX8_mark mX9_mark [vI k0, vI place, vI v] μ := by
  obtain ⟨⟨hT, hCo, hKd, hO, hH⟩, hI, hX, hIm, hSh, hSl, hTp, hWt⟩ := id hS
  by_cases h1 : nI 0 ≤ k0 ∧ k0 ≤ nI 3
  · skip
    obtain ⟨k, hk0, rfl⟩ := in_nI (by decide) h1
    have hk : k < 4 := by omega
    obtain ⟨a1, a2, a3, ⟨n, hn, en⟩, a4⟩ := hSh k hk
    rcases a2 with es | es | es
    · skip
      refine OpOK.q (x := (-1000000011)) hS ?_ (fun μ5 k5 => ?_)
      · show Go V (d + 3) mX8_mark 0 [some (vR 0), some (vI (nI k)), some (vI place), some (vI v), none] [] μ _
        refine Go.iload_n dX8_mark_0 rfl ?_
        refine Go.callSi [vI (nI k)] [] dX8_mark_1 lkX8_227 rfl (Nat.le_of_ble_eq_true rfl) rfl (Nat.le_of_ble_eq_true rfl) (c_isSheet (nI k)) ?_
        refine Go.if_neb_t (tgt := 10) dX8_mark_4 (by decide) h1 ?_
        refine Go.aload_n dX8_mark_10 rfl ?_
        refine Go.getR dX8_mark_11 flX8_49 rfl ?_
        refine Go.iload_n dX8_mark_14 rfl ?_
        refine Go.at 15 rfl ?_
        refine Go.aaload (r := 53 + k) k dX8_mark_15 (arSh hk) rfl ?_
        refine Go.astore (ls' := [some (vR 0), some (vI (nI k)), some (vI place), some (vI v), some (vR (53 + k))]) dX8_mark_16 (by decide) rfl ?_
        refine Go.aload dX8_mark_18 rfl ?_
        refine Go.getI dX8_mark_20 flX8_235 (shA hk).1 ?_
        refine Go.topE (y := (-1)) (a1.trans es) ?_
        refine Go.iconst (v := (-1)) dX8_mark_23 rfl ?_
        refine Go.icmp_ne_f (tgt := 30) dX8_mark_24 (by decide) (by decide) ?_
        refine Go.at 27 rfl ?_
        refine Go.ldc dX8_mark_27 cnX8_238 ?_
        refine Go.ireturn .int dX8_mark_29 rfl rfl ?_
        exact ⟨rfl, Fr.rf _ _⟩
      · skip
        have e80 : μ5 80 k = (-1) := (congrFun (k5 80 (by simp only [List.mem_cons, List.not_mem_nil, or_false]; omega)) k).trans es
        have e81 : μ5 81 k = nI n := (congrFun (k5 81 (by simp only [List.mem_cons, List.not_mem_nil, or_false]; omega)) k).trans en
        show Go V (d + 3) mX9_mark 0 [some (vR 76), some (vI (nI k)), some (vI place), some (vI v)] [] μ5 _
        refine Go.iload_n dX9_mark_0 rfl ?_
        refine Go.callSi [vI (nI k)] [] dX9_mark_1 lkX9_285 rfl (Nat.le_of_ble_eq_true rfl) rfl (Nat.le_of_ble_eq_true rfl) (m_isSheet (nI k)) ?_
        refine Go.if_neb_t (tgt := 10) dX9_mark_4 (by decide) h1 ?_
        refine Go.aload_n dX9_mark_10 rfl ?_
        refine Go.getR dX9_mark_11 flX9_19 rfl ?_
        refine Go.iload_n dX9_mark_14 rfl ?_
        refine Go.at 15 rfl ?_
        refine Go.iaload k dX9_mark_15 rfl (by omega) rfl ?_
        refine Go.topE (y := (-1)) e80 ?_
        refine Go.if_ge_f (tgt := 23) dX9_mark_16 (by decide) (by decide) ?_
        refine Go.ldc_w dX9_mark_19 cnX9_291 ?_
        refine Go.ireturn .int dX9_mark_22 rfl rfl ?_
        exact ⟨rfl, Fr.rf _ _⟩
    · skip
      by_cases hp : 0 ≤ place ∧ place < nI n
      · skip
        obtain ⟨p, hpn, rfl⟩ : ∃ p, p < n ∧ place = nI p := ⟨place.toInt.toNat, by simp only [sI_le, sI_lt, nT, Int32.toInt_zero] at hp; omega, by rw [sI_eq, nT]; simp only [sI_le, sI_lt, nT, Int32.toInt_zero] at hp; omega⟩
        by_cases hv : v = (-1000000005)
        · skip
          subst hv
          refine OpOK.q (x := (-1000000012)) hS ?_ (fun μ5 k5 => ?_)
          · show Go V (d + 3) mX8_mark 0 [some (vR 0), some (vI (nI k)), some (vI (nI p)), some (vI (-1000000005)), none] [] μ _
            refine Go.iload_n dX8_mark_0 rfl ?_
            refine Go.callSi [vI (nI k)] [] dX8_mark_1 lkX8_227 rfl (Nat.le_of_ble_eq_true rfl) rfl (Nat.le_of_ble_eq_true rfl) (c_isSheet (nI k)) ?_
            refine Go.if_neb_t (tgt := 10) dX8_mark_4 (by decide) h1 ?_
            refine Go.aload_n dX8_mark_10 rfl ?_
            refine Go.getR dX8_mark_11 flX8_49 rfl ?_
            refine Go.iload_n dX8_mark_14 rfl ?_
            refine Go.at 15 rfl ?_
            refine Go.aaload (r := 53 + k) k dX8_mark_15 (arSh hk) rfl ?_
            refine Go.astore (ls' := [some (vR 0), some (vI (nI k)), some (vI (nI p)), some (vI (-1000000005)), some (vR (53 + k))]) dX8_mark_16 (by decide) rfl ?_
            refine Go.aload dX8_mark_18 rfl ?_
            refine Go.getI dX8_mark_20 flX8_235 (shA hk).1 ?_
            refine Go.topE (y := nI 0) (a1.trans es) ?_
            refine Go.iconst (v := (-1)) dX8_mark_23 rfl ?_
            refine Go.icmp_ne_t (tgt := 30) dX8_mark_24 (by decide) (by decide) ?_
            refine Go.at 30 rfl ?_
            refine Go.aload dX8_mark_30 rfl ?_
            refine Go.iload_n dX8_mark_32 rfl ?_
            refine Go.callVi (53 + k) [vI (nI p)] [] dX8_mark_33 lkX8_239 (shA hk).2.2.2.2.1 rfl (Nat.le_of_ble_eq_true rfl) rfl (Nat.le_of_ble_eq_true rfl) (c_hasPlace (shA hk) (nI p)) ?_
            refine Go.if_neb_t (tgt := 42) dX8_mark_36 (by decide) (by rw [a3, en]; exact hp) ?_
            refine Go.aload dX8_mark_42 rfl ?_
            refine Go.getI dX8_mark_44 flX8_235 (shA hk).1 ?_
            refine Go.topE (y := nI 0) (a1.trans es) ?_
            refine Go.at 47 rfl ?_
            refine Go.if_ne_f (tgt := 70) dX8_mark_47 (by decide) (by decide) ?_
            refine Go.iload_n dX8_mark_50 rfl ?_
            refine Go.ldc dX8_mark_51 cnX8_118 ?_
            refine Go.icmp_ne_f (tgt := 59) dX8_mark_53 (by decide) (by decide) ?_
            refine Go.ldc dX8_mark_56 cnX8_117 ?_
            refine Go.ireturn .int dX8_mark_58 rfl rfl ?_
            exact ⟨rfl, Fr.rf _ _⟩
          · skip
            have e80 : μ5 80 k = nI 0 := (congrFun (k5 80 (by simp only [List.mem_cons, List.not_mem_nil, or_false]; omega)) k).trans es
            have e81 : μ5 81 k = nI n := (congrFun (k5 81 (by simp only [List.mem_cons, List.not_mem_nil, or_false]; omega)) k).trans en
            show Go V (d + 3) mX9_mark 0 [some (vR 76), some (vI (nI k)), some (vI (nI p)), some (vI (-1000000005))] [] μ5 _
            refine Go.iload_n dX9_mark_0 rfl ?_
            refine Go.callSi [vI (nI k)] [] dX9_mark_1 lkX9_285 rfl (Nat.le_of_ble_eq_true rfl) rfl (Nat.le_of_ble_eq_true rfl) (m_isSheet (nI k)) ?_
            refine Go.if_neb_t (tgt := 10) dX9_mark_4 (by decide) h1 ?_
            refine Go.aload_n dX9_mark_10 rfl ?_
            refine Go.getR dX9_mark_11 flX9_19 rfl ?_
            refine Go.iload_n dX9_mark_14 rfl ?_
            refine Go.at 15 rfl ?_
            refine Go.iaload k dX9_mark_15 rfl (by omega) rfl ?_
            refine Go.topE (y := nI 0) e80 ?_
            refine Go.if_ge_t (tgt := 23) dX9_mark_16 (by decide) (by decide) ?_
            refine Go.iload_n dX9_mark_23 rfl ?_
            refine Go.i2l dX9_mark_24 ?_
            refine Go.lconst (v := (nI 0).toInt64) dX9_mark_25 rfl ?_
            refine Go.aload_n dX9_mark_26 rfl ?_
            refine Go.at 27 rfl ?_
            refine Go.getR dX9_mark_27 flX9_22 rfl ?_
            refine Go.iload_n dX9_mark_30 rfl ?_
            refine Go.iaload k dX9_mark_31 rfl (by omega) rfl ?_
            refine Go.topE (y := nI n) e81 ?_
            refine Go.iconst (v := nI 1) dX9_mark_32 rfl ?_
            refine Go.isub dX9_mark_33 ?_
            refine Go.i2l dX9_mark_34 ?_
            refine Go.at 35 rfl ?_
            refine Go.callSi [vL ((nI p).toInt64), vL ((nI 0).toInt64), vL (((nI n) - (nI 1)).toInt64)] [] dX9_mark_35 lkX9_65 rfl (Nat.le_of_ble_eq_true rfl) rfl (Nat.le_of_ble_eq_true rfl) (m_isIn (nI p) (nI 0) ((nI n) - (nI 1))) ?_
            refine Go.if_neb_t (tgt := 45) dX9_mark_38 (by decide) (by simp only [sI_le, sI_lt, tI_sub, nT, Int32.toInt_zero] at *; omega) ?_
            refine Go.aload_n dX9_mark_45 rfl ?_
            refine Go.getR dX9_mark_46 flX9_19 rfl ?_
            refine Go.iload_n dX9_mark_49 rfl ?_
            refine Go.iaload k dX9_mark_50 rfl (by omega) rfl ?_
            refine Go.topE (y := nI 0) e80 ?_
            refine Go.at 51 rfl ?_
            refine Go.if_ne_f (tgt := 63) dX9_mark_51 (by decide) (by decide) ?_
            refine Go.iload_n dX9_mark_54 rfl ?_
            refine Go.ldc dX9_mark_55 cnX9_64 ?_
            refine Go.icmp_ne_f (tgt := 63) dX9_mark_57 (by decide) (by decide) ?_
            refine Go.ldc dX9_mark_60 cnX9_119 ?_
            refine Go.ireturn .int dX9_mark_62 rfl rfl ?_
            exact ⟨rfl, Fr.rf _ _⟩
        · skip
          refine OpOK.of (x := nI 1) (P := fun μ1 => Fr [57 + k] μ μ1 ∧ μ1 (57 + k) = upd (μ (57 + k)) p v.toInt16.toInt32) ?_ (fun μ5 k5 => ?_)
          · show Go V (d + 3) mX8_mark 0 [some (vR 0), some (vI (nI k)), some (vI (nI p)), some (vI v), none] [] μ _
            refine Go.iload_n dX8_mark_0 rfl ?_
            refine Go.callSi [vI (nI k)] [] dX8_mark_1 lkX8_227 rfl (Nat.le_of_ble_eq_true rfl) rfl (Nat.le_of_ble_eq_true rfl) (c_isSheet (nI k)) ?_
            refine Go.if_neb_t (tgt := 10) dX8_mark_4 (by decide) h1 ?_
            refine Go.aload_n dX8_mark_10 rfl ?_
            refine Go.getR dX8_mark_11 flX8_49 rfl ?_
            refine Go.iload_n dX8_mark_14 rfl ?_
            refine Go.at 15 rfl ?_
            refine Go.aaload (r := 53 + k) k dX8_mark_15 (arSh hk) rfl ?_
            refine Go.astore (ls' := [some (vR 0), some (vI (nI k)), some (vI (nI p)), some (vI v), some (vR (53 + k))]) dX8_mark_16 (by decide) rfl ?_
            refine Go.aload dX8_mark_18 rfl ?_
            refine Go.getI dX8_mark_20 flX8_235 (shA hk).1 ?_
            refine Go.topE (y := nI 0) (a1.trans es) ?_
            refine Go.iconst (v := (-1)) dX8_mark_23 rfl ?_
            refine Go.icmp_ne_t (tgt := 30) dX8_mark_24 (by decide) (by decide) ?_
            refine Go.at 30 rfl ?_
            refine Go.aload dX8_mark_30 rfl ?_
            refine Go.iload_n dX8_mark_32 rfl ?_
            refine Go.callVi (53 + k) [vI (nI p)] [] dX8_mark_33 lkX8_239 (shA hk).2.2.2.2.1 rfl (Nat.le_of_ble_eq_true rfl) rfl (Nat.le_of_ble_eq_true rfl) (c_hasPlace (shA hk) (nI p)) ?_
            refine Go.if_neb_t (tgt := 42) dX8_mark_36 (by decide) (by rw [a3, en]; exact hp) ?_
            refine Go.aload dX8_mark_42 rfl ?_
            refine Go.getI dX8_mark_44 flX8_235 (shA hk).1 ?_
            refine Go.topE (y := nI 0) (a1.trans es) ?_
            refine Go.at 47 rfl ?_
            refine Go.if_ne_f (tgt := 70) dX8_mark_47 (by decide) (by decide) ?_
            refine Go.iload_n dX8_mark_50 rfl ?_
            refine Go.ldc dX8_mark_51 cnX8_118 ?_
            refine Go.icmp_ne_t (tgt := 59) dX8_mark_53 (by decide) hv ?_
            refine Go.aload dX8_mark_59 rfl ?_
            refine Go.getR dX8_mark_61 flX8_243 (shA hk).2.2.1 ?_
            refine Go.at 64 rfl ?_
            refine Go.iload_n dX8_mark_64 rfl ?_
            refine Go.iload_n dX8_mark_65 rfl ?_
            refine Go.i2s dX8_mark_66 ?_
            refine Go.iastore p dX8_mark_67 (shA hk).2.2.2.1 (by omega) rfl ?_
            refine Go.iconst (v := nI 1) dX8_mark_68 rfl ?_
            refine Go.ireturn .int dX8_mark_69 rfl rfl ?_
            exact ⟨rfl, (Fr.rf _ _).ms _ _ (by simp), ms_self _ _ _ _⟩
          · skip
            have e80 : μ5 80 k = nI 0 := (congrFun (k5.1 80 (by simp only [List.mem_cons, List.not_mem_nil, or_false]; omega)) k).trans es
            have e81 : μ5 81 k = nI n := (congrFun (k5.1 81 (by simp only [List.mem_cons, List.not_mem_nil, or_false]; omega)) k).trans en
            show Go V (d + 3) mX9_mark 0 [some (vR 76), some (vI (nI k)), some (vI (nI p)), some (vI v)] [] μ5 _
            refine Go.iload_n dX9_mark_0 rfl ?_
            refine Go.callSi [vI (nI k)] [] dX9_mark_1 lkX9_285 rfl (Nat.le_of_ble_eq_true rfl) rfl (Nat.le_of_ble_eq_true rfl) (m_isSheet (nI k)) ?_
            refine Go.if_neb_t (tgt := 10) dX9_mark_4 (by decide) h1 ?_
            refine Go.aload_n dX9_mark_10 rfl ?_
            refine Go.getR dX9_mark_11 flX9_19 rfl ?_
            refine Go.iload_n dX9_mark_14 rfl ?_
            refine Go.at 15 rfl ?_
            refine Go.iaload k dX9_mark_15 rfl (by omega) rfl ?_
            refine Go.topE (y := nI 0) e80 ?_
            refine Go.if_ge_t (tgt := 23) dX9_mark_16 (by decide) (by decide) ?_
            refine Go.iload_n dX9_mark_23 rfl ?_
            refine Go.i2l dX9_mark_24 ?_
            refine Go.lconst (v := (nI 0).toInt64) dX9_mark_25 rfl ?_
            refine Go.aload_n dX9_mark_26 rfl ?_
            refine Go.at 27 rfl ?_
            refine Go.getR dX9_mark_27 flX9_22 rfl ?_
            refine Go.iload_n dX9_mark_30 rfl ?_
            refine Go.iaload k dX9_mark_31 rfl (by omega) rfl ?_
            refine Go.topE (y := nI n) e81 ?_
            refine Go.iconst (v := nI 1) dX9_mark_32 rfl ?_
            refine Go.isub dX9_mark_33 ?_
            refine Go.i2l dX9_mark_34 ?_
            refine Go.at 35 rfl ?_
            refine Go.callSi [vL ((nI p).toInt64), vL ((nI 0).toInt64), vL (((nI n) - (nI 1)).toInt64)] [] dX9_mark_35 lkX9_65 rfl (Nat.le_of_ble_eq_true rfl) rfl (Nat.le_of_ble_eq_true rfl) (m_isIn (nI p) (nI 0) ((nI n) - (nI 1))) ?_
            refine Go.if_neb_t (tgt := 45) dX9_mark_38 (by decide) (by simp only [sI_le, sI_lt, tI_sub, nT, Int32.toInt_zero] at *; omega) ?_
            refine Go.aload_n dX9_mark_45 rfl ?_
            refine Go.getR dX9_mark_46 flX9_19 rfl ?_
            refine Go.iload_n dX9_mark_49 rfl ?_
            refine Go.iaload k dX9_mark_50 rfl (by omega) rfl ?_
            refine Go.topE (y := nI 0) e80 ?_
            refine Go.at 51 rfl ?_
            refine Go.if_ne_f (tgt := 63) dX9_mark_51 (by decide) (by decide) ?_
            refine Go.iload_n dX9_mark_54 rfl ?_
            refine Go.ldc dX9_mark_55 cnX9_64 ?_
            refine Go.icmp_ne_t (tgt := 63) dX9_mark_57 (by decide) hv ?_
            refine Go.aload_n dX9_mark_63 rfl ?_
            refine Go.getR dX9_mark_64 flX9_19 rfl ?_
            refine Go.at 67 rfl ?_
            refine Go.iload_n dX9_mark_67 rfl ?_
            refine Go.iaload k dX9_mark_68 rfl (by omega) rfl ?_
            refine Go.topE (y := nI 0) e80 ?_
            refine Go.iconst (v := nI 1) dX9_mark_69 rfl ?_
            refine Go.icmp_ne_t (tgt := 96) dX9_mark_70 (by decide) (by decide) ?_
            refine Go.aload_n dX9_mark_96 rfl ?_
            refine Go.getR dX9_mark_97 flX9_25 rfl ?_
            refine Go.at 100 rfl ?_
            refine Go.bipush (v := nI 24) dX9_mark_100 rfl ?_
            refine Go.iload_n dX9_mark_102 rfl ?_
            refine Go.imulN dX9_mark_103 ?_
            refine Go.iload_n dX9_mark_104 rfl ?_
            refine Go.iaddN dX9_mark_105 ?_
            refine Go.aload_n dX9_mark_106 rfl ?_
            refine Go.at 107 rfl ?_
            refine Go.getR dX9_mark_107 flX9_19 rfl ?_
            refine Go.iload_n dX9_mark_110 rfl ?_
            refine Go.iaload k dX9_mark_111 rfl (by omega) rfl ?_
            refine Go.topE (y := nI 0) e80 ?_
            refine Go.if_ne_f (tgt := 125) dX9_mark_112 (by decide) (by decide) ?_
            refine Go.iload_n dX9_mark_115 rfl ?_
            refine Go.bipush (v := nI 16) dX9_mark_116 rfl ?_
            refine Go.at 118 rfl ?_
            refine Go.ishl dX9_mark_118 ?_
            refine Go.bipush (v := nI 16) dX9_mark_119 rfl ?_
            refine Go.ishr dX9_mark_121 ?_
            refine Go.topE (y := v.toInt16.toInt32) (i2s_eq v) ?_
            refine Go.goto (tgt := 126) dX9_mark_122 (by decide) ?_
            refine Go.iastore ((24 * k) + p) dX9_mark_126 rfl (by omega) rfl ?_
            refine Go.iconst (v := nI 1) dX9_mark_127 rfl ?_
            refine Go.at 128 rfl ?_
            refine Go.ireturn .int dX9_mark_128 rfl rfl ?_
            exact ⟨rfl, hS.mark hk k5.1 (by omega) k5.2⟩
      · skip
        refine OpOK.q (x := (-1000000013)) hS ?_ (fun μ5 k5 => ?_)
        · show Go V (d + 3) mX8_mark 0 [some (vR 0), some (vI (nI k)), some (vI place), some (vI v), none] [] μ _
          refine Go.iload_n dX8_mark_0 rfl ?_
          refine Go.callSi [vI (nI k)] [] dX8_mark_1 lkX8_227 rfl (Nat.le_of_ble_eq_true rfl) rfl (Nat.le_of_ble_eq_true rfl) (c_isSheet (nI k)) ?_
          refine Go.if_neb_t (tgt := 10) dX8_mark_4 (by decide) h1 ?_
          refine Go.aload_n dX8_mark_10 rfl ?_
          refine Go.getR dX8_mark_11 flX8_49 rfl ?_
          refine Go.iload_n dX8_mark_14 rfl ?_
          refine Go.at 15 rfl ?_
          refine Go.aaload (r := 53 + k) k dX8_mark_15 (arSh hk) rfl ?_
          refine Go.astore (ls' := [some (vR 0), some (vI (nI k)), some (vI place), some (vI v), some (vR (53 + k))]) dX8_mark_16 (by decide) rfl ?_
          refine Go.aload dX8_mark_18 rfl ?_
          refine Go.getI dX8_mark_20 flX8_235 (shA hk).1 ?_
          refine Go.topE (y := nI 0) (a1.trans es) ?_
          refine Go.iconst (v := (-1)) dX8_mark_23 rfl ?_
          refine Go.icmp_ne_t (tgt := 30) dX8_mark_24 (by decide) (by decide) ?_
          refine Go.at 30 rfl ?_
          refine Go.aload dX8_mark_30 rfl ?_
          refine Go.iload_n dX8_mark_32 rfl ?_
          refine Go.callVi (53 + k) [vI place] [] dX8_mark_33 lkX8_239 (shA hk).2.2.2.2.1 rfl (Nat.le_of_ble_eq_true rfl) rfl (Nat.le_of_ble_eq_true rfl) (c_hasPlace (shA hk) place) ?_
          refine Go.if_neb_f (tgt := 42) dX8_mark_36 (by decide) (by rw [a3, en]; exact hp) ?_
          refine Go.ldc dX8_mark_39 cnX8_242 ?_
          refine Go.ireturn .int dX8_mark_41 rfl rfl ?_
          exact ⟨rfl, Fr.rf _ _⟩
        · skip
          have e80 : μ5 80 k = nI 0 := (congrFun (k5 80 (by simp only [List.mem_cons, List.not_mem_nil, or_false]; omega)) k).trans es
          have e81 : μ5 81 k = nI n := (congrFun (k5 81 (by simp only [List.mem_cons, List.not_mem_nil, or_false]; omega)) k).trans en
          show Go V (d + 3) mX9_mark 0 [some (vR 76), some (vI (nI k)), some (vI place), some (vI v)] [] μ5 _
          refine Go.iload_n dX9_mark_0 rfl ?_
          refine Go.callSi [vI (nI k)] [] dX9_mark_1 lkX9_285 rfl (Nat.le_of_ble_eq_true rfl) rfl (Nat.le_of_ble_eq_true rfl) (m_isSheet (nI k)) ?_
          refine Go.if_neb_t (tgt := 10) dX9_mark_4 (by decide) h1 ?_
          refine Go.aload_n dX9_mark_10 rfl ?_
          refine Go.getR dX9_mark_11 flX9_19 rfl ?_
          refine Go.iload_n dX9_mark_14 rfl ?_
          refine Go.at 15 rfl ?_
          refine Go.iaload k dX9_mark_15 rfl (by omega) rfl ?_
          refine Go.topE (y := nI 0) e80 ?_
          refine Go.if_ge_t (tgt := 23) dX9_mark_16 (by decide) (by decide) ?_
          refine Go.iload_n dX9_mark_23 rfl ?_
          refine Go.i2l dX9_mark_24 ?_
          refine Go.lconst (v := (nI 0).toInt64) dX9_mark_25 rfl ?_
          refine Go.aload_n dX9_mark_26 rfl ?_
          refine Go.at 27 rfl ?_
          refine Go.getR dX9_mark_27 flX9_22 rfl ?_
          refine Go.iload_n dX9_mark_30 rfl ?_
          refine Go.iaload k dX9_mark_31 rfl (by omega) rfl ?_
          refine Go.topE (y := nI n) e81 ?_
          refine Go.iconst (v := nI 1) dX9_mark_32 rfl ?_
          refine Go.isub dX9_mark_33 ?_
          refine Go.i2l dX9_mark_34 ?_
          refine Go.at 35 rfl ?_
          refine Go.callSi [vL place.toInt64, vL ((nI 0).toInt64), vL (((nI n) - (nI 1)).toInt64)] [] dX9_mark_35 lkX9_65 rfl (Nat.le_of_ble_eq_true rfl) rfl (Nat.le_of_ble_eq_true rfl) (m_isIn place (nI 0) ((nI n) - (nI 1))) ?_
          refine Go.if_neb_f (tgt := 45) dX9_mark_38 (by decide) (by simp only [sI_le, sI_lt, tI_sub, nT, Int32.toInt_zero] at *; omega) ?_
          refine Go.ldc_w dX9_mark_41 cnX9_292 ?_
          refine Go.ireturn .int dX9_mark_44 rfl rfl ?_
          exact ⟨rfl, Fr.rf _ _⟩
    · skip
      by_cases hp : 0 ≤ place ∧ place < nI n
      · skip
        obtain ⟨p, hpn, rfl⟩ : ∃ p, p < n ∧ place = nI p := ⟨place.toInt.toNat, by simp only [sI_le, sI_lt, nT, Int32.toInt_zero] at hp; omega, by rw [sI_eq, nT]; simp only [sI_le, sI_lt, nT, Int32.toInt_zero] at hp; omega⟩
        by_cases hv : v = (-1000000005)
        · skip
          subst hv
          refine OpOK.of (x := nI 1) (P := fun μ1 => Fr [57 + k] μ μ1 ∧ μ1 (57 + k) = upd (μ (57 + k)) p (-1000000005)) ?_ (fun μ5 k5 => ?_)
          · show Go V (d + 3) mX8_mark 0 [some (vR 0), some (vI (nI k)), some (vI (nI p)), some (vI (-1000000005)), none] [] μ _
            refine Go.iload_n dX8_mark_0 rfl ?_
            refine Go.callSi [vI (nI k)] [] dX8_mark_1 lkX8_227 rfl (Nat.le_of_ble_eq_true rfl) rfl (Nat.le_of_ble_eq_true rfl) (c_isSheet (nI k)) ?_
            refine Go.if_neb_t (tgt := 10) dX8_mark_4 (by decide) h1 ?_
            refine Go.aload_n dX8_mark_10 rfl ?_
            refine Go.getR dX8_mark_11 flX8_49 rfl ?_
            refine Go.iload_n dX8_mark_14 rfl ?_
            refine Go.at 15 rfl ?_
            refine Go.aaload (r := 53 + k) k dX8_mark_15 (arSh hk) rfl ?_
            refine Go.astore (ls' := [some (vR 0), some (vI (nI k)), some (vI (nI p)), some (vI (-1000000005)), some (vR (53 + k))]) dX8_mark_16 (by decide) rfl ?_
            refine Go.aload dX8_mark_18 rfl ?_
            refine Go.getI dX8_mark_20 flX8_235 (shA hk).1 ?_
            refine Go.topE (y := nI 1) (a1.trans es) ?_
            refine Go.iconst (v := (-1)) dX8_mark_23 rfl ?_
            refine Go.icmp_ne_t (tgt := 30) dX8_mark_24 (by decide) (by decide) ?_
            refine Go.at 30 rfl ?_
            refine Go.aload dX8_mark_30 rfl ?_
            refine Go.iload_n dX8_mark_32 rfl ?_
            refine Go.callVi (53 + k) [vI (nI p)] [] dX8_mark_33 lkX8_239 (shA hk).2.2.2.2.1 rfl (Nat.le_of_ble_eq_true rfl) rfl (Nat.le_of_ble_eq_true rfl) (c_hasPlace (shA hk) (nI p)) ?_
            refine Go.if_neb_t (tgt := 42) dX8_mark_36 (by decide) (by rw [a3, en]; exact hp) ?_
            refine Go.aload dX8_mark_42 rfl ?_
            refine Go.getI dX8_mark_44 flX8_235 (shA hk).1 ?_
            refine Go.topE (y := nI 1) (a1.trans es) ?_
            refine Go.at 47 rfl ?_
            refine Go.if_ne_t (tgt := 70) dX8_mark_47 (by decide) (by decide) ?_
            refine Go.iload_n dX8_mark_70 rfl ?_
            refine Go.ldc dX8_mark_71 cnX8_118 ?_
            refine Go.icmp_eq_t (tgt := 90) dX8_mark_73 (by decide) (by decide) ?_
            refine Go.aload dX8_mark_90 rfl ?_
            refine Go.getR dX8_mark_92 flX8_243 (shA hk).2.2.1 ?_
            refine Go.at 95 rfl ?_
            refine Go.iload_n dX8_mark_95 rfl ?_
            refine Go.iload_n dX8_mark_96 rfl ?_
            refine Go.iastore p dX8_mark_97 (shA hk).2.2.2.1 (by omega) rfl ?_
            refine Go.iconst (v := nI 1) dX8_mark_98 rfl ?_
            refine Go.ireturn .int dX8_mark_99 rfl rfl ?_
            exact ⟨rfl, (Fr.rf _ _).ms _ _ (by simp), ms_self _ _ _ _⟩
          · skip
            have e80 : μ5 80 k = nI 1 := (congrFun (k5.1 80 (by simp only [List.mem_cons, List.not_mem_nil, or_false]; omega)) k).trans es
            have e81 : μ5 81 k = nI n := (congrFun (k5.1 81 (by simp only [List.mem_cons, List.not_mem_nil, or_false]; omega)) k).trans en
            show Go V (d + 3) mX9_mark 0 [some (vR 76), some (vI (nI k)), some (vI (nI p)), some (vI (-1000000005))] [] μ5 _
            refine Go.iload_n dX9_mark_0 rfl ?_
            refine Go.callSi [vI (nI k)] [] dX9_mark_1 lkX9_285 rfl (Nat.le_of_ble_eq_true rfl) rfl (Nat.le_of_ble_eq_true rfl) (m_isSheet (nI k)) ?_
            refine Go.if_neb_t (tgt := 10) dX9_mark_4 (by decide) h1 ?_
            refine Go.aload_n dX9_mark_10 rfl ?_
            refine Go.getR dX9_mark_11 flX9_19 rfl ?_
            refine Go.iload_n dX9_mark_14 rfl ?_
            refine Go.at 15 rfl ?_
            refine Go.iaload k dX9_mark_15 rfl (by omega) rfl ?_
            refine Go.topE (y := nI 1) e80 ?_
            refine Go.if_ge_t (tgt := 23) dX9_mark_16 (by decide) (by decide) ?_
            refine Go.iload_n dX9_mark_23 rfl ?_
            refine Go.i2l dX9_mark_24 ?_
            refine Go.lconst (v := (nI 0).toInt64) dX9_mark_25 rfl ?_
            refine Go.aload_n dX9_mark_26 rfl ?_
            refine Go.at 27 rfl ?_
            refine Go.getR dX9_mark_27 flX9_22 rfl ?_
            refine Go.iload_n dX9_mark_30 rfl ?_
            refine Go.iaload k dX9_mark_31 rfl (by omega) rfl ?_
            refine Go.topE (y := nI n) e81 ?_
            refine Go.iconst (v := nI 1) dX9_mark_32 rfl ?_
            refine Go.isub dX9_mark_33 ?_
            refine Go.i2l dX9_mark_34 ?_
            refine Go.at 35 rfl ?_
            refine Go.callSi [vL ((nI p).toInt64), vL ((nI 0).toInt64), vL (((nI n) - (nI 1)).toInt64)] [] dX9_mark_35 lkX9_65 rfl (Nat.le_of_ble_eq_true rfl) rfl (Nat.le_of_ble_eq_true rfl) (m_isIn (nI p) (nI 0) ((nI n) - (nI 1))) ?_
            refine Go.if_neb_t (tgt := 45) dX9_mark_38 (by decide) (by simp only [sI_le, sI_lt, tI_sub, nT, Int32.toInt_zero] at *; omega) ?_
            refine Go.aload_n dX9_mark_45 rfl ?_
            refine Go.getR dX9_mark_46 flX9_19 rfl ?_
            refine Go.iload_n dX9_mark_49 rfl ?_
            refine Go.iaload k dX9_mark_50 rfl (by omega) rfl ?_
            refine Go.topE (y := nI 1) e80 ?_
            refine Go.at 51 rfl ?_
            refine Go.if_ne_t (tgt := 63) dX9_mark_51 (by decide) (by decide) ?_
            refine Go.aload_n dX9_mark_63 rfl ?_
            refine Go.getR dX9_mark_64 flX9_19 rfl ?_
            refine Go.iload_n dX9_mark_67 rfl ?_
            refine Go.iaload k dX9_mark_68 rfl (by omega) rfl ?_
            refine Go.topE (y := nI 1) e80 ?_
            refine Go.iconst (v := nI 1) dX9_mark_69 rfl ?_
            refine Go.at 70 rfl ?_
            refine Go.icmp_ne_f (tgt := 96) dX9_mark_70 (by decide) (by decide) ?_
            refine Go.iload_n dX9_mark_73 rfl ?_
            refine Go.ldc dX9_mark_74 cnX9_64 ?_
            refine Go.icmp_eq_t (tgt := 96) dX9_mark_76 (by decide) (by decide) ?_
            refine Go.aload_n dX9_mark_96 rfl ?_
            refine Go.getR dX9_mark_97 flX9_25 rfl ?_
            refine Go.at 100 rfl ?_
            refine Go.bipush (v := nI 24) dX9_mark_100 rfl ?_
            refine Go.iload_n dX9_mark_102 rfl ?_
            refine Go.imulN dX9_mark_103 ?_
            refine Go.iload_n dX9_mark_104 rfl ?_
            refine Go.iaddN dX9_mark_105 ?_
            refine Go.aload_n dX9_mark_106 rfl ?_
            refine Go.at 107 rfl ?_
            refine Go.getR dX9_mark_107 flX9_19 rfl ?_
            refine Go.iload_n dX9_mark_110 rfl ?_
            refine Go.iaload k dX9_mark_111 rfl (by omega) rfl ?_
            refine Go.topE (y := nI 1) e80 ?_
            refine Go.if_ne_t (tgt := 125) dX9_mark_112 (by decide) (by decide) ?_
            refine Go.iload_n dX9_mark_125 rfl ?_
            refine Go.iastore ((24 * k) + p) dX9_mark_126 rfl (by omega) rfl ?_
            refine Go.at 127 rfl ?_
            refine Go.iconst (v := nI 1) dX9_mark_127 rfl ?_
            refine Go.ireturn .int dX9_mark_128 rfl rfl ?_
            exact ⟨rfl, hS.mark hk k5.1 (by omega) k5.2⟩
        · skip
          by_cases hr : (-99999) ≤ v ∧ v ≤ nI 99999
          · skip
            refine OpOK.of (x := nI 1) (P := fun μ1 => Fr [57 + k] μ μ1 ∧ μ1 (57 + k) = upd (μ (57 + k)) p v) ?_ (fun μ5 k5 => ?_)
            · show Go V (d + 3) mX8_mark 0 [some (vR 0), some (vI (nI k)), some (vI (nI p)), some (vI v), none] [] μ _
              refine Go.iload_n dX8_mark_0 rfl ?_
              refine Go.callSi [vI (nI k)] [] dX8_mark_1 lkX8_227 rfl (Nat.le_of_ble_eq_true rfl) rfl (Nat.le_of_ble_eq_true rfl) (c_isSheet (nI k)) ?_
              refine Go.if_neb_t (tgt := 10) dX8_mark_4 (by decide) h1 ?_
              refine Go.aload_n dX8_mark_10 rfl ?_
              refine Go.getR dX8_mark_11 flX8_49 rfl ?_
              refine Go.iload_n dX8_mark_14 rfl ?_
              refine Go.at 15 rfl ?_
              refine Go.aaload (r := 53 + k) k dX8_mark_15 (arSh hk) rfl ?_
              refine Go.astore (ls' := [some (vR 0), some (vI (nI k)), some (vI (nI p)), some (vI v), some (vR (53 + k))]) dX8_mark_16 (by decide) rfl ?_
              refine Go.aload dX8_mark_18 rfl ?_
              refine Go.getI dX8_mark_20 flX8_235 (shA hk).1 ?_
              refine Go.topE (y := nI 1) (a1.trans es) ?_
              refine Go.iconst (v := (-1)) dX8_mark_23 rfl ?_
              refine Go.icmp_ne_t (tgt := 30) dX8_mark_24 (by decide) (by decide) ?_
              refine Go.at 30 rfl ?_
              refine Go.aload dX8_mark_30 rfl ?_
              refine Go.iload_n dX8_mark_32 rfl ?_
              refine Go.callVi (53 + k) [vI (nI p)] [] dX8_mark_33 lkX8_239 (shA hk).2.2.2.2.1 rfl (Nat.le_of_ble_eq_true rfl) rfl (Nat.le_of_ble_eq_true rfl) (c_hasPlace (shA hk) (nI p)) ?_
              refine Go.if_neb_t (tgt := 42) dX8_mark_36 (by decide) (by rw [a3, en]; exact hp) ?_
              refine Go.aload dX8_mark_42 rfl ?_
              refine Go.getI dX8_mark_44 flX8_235 (shA hk).1 ?_
              refine Go.topE (y := nI 1) (a1.trans es) ?_
              refine Go.at 47 rfl ?_
              refine Go.if_ne_t (tgt := 70) dX8_mark_47 (by decide) (by decide) ?_
              refine Go.iload_n dX8_mark_70 rfl ?_
              refine Go.ldc dX8_mark_71 cnX8_118 ?_
              refine Go.icmp_eq_f (tgt := 90) dX8_mark_73 (by decide) hv ?_
              refine Go.iload_n dX8_mark_76 rfl ?_
              refine Go.ldc dX8_mark_77 cnX8_246 ?_
              refine Go.at 79 rfl ?_
              refine Go.ldc dX8_mark_79 cnX8_247 ?_
              refine Go.callSi [vI v, vI (-99999), vI (nI 99999)] [] dX8_mark_81 lkX8_72 rfl (Nat.le_of_ble_eq_true rfl) rfl (Nat.le_of_ble_eq_true rfl) (c_within v (-99999) (nI 99999)) ?_
              refine Go.if_neb_t (tgt := 90) dX8_mark_84 (by decide) hr ?_
              refine Go.aload dX8_mark_90 rfl ?_
              refine Go.getR dX8_mark_92 flX8_243 (shA hk).2.2.1 ?_
              refine Go.iload_n dX8_mark_95 rfl ?_
              refine Go.at 96 rfl ?_
              refine Go.iload_n dX8_mark_96 rfl ?_
              refine Go.iastore p dX8_mark_97 (shA hk).2.2.2.1 (by omega) rfl ?_
              refine Go.iconst (v := nI 1) dX8_mark_98 rfl ?_
              refine Go.ireturn .int dX8_mark_99 rfl rfl ?_
              exact ⟨rfl, (Fr.rf _ _).ms _ _ (by simp), ms_self _ _ _ _⟩
            · skip
              have e80 : μ5 80 k = nI 1 := (congrFun (k5.1 80 (by simp only [List.mem_cons, List.not_mem_nil, or_false]; omega)) k).trans es
              have e81 : μ5 81 k = nI n := (congrFun (k5.1 81 (by simp only [List.mem_cons, List.not_mem_nil, or_false]; omega)) k).trans en
              show Go V (d + 3) mX9_mark 0 [some (vR 76), some (vI (nI k)), some (vI (nI p)), some (vI v)] [] μ5 _
              refine Go.iload_n dX9_mark_0 rfl ?_
              refine Go.callSi [vI (nI k)] [] dX9_mark_1 lkX9_285 rfl (Nat.le_of_ble_eq_true rfl) rfl (Nat.le_of_ble_eq_true rfl) (m_isSheet (nI k)) ?_
              refine Go.if_neb_t (tgt := 10) dX9_mark_4 (by decide) h1 ?_
              refine Go.aload_n dX9_mark_10 rfl ?_
              refine Go.getR dX9_mark_11 flX9_19 rfl ?_
              refine Go.iload_n dX9_mark_14 rfl ?_
              refine Go.at 15 rfl ?_
              refine Go.iaload k dX9_mark_15 rfl (by omega) rfl ?_
              refine Go.topE (y := nI 1) e80 ?_
              refine Go.if_ge_t (tgt := 23) dX9_mark_16 (by decide) (by decide) ?_
              refine Go.iload_n dX9_mark_23 rfl ?_
              refine Go.i2l dX9_mark_24 ?_
              refine Go.lconst (v := (nI 0).toInt64) dX9_mark_25 rfl ?_
              refine Go.aload_n dX9_mark_26 rfl ?_
              refine Go.at 27 rfl ?_
              refine Go.getR dX9_mark_27 flX9_22 rfl ?_
              refine Go.iload_n dX9_mark_30 rfl ?_
              refine Go.iaload k dX9_mark_31 rfl (by omega) rfl ?_
              refine Go.topE (y := nI n) e81 ?_
              refine Go.iconst (v := nI 1) dX9_mark_32 rfl ?_
              refine Go.isub dX9_mark_33 ?_
              refine Go.i2l dX9_mark_34 ?_
              refine Go.at 35 rfl ?_
              refine Go.callSi [vL ((nI p).toInt64), vL ((nI 0).toInt64), vL (((nI n) - (nI 1)).toInt64)] [] dX9_mark_35 lkX9_65 rfl (Nat.le_of_ble_eq_true rfl) rfl (Nat.le_of_ble_eq_true rfl) (m_isIn (nI p) (nI 0) ((nI n) - (nI 1))) ?_
              refine Go.if_neb_t (tgt := 45) dX9_mark_38 (by decide) (by simp only [sI_le, sI_lt, tI_sub, nT, Int32.toInt_zero] at *; omega) ?_
              refine Go.aload_n dX9_mark_45 rfl ?_
              refine Go.getR dX9_mark_46 flX9_19 rfl ?_
              refine Go.iload_n dX9_mark_49 rfl ?_
              refine Go.iaload k dX9_mark_50 rfl (by omega) rfl ?_
              refine Go.topE (y := nI 1) e80 ?_
              refine Go.at 51 rfl ?_
              refine Go.if_ne_t (tgt := 63) dX9_mark_51 (by decide) (by decide) ?_
              refine Go.aload_n dX9_mark_63 rfl ?_
              refine Go.getR dX9_mark_64 flX9_19 rfl ?_
              refine Go.iload_n dX9_mark_67 rfl ?_
              refine Go.iaload k dX9_mark_68 rfl (by omega) rfl ?_
              refine Go.topE (y := nI 1) e80 ?_
              refine Go.iconst (v := nI 1) dX9_mark_69 rfl ?_
              refine Go.at 70 rfl ?_
              refine Go.icmp_ne_f (tgt := 96) dX9_mark_70 (by decide) (by decide) ?_
              refine Go.iload_n dX9_mark_73 rfl ?_
              refine Go.ldc dX9_mark_74 cnX9_64 ?_
              refine Go.icmp_eq_f (tgt := 96) dX9_mark_76 (by decide) hv ?_
              refine Go.iload_n dX9_mark_79 rfl ?_
              refine Go.i2l dX9_mark_80 ?_
              refine Go.at 81 rfl ?_
              refine Go.ldc2 (v := (-99999 : Int32).toInt64) dX9_mark_81 clX9_293 ?_
              refine Go.ldc2 (v := (nI 99999).toInt64) dX9_mark_84 clX9_295 ?_
              refine Go.callSi [vL v.toInt64, vL ((-99999 : Int32).toInt64), vL ((nI 99999).toInt64)] [] dX9_mark_87 lkX9_65 rfl (Nat.le_of_ble_eq_true rfl) rfl (Nat.le_of_ble_eq_true rfl) (m_isIn v (-99999 : Int32) (nI 99999)) ?_
              refine Go.if_neb_t (tgt := 96) dX9_mark_90 (by decide) hr ?_
              refine Go.aload_n dX9_mark_96 rfl ?_
              refine Go.getR dX9_mark_97 flX9_25 rfl ?_
              refine Go.at 100 rfl ?_
              refine Go.bipush (v := nI 24) dX9_mark_100 rfl ?_
              refine Go.iload_n dX9_mark_102 rfl ?_
              refine Go.imulN dX9_mark_103 ?_
              refine Go.iload_n dX9_mark_104 rfl ?_
              refine Go.iaddN dX9_mark_105 ?_
              refine Go.aload_n dX9_mark_106 rfl ?_
              refine Go.at 107 rfl ?_
              refine Go.getR dX9_mark_107 flX9_19 rfl ?_
              refine Go.iload_n dX9_mark_110 rfl ?_
              refine Go.iaload k dX9_mark_111 rfl (by omega) rfl ?_
              refine Go.topE (y := nI 1) e80 ?_
              refine Go.if_ne_t (tgt := 125) dX9_mark_112 (by decide) (by decide) ?_
              refine Go.iload_n dX9_mark_125 rfl ?_
              refine Go.iastore ((24 * k) + p) dX9_mark_126 rfl (by omega) rfl ?_
              refine Go.at 127 rfl ?_
              refine Go.iconst (v := nI 1) dX9_mark_127 rfl ?_
              refine Go.ireturn .int dX9_mark_128 rfl rfl ?_
              exact ⟨rfl, hS.mark hk k5.1 (by omega) k5.2⟩
          · skip
            refine OpOK.q (x := (-1000000001)) hS ?_ (fun μ5 k5 => ?_)
            · show Go V (d + 3) mX8_mark 0 [some (vR 0), some (vI (nI k)), some (vI (nI p)), some (vI v), none] [] μ _
              refine Go.iload_n dX8_mark_0 rfl ?_
              refine Go.callSi [vI (nI k)] [] dX8_mark_1 lkX8_227 rfl (Nat.le_of_ble_eq_true rfl) rfl (Nat.le_of_ble_eq_true rfl) (c_isSheet (nI k)) ?_
              refine Go.if_neb_t (tgt := 10) dX8_mark_4 (by decide) h1 ?_
              refine Go.aload_n dX8_mark_10 rfl ?_
              refine Go.getR dX8_mark_11 flX8_49 rfl ?_
              refine Go.iload_n dX8_mark_14 rfl ?_
              refine Go.at 15 rfl ?_
              refine Go.aaload (r := 53 + k) k dX8_mark_15 (arSh hk) rfl ?_
              refine Go.astore (ls' := [some (vR 0), some (vI (nI k)), some (vI (nI p)), some (vI v), some (vR (53 + k))]) dX8_mark_16 (by decide) rfl ?_
              refine Go.aload dX8_mark_18 rfl ?_
              refine Go.getI dX8_mark_20 flX8_235 (shA hk).1 ?_
              refine Go.topE (y := nI 1) (a1.trans es) ?_
              refine Go.iconst (v := (-1)) dX8_mark_23 rfl ?_
              refine Go.icmp_ne_t (tgt := 30) dX8_mark_24 (by decide) (by decide) ?_
              refine Go.at 30 rfl ?_
              refine Go.aload dX8_mark_30 rfl ?_
              refine Go.iload_n dX8_mark_32 rfl ?_
              refine Go.callVi (53 + k) [vI (nI p)] [] dX8_mark_33 lkX8_239 (shA hk).2.2.2.2.1 rfl (Nat.le_of_ble_eq_true rfl) rfl (Nat.le_of_ble_eq_true rfl) (c_hasPlace (shA hk) (nI p)) ?_
              refine Go.if_neb_t (tgt := 42) dX8_mark_36 (by decide) (by rw [a3, en]; exact hp) ?_
              refine Go.aload dX8_mark_42 rfl ?_
              refine Go.getI dX8_mark_44 flX8_235 (shA hk).1 ?_
              refine Go.topE (y := nI 1) (a1.trans es) ?_
              refine Go.at 47 rfl ?_
              refine Go.if_ne_t (tgt := 70) dX8_mark_47 (by decide) (by decide) ?_
              refine Go.iload_n dX8_mark_70 rfl ?_
              refine Go.ldc dX8_mark_71 cnX8_118 ?_
              refine Go.icmp_eq_f (tgt := 90) dX8_mark_73 (by decide) hv ?_
              refine Go.iload_n dX8_mark_76 rfl ?_
              refine Go.ldc dX8_mark_77 cnX8_246 ?_
              refine Go.at 79 rfl ?_
              refine Go.ldc dX8_mark_79 cnX8_247 ?_
              refine Go.callSi [vI v, vI (-99999), vI (nI 99999)] [] dX8_mark_81 lkX8_72 rfl (Nat.le_of_ble_eq_true rfl) rfl (Nat.le_of_ble_eq_true rfl) (c_within v (-99999) (nI 99999)) ?_
              refine Go.if_neb_f (tgt := 90) dX8_mark_84 (by decide) hr ?_
              refine Go.ldc dX8_mark_87 cnX8_76 ?_
              refine Go.ireturn .int dX8_mark_89 rfl rfl ?_
              exact ⟨rfl, Fr.rf _ _⟩
            · skip
              have e80 : μ5 80 k = nI 1 := (congrFun (k5 80 (by simp only [List.mem_cons, List.not_mem_nil, or_false]; omega)) k).trans es
              have e81 : μ5 81 k = nI n := (congrFun (k5 81 (by simp only [List.mem_cons, List.not_mem_nil, or_false]; omega)) k).trans en
              show Go V (d + 3) mX9_mark 0 [some (vR 76), some (vI (nI k)), some (vI (nI p)), some (vI v)] [] μ5 _
              refine Go.iload_n dX9_mark_0 rfl ?_
              refine Go.callSi [vI (nI k)] [] dX9_mark_1 lkX9_285 rfl (Nat.le_of_ble_eq_true rfl) rfl (Nat.le_of_ble_eq_true rfl) (m_isSheet (nI k)) ?_
              refine Go.if_neb_t (tgt := 10) dX9_mark_4 (by decide) h1 ?_
              refine Go.aload_n dX9_mark_10 rfl ?_
              refine Go.getR dX9_mark_11 flX9_19 rfl ?_
              refine Go.iload_n dX9_mark_14 rfl ?_
              refine Go.at 15 rfl ?_
              refine Go.iaload k dX9_mark_15 rfl (by omega) rfl ?_
              refine Go.topE (y := nI 1) e80 ?_
              refine Go.if_ge_t (tgt := 23) dX9_mark_16 (by decide) (by decide) ?_
              refine Go.iload_n dX9_mark_23 rfl ?_
              refine Go.i2l dX9_mark_24 ?_
              refine Go.lconst (v := (nI 0).toInt64) dX9_mark_25 rfl ?_
              refine Go.aload_n dX9_mark_26 rfl ?_
              refine Go.at 27 rfl ?_
              refine Go.getR dX9_mark_27 flX9_22 rfl ?_
              refine Go.iload_n dX9_mark_30 rfl ?_
              refine Go.iaload k dX9_mark_31 rfl (by omega) rfl ?_
              refine Go.topE (y := nI n) e81 ?_
              refine Go.iconst (v := nI 1) dX9_mark_32 rfl ?_
              refine Go.isub dX9_mark_33 ?_
              refine Go.i2l dX9_mark_34 ?_
              refine Go.at 35 rfl ?_
              refine Go.callSi [vL ((nI p).toInt64), vL ((nI 0).toInt64), vL (((nI n) - (nI 1)).toInt64)] [] dX9_mark_35 lkX9_65 rfl (Nat.le_of_ble_eq_true rfl) rfl (Nat.le_of_ble_eq_true rfl) (m_isIn (nI p) (nI 0) ((nI n) - (nI 1))) ?_
              refine Go.if_neb_t (tgt := 45) dX9_mark_38 (by decide) (by simp only [sI_le, sI_lt, tI_sub, nT, Int32.toInt_zero] at *; omega) ?_
              refine Go.aload_n dX9_mark_45 rfl ?_
              refine Go.getR dX9_mark_46 flX9_19 rfl ?_
              refine Go.iload_n dX9_mark_49 rfl ?_
              refine Go.iaload k dX9_mark_50 rfl (by omega) rfl ?_
              refine Go.topE (y := nI 1) e80 ?_
              refine Go.at 51 rfl ?_
              refine Go.if_ne_t (tgt := 63) dX9_mark_51 (by decide) (by decide) ?_
              refine Go.aload_n dX9_mark_63 rfl ?_
              refine Go.getR dX9_mark_64 flX9_19 rfl ?_
              refine Go.iload_n dX9_mark_67 rfl ?_
              refine Go.iaload k dX9_mark_68 rfl (by omega) rfl ?_
              refine Go.topE (y := nI 1) e80 ?_
              refine Go.iconst (v := nI 1) dX9_mark_69 rfl ?_
              refine Go.at 70 rfl ?_
              refine Go.icmp_ne_f (tgt := 96) dX9_mark_70 (by decide) (by decide) ?_
              refine Go.iload_n dX9_mark_73 rfl ?_
              refine Go.ldc dX9_mark_74 cnX9_64 ?_
              refine Go.icmp_eq_f (tgt := 96) dX9_mark_76 (by decide) hv ?_
              refine Go.iload_n dX9_mark_79 rfl ?_
              refine Go.i2l dX9_mark_80 ?_
              refine Go.at 81 rfl ?_
              refine Go.ldc2 (v := (-99999 : Int32).toInt64) dX9_mark_81 clX9_293 ?_
              refine Go.ldc2 (v := (nI 99999).toInt64) dX9_mark_84 clX9_295 ?_
              refine Go.callSi [vL v.toInt64, vL ((-99999 : Int32).toInt64), vL ((nI 99999).toInt64)] [] dX9_mark_87 lkX9_65 rfl (Nat.le_of_ble_eq_true rfl) rfl (Nat.le_of_ble_eq_true rfl) (m_isIn v (-99999 : Int32) (nI 99999)) ?_
              refine Go.if_neb_f (tgt := 96) dX9_mark_90 (by decide) hr ?_
              refine Go.ldc dX9_mark_93 cnX9_98 ?_
              refine Go.ireturn .int dX9_mark_95 rfl rfl ?_
              exact ⟨rfl, Fr.rf _ _⟩
      · skip
        refine OpOK.q (x := (-1000000013)) hS ?_ (fun μ5 k5 => ?_)
        · show Go V (d + 3) mX8_mark 0 [some (vR 0), some (vI (nI k)), some (vI place), some (vI v), none] [] μ _
          refine Go.iload_n dX8_mark_0 rfl ?_
          refine Go.callSi [vI (nI k)] [] dX8_mark_1 lkX8_227 rfl (Nat.le_of_ble_eq_true rfl) rfl (Nat.le_of_ble_eq_true rfl) (c_isSheet (nI k)) ?_
          refine Go.if_neb_t (tgt := 10) dX8_mark_4 (by decide) h1 ?_
          refine Go.aload_n dX8_mark_10 rfl ?_
          refine Go.getR dX8_mark_11 flX8_49 rfl ?_
          refine Go.iload_n dX8_mark_14 rfl ?_
          refine Go.at 15 rfl ?_
          refine Go.aaload (r := 53 + k) k dX8_mark_15 (arSh hk) rfl ?_
          refine Go.astore (ls' := [some (vR 0), some (vI (nI k)), some (vI place), some (vI v), some (vR (53 + k))]) dX8_mark_16 (by decide) rfl ?_
          refine Go.aload dX8_mark_18 rfl ?_
          refine Go.getI dX8_mark_20 flX8_235 (shA hk).1 ?_
          refine Go.topE (y := nI 1) (a1.trans es) ?_
          refine Go.iconst (v := (-1)) dX8_mark_23 rfl ?_
          refine Go.icmp_ne_t (tgt := 30) dX8_mark_24 (by decide) (by decide) ?_
          refine Go.at 30 rfl ?_
          refine Go.aload dX8_mark_30 rfl ?_
          refine Go.iload_n dX8_mark_32 rfl ?_
          refine Go.callVi (53 + k) [vI place] [] dX8_mark_33 lkX8_239 (shA hk).2.2.2.2.1 rfl (Nat.le_of_ble_eq_true rfl) rfl (Nat.le_of_ble_eq_true rfl) (c_hasPlace (shA hk) place) ?_
          refine Go.if_neb_f (tgt := 42) dX8_mark_36 (by decide) (by rw [a3, en]; exact hp) ?_
          refine Go.ldc dX8_mark_39 cnX8_242 ?_
          refine Go.ireturn .int dX8_mark_41 rfl rfl ?_
          exact ⟨rfl, Fr.rf _ _⟩
        · skip
          have e80 : μ5 80 k = nI 1 := (congrFun (k5 80 (by simp only [List.mem_cons, List.not_mem_nil, or_false]; omega)) k).trans es
          have e81 : μ5 81 k = nI n := (congrFun (k5 81 (by simp only [List.mem_cons, List.not_mem_nil, or_false]; omega)) k).trans en
          show Go V (d + 3) mX9_mark 0 [some (vR 76), some (vI (nI k)), some (vI place), some (vI v)] [] μ5 _
          refine Go.iload_n dX9_mark_0 rfl ?_
          refine Go.callSi [vI (nI k)] [] dX9_mark_1 lkX9_285 rfl (Nat.le_of_ble_eq_true rfl) rfl (Nat.le_of_ble_eq_true rfl) (m_isSheet (nI k)) ?_
          refine Go.if_neb_t (tgt := 10) dX9_mark_4 (by decide) h1 ?_
          refine Go.aload_n dX9_mark_10 rfl ?_
          refine Go.getR dX9_mark_11 flX9_19 rfl ?_
          refine Go.iload_n dX9_mark_14 rfl ?_
          refine Go.at 15 rfl ?_
          refine Go.iaload k dX9_mark_15 rfl (by omega) rfl ?_
          refine Go.topE (y := nI 1) e80 ?_
          refine Go.if_ge_t (tgt := 23) dX9_mark_16 (by decide) (by decide) ?_
          refine Go.iload_n dX9_mark_23 rfl ?_
          refine Go.i2l dX9_mark_24 ?_
          refine Go.lconst (v := (nI 0).toInt64) dX9_mark_25 rfl ?_
          refine Go.aload_n dX9_mark_26 rfl ?_
          refine Go.at 27 rfl ?_
          refine Go.getR dX9_mark_27 flX9_22 rfl ?_
          refine Go.iload_n dX9_mark_30 rfl ?_
          refine Go.iaload k dX9_mark_31 rfl (by omega) rfl ?_
          refine Go.topE (y := nI n) e81 ?_
          refine Go.iconst (v := nI 1) dX9_mark_32 rfl ?_
          refine Go.isub dX9_mark_33 ?_
          refine Go.i2l dX9_mark_34 ?_
          refine Go.at 35 rfl ?_
          refine Go.callSi [vL place.toInt64, vL ((nI 0).toInt64), vL (((nI n) - (nI 1)).toInt64)] [] dX9_mark_35 lkX9_65 rfl (Nat.le_of_ble_eq_true rfl) rfl (Nat.le_of_ble_eq_true rfl) (m_isIn place (nI 0) ((nI n) - (nI 1))) ?_
          refine Go.if_neb_f (tgt := 45) dX9_mark_38 (by decide) (by simp only [sI_le, sI_lt, tI_sub, nT, Int32.toInt_zero] at *; omega) ?_
          refine Go.ldc_w dX9_mark_41 cnX9_292 ?_
          refine Go.ireturn .int dX9_mark_44 rfl rfl ?_
          exact ⟨rfl, Fr.rf _ _⟩
  · skip
    refine OpOK.q (x := (-1000000001)) hS ?_ (fun μ5 k5 => ?_)
    · show Go V (d + 3) mX8_mark 0 [some (vR 0), some (vI k0), some (vI place), some (vI v), none] [] μ _
      refine Go.iload_n dX8_mark_0 rfl ?_
      refine Go.callSi [vI k0] [] dX8_mark_1 lkX8_227 rfl (Nat.le_of_ble_eq_true rfl) rfl (Nat.le_of_ble_eq_true rfl) (c_isSheet k0) ?_
      refine Go.if_neb_f (tgt := 10) dX8_mark_4 (by decide) h1 ?_
      refine Go.ldc dX8_mark_7 cnX8_76 ?_
      refine Go.ireturn .int dX8_mark_9 rfl rfl ?_
      exact ⟨rfl, Fr.rf _ _⟩
    · skip
      show Go V (d + 3) mX9_mark 0 [some (vR 76), some (vI k0), some (vI place), some (vI v)] [] μ5 _
      refine Go.iload_n dX9_mark_0 rfl ?_
      refine Go.callSi [vI k0] [] dX9_mark_1 lkX9_285 rfl (Nat.le_of_ble_eq_true rfl) rfl (Nat.le_of_ble_eq_true rfl) (m_isSheet k0) ?_
      refine Go.if_neb_f (tgt := 10) dX9_mark_4 (by decide) h1 ?_
      refine Go.ldc dX9_mark_7 cnX9_98 ?_
      refine Go.ireturn .int dX9_mark_9 rfl rfl ?_
      exact ⟨rfl, Fr.rf _ _⟩
theorem c_pour_lp {V : VV} {d : Nat} {μ0 : Memo} {s0 : Nat → Int32} {k row n mm : Nat} (hk : k < 4) (hr : row < 5) (hn : n ≤ 24) (en : μ0 (53 + k) 1 = nI n) (hm1 : mm ≤ 6) (hm2 : mm ≤ n) (hm3 : mm = 6 ∨ mm = n) :
    ∀ (j i acc : Nat) (μ : Memo) (s : Nat → Int32), i + j = mm → CI 7 μ0 μ s0 s → Go V (d + 2) mX1_pourInto 5 [some (vR 7), some (vI (nI row)), some (vR (53 + k)), some (vI (nI acc)), some (vI (nI i)), none, none, none] [] μ (fun r' μ'' => r' = some (vI (nI (pourL (μ0 (57 + k)) row s acc i j).2)) ∧ CI 7 μ0 μ'' s0 (pourL (μ0 (57 + k)) row s acc i j).1)
  | 0, i, acc, μ, s, hij, hC => by
    obtain rfl : i = mm := by omega
    refine Go.iload dX1_pourInto_5 rfl ?_
    refine Go.bipush (v := nI 6) dX1_pourInto_7 rfl ?_
    refine Go.icmp_ge (tgt := 96) dX1_pourInto_9 (by decide) (fun h9 => ?_) (fun h9 => ?_)
    · -- 9 taken
      refine Go.iload_n dX1_pourInto_96 rfl ?_
      refine Go.ireturn .int dX1_pourInto_97 rfl rfl ?_
      exact ⟨rfl, hC⟩
    · -- 9 not
      refine Go.iload dX1_pourInto_12 rfl ?_
      refine Go.aload_n dX1_pourInto_14 rfl ?_
      refine Go.getI dX1_pourInto_15 flX1_163 (shA hk).2.1 ?_
      refine Go.topE (y := nI n) ((congrFun (hC.2.2.2.2.2 (53 + k) (FB_no isB7 (by omega))) 1).trans en) ?_
      refine Go.icmp_ge_t (tgt := 96) dX1_pourInto_18 (by decide) (by simp only [sI_le, nT] at *; omega) ?_
      refine Go.iload_n dX1_pourInto_96 rfl ?_
      refine Go.ireturn .int dX1_pourInto_97 rfl rfl ?_
      exact ⟨rfl, hC⟩
  | j + 1, i, acc, μ, s, hij, hC => by
    have hi : i < mm := by omega
    rw [pourL]
    refine Go.iload dX1_pourInto_5 rfl ?_
    refine Go.bipush (v := nI 6) dX1_pourInto_7 rfl ?_
    refine Go.icmp_ge_f (tgt := 96) dX1_pourInto_9 (by decide) (nI_ge (by omega) (by decide)) ?_
    refine Go.iload dX1_pourInto_12 rfl ?_
    refine Go.aload_n dX1_pourInto_14 rfl ?_
    refine Go.getI dX1_pourInto_15 flX1_163 (shA hk).2.1 ?_
    refine Go.topE (y := nI n) ((congrFun (hC.2.2.2.2.2 (53 + k) (FB_no isB7 (by omega))) 1).trans en) ?_
    refine Go.at 18 rfl ?_
    refine Go.icmp_ge_f (tgt := 96) dX1_pourInto_18 (by decide) (nI_ge (by omega) (by omega)) ?_
    refine Go.bipush (v := nI 6) dX1_pourInto_21 rfl ?_
    refine Go.iload_n dX1_pourInto_23 rfl ?_
    refine Go.imulN dX1_pourInto_24 ?_
    refine Go.iload dX1_pourInto_25 rfl ?_
    refine Go.iaddN dX1_pourInto_27 ?_
    refine Go.at 28 rfl ?_
    refine Go.istore (ls' := [some (vR 7), some (vI (nI row)), some (vR (53 + k)), some (vI (nI acc)), some (vI (nI i)), some (vI (nI ((6 * row) + i))), none, none]) dX1_pourInto_28 (by decide) rfl ?_
    refine Go.aload_n dX1_pourInto_30 rfl ?_
    refine Go.getR dX1_pourInto_31 flX1_168 (shA hk).2.2.1 ?_
    refine Go.iload dX1_pourInto_34 rfl ?_
    refine Go.iaload i dX1_pourInto_36 (shA hk).2.2.2.1 (by omega) rfl ?_
    refine Go.topE (y := μ0 (57 + k) i) (congrFun (hC.2.2.2.2.2 (57 + k) (FB_no isB7 (by omega))) i) ?_
    refine Go.istore (ls' := [some (vR 7), some (vI (nI row)), some (vR (53 + k)), some (vI (nI acc)), some (vI (nI i)), some (vI (nI ((6 * row) + i))), some (vI (μ0 (57 + k) i)), none]) dX1_pourInto_37 (by decide) rfl ?_
    refine Go.at 39 rfl ?_
    refine Go.iload dX1_pourInto_39 rfl ?_
    refine Go.ldc dX1_pourInto_41 cnX1_41 ?_
    refine Go.icmp_ne (tgt := 56) dX1_pourInto_43 (by decide) (fun h43 => ?_) (fun h43 => ?_)
    · -- 43 taken
      refine Go.iload dX1_pourInto_56 rfl ?_
      refine Go.iconst (v := nI 0) dX1_pourInto_58 rfl ?_
      refine Go.bipush (v := nI 99) dX1_pourInto_59 rfl ?_
      refine Go.callNi [vI (μ0 (57 + k) i), vI (nI 0), vI (nI 99)] [] dX1_pourInto_61 rfl rfl lkHold rfl (Nat.le_of_ble_eq_true rfl) rfl (Nat.le_of_ble_eq_true rfl) ((c_hold (μ0 (57 + k) i) (nI 0) (nI 99)).eq (hold_eq _ _ (by decide))) ?_
      refine Go.istore (ls' := [some (vR 7), some (vI (nI row)), some (vR (53 + k)), some (vI (nI acc)), some (vI (nI i)), some (vI (nI ((6 * row) + i))), some (vI (μ0 (57 + k) i)), some (vI (wiF (μ0 (57 + k) i) (nI 99)))]) dX1_pourInto_64 (by decide) rfl ?_
      refine Go.iload dX1_pourInto_66 rfl ?_
      refine Go.at 68 rfl ?_
      refine Go.aload_n dX1_pourInto_68 rfl ?_
      refine Go.getR dX1_pourInto_69 flX1_18 rfl ?_
      refine Go.iload dX1_pourInto_72 rfl ?_
      refine Go.iaload ((6 * row) + i) dX1_pourInto_74 rfl (by omega) rfl ?_
      refine Go.topE (s (11 + 4 * ((6 * row) + i) + 2)) ((hC.1.1 ((6 * row) + i) (by omega)).2.2.1) ?_
      refine Go.icmp_eq (tgt := 90) dX1_pourInto_75 (by decide) (fun h75 => ?_) (fun h75 => ?_)
      · -- 75 taken
        refine Go.iinc (v := nI (i + 1)) (ls' := [some (vR 7), some (vI (nI row)), some (vR (53 + k)), some (vI (nI acc)), some (vI (nI (i + 1))), some (vI (nI ((6 * row) + i))), some (vI (μ0 (57 + k) i)), some (vI (wiF (μ0 (57 + k) i) (nI 99)))]) dX1_pourInto_90 rfl (nI_add _ _) (by decide) rfl ?_
        refine Go.goto (tgt := 5) dX1_pourInto_93 (by decide) ?_
        refine Go.mask [true, true, true, true, true, false, false, false] rfl ?_
        rw [show pourV (μ0 (57 + k) i) (s (11 + 4 * (6 * row + i) + 2)) = wiF (μ0 (57 + k) i) (nI 99) from if_neg h43]
        rw [if_pos h75, h75, upd_id]
        exact c_pour_lp hk hr hn en hm1 hm2 hm3 j (i + 1) acc _ _ (by omega) hC
      · -- 75 not
        refine Go.aload_n dX1_pourInto_78 rfl ?_
        refine Go.getR dX1_pourInto_79 flX1_18 rfl ?_
        refine Go.iload dX1_pourInto_82 rfl ?_
        refine Go.iload dX1_pourInto_84 rfl ?_
        refine Go.iastore ((6 * row) + i) dX1_pourInto_86 rfl (by omega) rfl ?_
        have c1 : CI 7 μ0 (ms μ 10 ((6 * row) + i) (wiF (μ0 (57 + k) i) (nI 99))) s0 (upd s (11 + 4 * ((6 * row) + i) + 2) (wiF (μ0 (57 + k) i) (nI 99))) := hC.corn isB7 (by omega) (wi_rng _)
        refine Go.iinc (v := nI (acc + 1)) (ls' := [some (vR 7), some (vI (nI row)), some (vR (53 + k)), some (vI (nI (acc + 1))), some (vI (nI i)), some (vI (nI ((6 * row) + i))), some (vI (μ0 (57 + k) i)), some (vI (wiF (μ0 (57 + k) i) (nI 99)))]) dX1_pourInto_87 rfl (nI_add _ _) (by decide) rfl ?_
        refine Go.at 90 rfl ?_
        refine Go.iinc (v := nI (i + 1)) (ls' := [some (vR 7), some (vI (nI row)), some (vR (53 + k)), some (vI (nI (acc + 1))), some (vI (nI (i + 1))), some (vI (nI ((6 * row) + i))), some (vI (μ0 (57 + k) i)), some (vI (wiF (μ0 (57 + k) i) (nI 99)))]) dX1_pourInto_90 rfl (nI_add _ _) (by decide) rfl ?_
        refine Go.goto (tgt := 5) dX1_pourInto_93 (by decide) ?_
        refine Go.mask [true, true, true, true, true, false, false, false] rfl ?_
        rw [show pourV (μ0 (57 + k) i) (s (11 + 4 * (6 * row + i) + 2)) = wiF (μ0 (57 + k) i) (nI 99) from if_neg h43]
        rw [if_neg h75]
        exact c_pour_lp hk hr hn en hm1 hm2 hm3 j (i + 1) (acc + 1) _ _ (by omega) c1
    · -- 43 not
      refine Go.aload_n dX1_pourInto_46 rfl ?_
      refine Go.getR dX1_pourInto_47 flX1_18 rfl ?_
      refine Go.iload dX1_pourInto_50 rfl ?_
      refine Go.iaload ((6 * row) + i) dX1_pourInto_52 rfl (by omega) rfl ?_
      refine Go.topE (s (11 + 4 * ((6 * row) + i) + 2)) ((hC.1.1 ((6 * row) + i) (by omega)).2.2.1) ?_
      refine Go.goto (tgt := 64) dX1_pourInto_53 (by decide) ?_
      refine Go.istore (ls' := [some (vR 7), some (vI (nI row)), some (vR (53 + k)), some (vI (nI acc)), some (vI (nI i)), some (vI (nI ((6 * row) + i))), some (vI (μ0 (57 + k) i)), some (vI (s (11 + 4 * ((6 * row) + i) + 2)))]) dX1_pourInto_64 (by decide) rfl ?_
      refine Go.at 66 rfl ?_
      refine Go.iload dX1_pourInto_66 rfl ?_
      refine Go.aload_n dX1_pourInto_68 rfl ?_
      refine Go.getR dX1_pourInto_69 flX1_18 rfl ?_
      refine Go.iload dX1_pourInto_72 rfl ?_
      refine Go.iaload ((6 * row) + i) dX1_pourInto_74 rfl (by omega) rfl ?_
      refine Go.topE (s (11 + 4 * ((6 * row) + i) + 2)) ((hC.1.1 ((6 * row) + i) (by omega)).2.2.1) ?_
      refine Go.icmp_eq_t (tgt := 90) dX1_pourInto_75 (by decide) rfl ?_
      refine Go.at 90 rfl ?_
      refine Go.iinc (v := nI (i + 1)) (ls' := [some (vR 7), some (vI (nI row)), some (vR (53 + k)), some (vI (nI acc)), some (vI (nI (i + 1))), some (vI (nI ((6 * row) + i))), some (vI (μ0 (57 + k) i)), some (vI (s (11 + 4 * ((6 * row) + i) + 2)))]) dX1_pourInto_90 rfl (nI_add _ _) (by decide) rfl ?_
      refine Go.goto (tgt := 5) dX1_pourInto_93 (by decide) ?_
      refine Go.mask [true, true, true, true, true, false, false, false] rfl ?_
      rw [show pourV (μ0 (57 + k) i) (s (11 + 4 * (6 * row + i) + 2)) = s (11 + 4 * ((6 * row) + i) + 2) from if_pos h43]
      rw [if_pos rfl, upd_id]
      exact c_pour_lp hk hr hn en hm1 hm2 hm3 j (i + 1) acc _ _ (by omega) hC
theorem m_pour_lp {V : VV} {d : Nat} {μ0 : Memo} {vs : Nat → Int32} {k row n mm : Nat} (hk : k < 4) (hr : row < 5) (hn : n ≤ 24) (en : μ0 81 k = nI n) (hv : ∀ i, i < 24 → vs i = μ0 82 (24 * k + i)) (hm1 : mm ≤ 6) (hm2 : mm ≤ n) (hm3 : mm = 6 ∨ mm = n) :
    ∀ (j i acc : Nat) (μ : Memo) (s : Nat → Int32), i + j = mm → MI μ0 μ s → Go V (d + 2) mX9_pour 40 [some (vR 76), some (vI (nI k)), some (vI (nI row)), some (vI (nI acc)), some (vI (nI i)), none, none, none] [] μ (fun r' μ'' => r' = some (vI (nI (pourL vs row s acc i j).2)) ∧ MI μ0 μ'' (pourL vs row s acc i j).1)
  | 0, i, acc, μ, s, hij, hM => by
    obtain rfl : i = mm := by omega
    refine Go.iload dX9_pour_40 rfl ?_
    refine Go.aload_n dX9_pour_42 rfl ?_
    refine Go.getR dX9_pour_43 flX9_22 rfl ?_
    refine Go.iload_n dX9_pour_46 rfl ?_
    refine Go.iaload k dX9_pour_47 rfl (by omega) rfl ?_
    refine Go.topE (y := nI n) ((congrFun (hM.2 81 (by decide)) k).trans en) ?_
    refine Go.icmp_ge (tgt := 142) dX9_pour_48 (by decide) (fun h48 => ?_) (fun h48 => ?_)
    · -- 48 taken
      refine Go.iload_n dX9_pour_142 rfl ?_
      refine Go.ireturn .int dX9_pour_143 rfl rfl ?_
      exact ⟨rfl, hM⟩
    · -- 48 not
      refine Go.iload dX9_pour_51 rfl ?_
      refine Go.bipush (v := nI 6) dX9_pour_53 rfl ?_
      refine Go.icmp_ge_t (tgt := 142) dX9_pour_55 (by decide) (by simp only [sI_le, nT] at *; omega) ?_
      refine Go.iload_n dX9_pour_142 rfl ?_
      refine Go.ireturn .int dX9_pour_143 rfl rfl ?_
      exact ⟨rfl, hM⟩
  | j + 1, i, acc, μ, s, hij, hM => by
    have hi : i < mm := by omega
    rw [pourL]
    refine Go.iload dX9_pour_40 rfl ?_
    refine Go.aload_n dX9_pour_42 rfl ?_
    refine Go.getR dX9_pour_43 flX9_22 rfl ?_
    refine Go.iload_n dX9_pour_46 rfl ?_
    refine Go.iaload k dX9_pour_47 rfl (by omega) rfl ?_
    refine Go.topE (y := nI n) ((congrFun (hM.2 81 (by decide)) k).trans en) ?_
    refine Go.icmp_ge_f (tgt := 142) dX9_pour_48 (by decide) (nI_ge (by omega) (by omega)) ?_
    refine Go.at 51 rfl ?_
    refine Go.iload dX9_pour_51 rfl ?_
    refine Go.bipush (v := nI 6) dX9_pour_53 rfl ?_
    refine Go.icmp_ge_f (tgt := 142) dX9_pour_55 (by decide) (nI_ge (by omega) (by decide)) ?_
    refine Go.aload_n dX9_pour_58 rfl ?_
    refine Go.getR dX9_pour_59 flX9_25 rfl ?_
    refine Go.bipush (v := nI 24) dX9_pour_62 rfl ?_
    refine Go.at 64 rfl ?_
    refine Go.iload_n dX9_pour_64 rfl ?_
    refine Go.imulN dX9_pour_65 ?_
    refine Go.iload dX9_pour_66 rfl ?_
    refine Go.iaddN dX9_pour_68 ?_
    refine Go.iaload ((24 * k) + i) dX9_pour_69 rfl (by omega) rfl ?_
    refine Go.topE (y := vs i) ((congrFun (hM.2 82 (by decide)) _).trans (hv i (by omega)).symm) ?_
    refine Go.istore (ls' := [some (vR 76), some (vI (nI k)), some (vI (nI row)), some (vI (nI acc)), some (vI (nI i)), some (vI (vs i)), none, none]) dX9_pour_70 (by decide) rfl ?_
    refine Go.at 72 rfl ?_
    refine Go.aload_n dX9_pour_72 rfl ?_
    refine Go.bipush (v := nI 6) dX9_pour_73 rfl ?_
    refine Go.iload_n dX9_pour_75 rfl ?_
    refine Go.imulN dX9_pour_76 ?_
    refine Go.iload dX9_pour_77 rfl ?_
    refine Go.iaddN dX9_pour_79 ?_
    refine Go.at 80 rfl ?_
    refine Go.iconst (v := nI 2) dX9_pour_80 rfl ?_
    refine Go.callVi 76 [vI (nI ((6 * row) + i)), vI (nI 2)] [] dX9_pour_81 lkX9_70 (Or.inl ⟨_, _, _, rfl, rfl, rfl⟩) rfl (Nat.le_of_ble_eq_true rfl) rfl (Nat.le_of_ble_eq_true rfl) (m_of hM.1 ((6 * row) + i) 2 (by omega) (by decide)) ?_
    refine Go.istore (ls' := [some (vR 76), some (vI (nI k)), some (vI (nI row)), some (vI (nI acc)), some (vI (nI i)), some (vI (vs i)), some (vI (s (11 + 4 * ((6 * row) + i) + 2))), none]) dX9_pour_84 (by decide) rfl ?_
    refine Go.iload dX9_pour_86 rfl ?_
    refine Go.ldc dX9_pour_88 cnX9_64 ?_
    refine Go.icmp_ne (tgt := 98) dX9_pour_90 (by decide) (fun h90 => ?_) (fun h90 => ?_)
    · -- 90 taken
      refine Go.iload dX9_pour_98 rfl ?_
      refine Go.bipush (v := nI 99) dX9_pour_100 rfl ?_
      refine Go.callSi [vI (vs i), vI (nI 99)] [] dX9_pour_102 lkX9_84 rfl (Nat.le_of_ble_eq_true rfl) rfl (Nat.le_of_ble_eq_true rfl) (m_within (vs i) (nI 99)) ?_
      refine Go.istore (ls' := [some (vR 76), some (vI (nI k)), some (vI (nI row)), some (vI (nI acc)), some (vI (nI i)), some (vI (vs i)), some (vI (s (11 + 4 * ((6 * row) + i) + 2))), some (vI (wiF (vs i) (nI 99)))]) dX9_pour_105 (by decide) rfl ?_
      refine Go.aload_n dX9_pour_107 rfl ?_
      refine Go.bipush (v := nI 6) dX9_pour_108 rfl ?_
      refine Go.at 110 rfl ?_
      refine Go.iload_n dX9_pour_110 rfl ?_
      refine Go.imulN dX9_pour_111 ?_
      refine Go.iload dX9_pour_112 rfl ?_
      refine Go.iaddN dX9_pour_114 ?_
      refine Go.iconst (v := nI 2) dX9_pour_115 rfl ?_
      refine Go.iload dX9_pour_116 rfl ?_
      refine Go.at 118 rfl ?_
      refine Go.callVv 76 [vI (nI ((6 * row) + i)), vI (nI 2), vI (wiF (vs i) (nI 99))] [] dX9_pour_118 lkX9_99 (Or.inl ⟨_, _, _, rfl, rfl, rfl⟩) rfl (Nat.le_of_ble_eq_true rfl) rfl (Nat.le_of_ble_eq_true rfl) (m_sets ((6 * row) + i) 2 (by omega) (by decide) (wiF (vs i) (nI 99))) ?_
      have c1 : MI μ0 (ms μ 77 (11 + 4 * ((6 * row) + i) + 2) (wiF (vs i) (nI 99))) (upd s (11 + 4 * ((6 * row) + i) + 2) (wiF (vs i) (nI 99))) := hM.st _ (wiF (vs i) (nI 99))
      refine Go.iload_n dX9_pour_121 rfl ?_
      refine Go.iload dX9_pour_122 rfl ?_
      refine Go.iload dX9_pour_124 rfl ?_
      refine Go.icmp_ne (tgt := 133) dX9_pour_126 (by decide) (fun h126 => ?_) (fun h126 => ?_)
      · -- 126 taken
        refine Go.iconst (v := nI 1) dX9_pour_133 rfl ?_
        refine Go.iaddN dX9_pour_134 ?_
        refine Go.istore_n (ls' := [some (vR 76), some (vI (nI k)), some (vI (nI row)), some (vI (nI (acc + 1))), some (vI (nI i)), some (vI (vs i)), some (vI (s (11 + 4 * ((6 * row) + i) + 2))), some (vI (wiF (vs i) (nI 99)))]) dX9_pour_135 (by decide) rfl ?_
        refine Go.iinc (v := nI (i + 1)) (ls' := [some (vR 76), some (vI (nI k)), some (vI (nI row)), some (vI (nI (acc + 1))), some (vI (nI (i + 1))), some (vI (vs i)), some (vI (s (11 + 4 * ((6 * row) + i) + 2))), some (vI (wiF (vs i) (nI 99)))]) dX9_pour_136 rfl (nI_add _ _) (by decide) rfl ?_
        refine Go.goto (tgt := 40) dX9_pour_139 (by decide) ?_
        refine Go.mask [true, true, true, true, true, false, false, false] rfl ?_
        rw [show pourV (vs i) (s (11 + 4 * (6 * row + i) + 2)) = wiF (vs i) (nI 99) from if_neg h90]
        rw [if_neg h126]
        exact m_pour_lp hk hr hn en hv hm1 hm2 hm3 j (i + 1) (acc + 1) _ _ (by omega) c1
      · -- 126 not
        refine Go.iconst (v := nI 0) dX9_pour_129 rfl ?_
        refine Go.goto (tgt := 134) dX9_pour_130 (by decide) ?_
        refine Go.iaddN dX9_pour_134 ?_
        refine Go.istore_n (ls' := [some (vR 76), some (vI (nI k)), some (vI (nI row)), some (vI (nI (acc))), some (vI (nI i)), some (vI (vs i)), some (vI (s (11 + 4 * ((6 * row) + i) + 2))), some (vI (wiF (vs i) (nI 99)))]) dX9_pour_135 (by decide) rfl ?_
        refine Go.iinc (v := nI (i + 1)) (ls' := [some (vR 76), some (vI (nI k)), some (vI (nI row)), some (vI (nI (acc))), some (vI (nI (i + 1))), some (vI (vs i)), some (vI (s (11 + 4 * ((6 * row) + i) + 2))), some (vI (wiF (vs i) (nI 99)))]) dX9_pour_136 rfl (nI_add _ _) (by decide) rfl ?_
        refine Go.goto (tgt := 40) dX9_pour_139 (by decide) ?_
        refine Go.at 40 rfl ?_
        refine Go.mask [true, true, true, true, true, false, false, false] rfl ?_
        rw [show pourV (vs i) (s (11 + 4 * (6 * row + i) + 2)) = wiF (vs i) (nI 99) from if_neg h90]
        rw [if_pos h126]
        exact m_pour_lp hk hr hn en hv hm1 hm2 hm3 j (i + 1) acc _ _ (by omega) c1
    · -- 90 not
      refine Go.iload dX9_pour_93 rfl ?_
      refine Go.goto (tgt := 105) dX9_pour_95 (by decide) ?_
      refine Go.istore (ls' := [some (vR 76), some (vI (nI k)), some (vI (nI row)), some (vI (nI acc)), some (vI (nI i)), some (vI (vs i)), some (vI (s (11 + 4 * ((6 * row) + i) + 2))), some (vI (s (11 + 4 * ((6 * row) + i) + 2)))]) dX9_pour_105 (by decide) rfl ?_
      refine Go.aload_n dX9_pour_107 rfl ?_
      refine Go.bipush (v := nI 6) dX9_pour_108 rfl ?_
      refine Go.iload_n dX9_pour_110 rfl ?_
      refine Go.at 111 rfl ?_
      refine Go.imulN dX9_pour_111 ?_
      refine Go.iload dX9_pour_112 rfl ?_
      refine Go.iaddN dX9_pour_114 ?_
      refine Go.iconst (v := nI 2) dX9_pour_115 rfl ?_
      refine Go.iload dX9_pour_116 rfl ?_
      refine Go.callVv 76 [vI (nI ((6 * row) + i)), vI (nI 2), vI (s (11 + 4 * ((6 * row) + i) + 2))] [] dX9_pour_118 lkX9_99 (Or.inl ⟨_, _, _, rfl, rfl, rfl⟩) rfl (Nat.le_of_ble_eq_true rfl) rfl (Nat.le_of_ble_eq_true rfl) (m_sets ((6 * row) + i) 2 (by omega) (by decide) (s (11 + 4 * ((6 * row) + i) + 2))) ?_
      have c2 : MI μ0 (ms μ 77 (11 + 4 * ((6 * row) + i) + 2) (s (11 + 4 * ((6 * row) + i) + 2))) (upd s (11 + 4 * ((6 * row) + i) + 2) (s (11 + 4 * ((6 * row) + i) + 2))) := hM.st _ (s (11 + 4 * ((6 * row) + i) + 2))
      refine Go.at 121 rfl ?_
      refine Go.iload_n dX9_pour_121 rfl ?_
      refine Go.iload dX9_pour_122 rfl ?_
      refine Go.iload dX9_pour_124 rfl ?_
      refine Go.icmp_ne_f (tgt := 133) dX9_pour_126 (by decide) rfl ?_
      refine Go.iconst (v := nI 0) dX9_pour_129 rfl ?_
      refine Go.goto (tgt := 134) dX9_pour_130 (by decide) ?_
      refine Go.at 134 rfl ?_
      refine Go.iaddN dX9_pour_134 ?_
      refine Go.istore_n (ls' := [some (vR 76), some (vI (nI k)), some (vI (nI row)), some (vI (nI (acc))), some (vI (nI i)), some (vI (vs i)), some (vI (s (11 + 4 * ((6 * row) + i) + 2))), some (vI (s (11 + 4 * ((6 * row) + i) + 2)))]) dX9_pour_135 (by decide) rfl ?_
      refine Go.iinc (v := nI (i + 1)) (ls' := [some (vR 76), some (vI (nI k)), some (vI (nI row)), some (vI (nI (acc))), some (vI (nI (i + 1))), some (vI (vs i)), some (vI (s (11 + 4 * ((6 * row) + i) + 2))), some (vI (s (11 + 4 * ((6 * row) + i) + 2)))]) dX9_pour_136 rfl (nI_add _ _) (by decide) rfl ?_
      refine Go.goto (tgt := 40) dX9_pour_139 (by decide) ?_
      refine Go.mask [true, true, true, true, true, false, false, false] rfl ?_
      rw [show pourV (vs i) (s (11 + 4 * (6 * row + i) + 2)) = s (11 + 4 * ((6 * row) + i) + 2) from if_pos h90]
      rw [if_pos rfl]
      exact m_pour_lp hk hr hn en hv hm1 hm2 hm3 j (i + 1) acc _ _ (by omega) c2
theorem c_pourInto {V : VV} {d : Nat} {μ : Memo} {s0 : Nat → Int32} {k row n mm : Nat} (hk : k < 4) (hr : row < 5) (hn : n ≤ 24) (en : μ (53 + k) 1 = nI n) (hm1 : mm ≤ 6) (hm2 : mm ≤ n) (hm3 : mm = 6 ∨ mm = n) {s : Nat → Int32} (hC : CI 7 μ μ s0 s) : RetI V (d + 2) mX1_pourInto [vR 7, vI (nI row), vR (53 + k)] μ (nI (pourL (μ (57 + k)) row s 0 0 mm).2) (fun μ1 => CI 7 μ μ1 s0 (pourL (μ (57 + k)) row s 0 0 mm).1) := by
  show Go V (d + 2) mX1_pourInto 0 [some (vR 7), some (vI (nI row)), some (vR (53 + k)), none, none, none, none, none] [] μ _
  refine Go.iconst (v := nI 0) dX1_pourInto_0 rfl ?_
  refine Go.istore_n (ls' := [some (vR 7), some (vI (nI row)), some (vR (53 + k)), some (vI (nI 0)), none, none, none, none]) dX1_pourInto_1 (by decide) rfl ?_
  refine Go.iconst (v := nI 0) dX1_pourInto_2 rfl ?_
  refine Go.istore (ls' := [some (vR 7), some (vI (nI row)), some (vR (53 + k)), some (vI (nI 0)), some (vI (nI 0)), none, none, none]) dX1_pourInto_3 (by decide) rfl ?_
  exact c_pour_lp hk hr hn en hm1 hm2 hm3 mm 0 0 _ _ (by omega) hC
theorem op_pour {V : VV} {d : Nat} {μ : Memo} (hS : Sim μ) (k0 row0 : Int32) : OpOK V (d + 3) mX8_pour mX9_pour [vI k0, vI row0] μ := by
  obtain ⟨⟨hT, hCo, hKd, hO, hH⟩, hI, hX, hIm, hSh, hSl, hTp, hWt⟩ := id hS
  by_cases h1 : nI 0 ≤ k0 ∧ k0 ≤ nI 3
  · obtain ⟨k, hk0, rfl⟩ := in_nI (by decide) h1
    have hk : k < 4 := by omega
    obtain ⟨a1, a2, a3, ⟨n, hn, en⟩, a4⟩ := hSh k hk
    by_cases h2 : nI 0 ≤ row0 ∧ row0 ≤ nI 4
    · obtain ⟨row, hr0, rfl⟩ := in_nI (by decide) h2
      have hr : row < 5 := by omega
      rcases a2 with es | es | es
      · skip
        refine OpOK.q (x := (-1000000011)) hS ?_ (fun μ5 k5 => ?_)
        · show Go V (d + 3) mX8_pour 0 [some (vR 0), some (vI (nI k)), some (vI (nI row)), none] [] μ _
          refine Go.iload_n dX8_pour_0 rfl ?_
          refine Go.callSi [vI (nI k)] [] dX8_pour_1 lkX8_227 rfl (Nat.le_of_ble_eq_true rfl) rfl (Nat.le_of_ble_eq_true rfl) (c_isSheet (nI k)) ?_
          refine Go.if_eqb_f (tgt := 16) dX8_pour_4 (by decide) h1 ?_
          refine Go.iload_n dX8_pour_7 rfl ?_
          refine Go.iconst (v := nI 0) dX8_pour_8 rfl ?_
          refine Go.iconst (v := nI 4) dX8_pour_9 rfl ?_
          refine Go.at 10 rfl ?_
          refine Go.callSi [vI (nI row), vI (nI 0), vI (nI 4)] [] dX8_pour_10 lkX8_72 rfl (Nat.le_of_ble_eq_true rfl) rfl (Nat.le_of_ble_eq_true rfl) (c_within (nI row) (nI 0) (nI 4)) ?_
          refine Go.if_neb_t (tgt := 19) dX8_pour_13 (by decide) h2 ?_
          refine Go.aload_n dX8_pour_19 rfl ?_
          refine Go.getR dX8_pour_20 flX8_49 rfl ?_
          refine Go.iload_n dX8_pour_23 rfl ?_
          refine Go.aaload (r := 53 + k) k dX8_pour_24 (arSh hk) rfl ?_
          refine Go.at 25 rfl ?_
          refine Go.astore_n (ls' := [some (vR 0), some (vI (nI k)), some (vI (nI row)), some (vR (53 + k))]) dX8_pour_25 (by decide) rfl ?_
          refine Go.aload_n dX8_pour_26 rfl ?_
          refine Go.getI dX8_pour_27 flX8_235 (shA hk).1 ?_
          refine Go.topE (y := (-1)) (a1.trans es) ?_
          refine Go.iconst (v := (-1)) dX8_pour_30 rfl ?_
          refine Go.icmp_ne_f (tgt := 39) dX8_pour_31 (by decide) (by decide) ?_
          refine Go.ldc dX8_pour_34 cnX8_238 ?_
          refine Go.at 36 rfl ?_
          refine Go.goto (tgt := 48) dX8_pour_36 (by decide) ?_
          refine Go.ireturn .int dX8_pour_48 rfl rfl ?_
          exact ⟨rfl, Fr.rf _ _⟩
        · skip
          have e80 : μ5 80 k = (-1) := (congrFun (k5 80 (by simp only [List.mem_cons, List.not_mem_nil, or_false]; omega)) k).trans es
          have e81 : μ5 81 k = nI n := (congrFun (k5 81 (by simp only [List.mem_cons, List.not_mem_nil, or_false]; omega)) k).trans en
          show Go V (d + 3) mX9_pour 0 [some (vR 76), some (vI (nI k)), some (vI (nI row)), none, none, none, none, none] [] μ5 _
          refine Go.iload_n dX9_pour_0 rfl ?_
          refine Go.callSi [vI (nI k)] [] dX9_pour_1 lkX9_285 rfl (Nat.le_of_ble_eq_true rfl) rfl (Nat.le_of_ble_eq_true rfl) (m_isSheet (nI k)) ?_
          refine Go.if_eqb_f (tgt := 19) dX9_pour_4 (by decide) h1 ?_
          refine Go.iload_n dX9_pour_7 rfl ?_
          refine Go.i2l dX9_pour_8 ?_
          refine Go.lconst (v := (nI 0).toInt64) dX9_pour_9 rfl ?_
          refine Go.at 10 rfl ?_
          refine Go.ldc2 (v := (nI 4).toInt64) dX9_pour_10 clX9_297 ?_
          refine Go.callSi [vL ((nI row).toInt64), vL ((nI 0).toInt64), vL ((nI 4).toInt64)] [] dX9_pour_13 lkX9_65 rfl (Nat.le_of_ble_eq_true rfl) rfl (Nat.le_of_ble_eq_true rfl) (m_isIn (nI row) (nI 0) (nI 4)) ?_
          refine Go.if_neb_t (tgt := 22) dX9_pour_16 (by decide) h2 ?_
          refine Go.aload_n dX9_pour_22 rfl ?_
          refine Go.getR dX9_pour_23 flX9_19 rfl ?_
          refine Go.iload_n dX9_pour_26 rfl ?_
          refine Go.at 27 rfl ?_
          refine Go.iaload k dX9_pour_27 rfl (by omega) rfl ?_
          refine Go.topE (y := (-1)) e80 ?_
          refine Go.if_ge_f (tgt := 35) dX9_pour_28 (by decide) (by decide) ?_
          refine Go.ldc_w dX9_pour_31 cnX9_291 ?_
          refine Go.ireturn .int dX9_pour_34 rfl rfl ?_
          exact ⟨rfl, Fr.rf _ _⟩
      · obtain ⟨mm, hm1, hm2, hm3⟩ : ∃ mm, mm ≤ 6 ∧ mm ≤ n ∧ (mm = 6 ∨ mm = n) := ⟨min 6 n, by omega, by omega, by omega⟩
        refine OpOK.c (x := nI (pourL (μ (57 + k)) row (μ 77) 0 0 mm).2) (pourL (μ (57 + k)) row (μ 77) 0 0 mm).1 hS ?_ (fun μ5 c5 => ?_)
        · show Go V (d + 3) mX8_pour 0 [some (vR 0), some (vI (nI k)), some (vI (nI row)), none] [] μ _
          refine Go.iload_n dX8_pour_0 rfl ?_
          refine Go.callSi [vI (nI k)] [] dX8_pour_1 lkX8_227 rfl (Nat.le_of_ble_eq_true rfl) rfl (Nat.le_of_ble_eq_true rfl) (c_isSheet (nI k)) ?_
          refine Go.if_eqb_f (tgt := 16) dX8_pour_4 (by decide) h1 ?_
          refine Go.iload_n dX8_pour_7 rfl ?_
          refine Go.iconst (v := nI 0) dX8_pour_8 rfl ?_
          refine Go.iconst (v := nI 4) dX8_pour_9 rfl ?_
          refine Go.at 10 rfl ?_
          refine Go.callSi [vI (nI row), vI (nI 0), vI (nI 4)] [] dX8_pour_10 lkX8_72 rfl (Nat.le_of_ble_eq_true rfl) rfl (Nat.le_of_ble_eq_true rfl) (c_within (nI row) (nI 0) (nI 4)) ?_
          refine Go.if_neb_t (tgt := 19) dX8_pour_13 (by decide) h2 ?_
          refine Go.aload_n dX8_pour_19 rfl ?_
          refine Go.getR dX8_pour_20 flX8_49 rfl ?_
          refine Go.iload_n dX8_pour_23 rfl ?_
          refine Go.aaload (r := 53 + k) k dX8_pour_24 (arSh hk) rfl ?_
          refine Go.at 25 rfl ?_
          refine Go.astore_n (ls' := [some (vR 0), some (vI (nI k)), some (vI (nI row)), some (vR (53 + k))]) dX8_pour_25 (by decide) rfl ?_
          refine Go.aload_n dX8_pour_26 rfl ?_
          refine Go.getI dX8_pour_27 flX8_235 (shA hk).1 ?_
          refine Go.topE (y := nI 0) (a1.trans es) ?_
          refine Go.iconst (v := (-1)) dX8_pour_30 rfl ?_
          refine Go.icmp_ne_t (tgt := 39) dX8_pour_31 (by decide) (by decide) ?_
          refine Go.aload_n dX8_pour_39 rfl ?_
          refine Go.at 40 rfl ?_
          refine Go.getR dX8_pour_40 flX8_21 rfl ?_
          refine Go.iload_n dX8_pour_43 rfl ?_
          refine Go.aload_n dX8_pour_44 rfl ?_
          refine Go.callVx 7 [vI (nI row), vR (53 + k)] [] dX8_pour_45 lkX8_248 (Or.inl ⟨_, _, _, rfl, rfl, rfl⟩) rfl (Nat.le_of_ble_eq_true rfl) rfl (Nat.le_of_ble_eq_true rfl) (c_pourInto hk hr hn (a3.trans en) hm1 hm2 hm3 hS.ci) (fun μ1 c1 => ?_)
          refine Go.ireturn .int dX8_pour_48 rfl rfl ?_
          exact ⟨rfl, c1⟩
        · skip
          have k5 : Fr (FB 7) μ μ5 := c5.2.2.2.2.2
          have e80 : μ5 80 k = nI 0 := (congrFun (k5 80 (by decide)) k).trans es
          have e81 : μ5 81 k = nI n := (congrFun (k5 81 (by decide)) k).trans en
          show Go V (d + 3) mX9_pour 0 [some (vR 76), some (vI (nI k)), some (vI (nI row)), none, none, none, none, none] [] μ5 _
          refine Go.iload_n dX9_pour_0 rfl ?_
          refine Go.callSi [vI (nI k)] [] dX9_pour_1 lkX9_285 rfl (Nat.le_of_ble_eq_true rfl) rfl (Nat.le_of_ble_eq_true rfl) (m_isSheet (nI k)) ?_
          refine Go.if_eqb_f (tgt := 19) dX9_pour_4 (by decide) h1 ?_
          refine Go.iload_n dX9_pour_7 rfl ?_
          refine Go.i2l dX9_pour_8 ?_
          refine Go.lconst (v := (nI 0).toInt64) dX9_pour_9 rfl ?_
          refine Go.at 10 rfl ?_
          refine Go.ldc2 (v := (nI 4).toInt64) dX9_pour_10 clX9_297 ?_
          refine Go.callSi [vL ((nI row).toInt64), vL ((nI 0).toInt64), vL ((nI 4).toInt64)] [] dX9_pour_13 lkX9_65 rfl (Nat.le_of_ble_eq_true rfl) rfl (Nat.le_of_ble_eq_true rfl) (m_isIn (nI row) (nI 0) (nI 4)) ?_
          refine Go.if_neb_t (tgt := 22) dX9_pour_16 (by decide) h2 ?_
          refine Go.aload_n dX9_pour_22 rfl ?_
          refine Go.getR dX9_pour_23 flX9_19 rfl ?_
          refine Go.iload_n dX9_pour_26 rfl ?_
          refine Go.at 27 rfl ?_
          refine Go.iaload k dX9_pour_27 rfl (by omega) rfl ?_
          refine Go.topE (y := nI 0) e80 ?_
          refine Go.if_ge_t (tgt := 35) dX9_pour_28 (by decide) (by decide) ?_
          refine Go.iconst (v := nI 0) dX9_pour_35 rfl ?_
          refine Go.istore_n (ls' := [some (vR 76), some (vI (nI k)), some (vI (nI row)), some (vI (nI 0)), none, none, none, none]) dX9_pour_36 (by decide) rfl ?_
          refine Go.iconst (v := nI 0) dX9_pour_37 rfl ?_
          refine Go.istore (ls' := [some (vR 76), some (vI (nI k)), some (vI (nI row)), some (vI (nI 0)), some (vI (nI 0)), none, none, none]) dX9_pour_38 (by decide) rfl ?_
          refine Go.at 40 rfl ?_
          exact m_pour_lp (n := n) hk hr hn e81 (fun i hi => by rw [k5 82 (by decide)]; exact a4 i hi) hm1 hm2 hm3 mm 0 0 _ _ (by omega) (c5.mi isB7 rfl)
      · obtain ⟨mm, hm1, hm2, hm3⟩ : ∃ mm, mm ≤ 6 ∧ mm ≤ n ∧ (mm = 6 ∨ mm = n) := ⟨min 6 n, by omega, by omega, by omega⟩
        refine OpOK.c (x := nI (pourL (μ (57 + k)) row (μ 77) 0 0 mm).2) (pourL (μ (57 + k)) row (μ 77) 0 0 mm).1 hS ?_ (fun μ5 c5 => ?_)
        · show Go V (d + 3) mX8_pour 0 [some (vR 0), some (vI (nI k)), some (vI (nI row)), none] [] μ _
          refine Go.iload_n dX8_pour_0 rfl ?_
          refine Go.callSi [vI (nI k)] [] dX8_pour_1 lkX8_227 rfl (Nat.le_of_ble_eq_true rfl) rfl (Nat.le_of_ble_eq_true rfl) (c_isSheet (nI k)) ?_
          refine Go.if_eqb_f (tgt := 16) dX8_pour_4 (by decide) h1 ?_
          refine Go.iload_n dX8_pour_7 rfl ?_
          refine Go.iconst (v := nI 0) dX8_pour_8 rfl ?_
          refine Go.iconst (v := nI 4) dX8_pour_9 rfl ?_
          refine Go.at 10 rfl ?_
          refine Go.callSi [vI (nI row), vI (nI 0), vI (nI 4)] [] dX8_pour_10 lkX8_72 rfl (Nat.le_of_ble_eq_true rfl) rfl (Nat.le_of_ble_eq_true rfl) (c_within (nI row) (nI 0) (nI 4)) ?_
          refine Go.if_neb_t (tgt := 19) dX8_pour_13 (by decide) h2 ?_
          refine Go.aload_n dX8_pour_19 rfl ?_
          refine Go.getR dX8_pour_20 flX8_49 rfl ?_
          refine Go.iload_n dX8_pour_23 rfl ?_
          refine Go.aaload (r := 53 + k) k dX8_pour_24 (arSh hk) rfl ?_
          refine Go.at 25 rfl ?_
          refine Go.astore_n (ls' := [some (vR 0), some (vI (nI k)), some (vI (nI row)), some (vR (53 + k))]) dX8_pour_25 (by decide) rfl ?_
          refine Go.aload_n dX8_pour_26 rfl ?_
          refine Go.getI dX8_pour_27 flX8_235 (shA hk).1 ?_
          refine Go.topE (y := nI 1) (a1.trans es) ?_
          refine Go.iconst (v := (-1)) dX8_pour_30 rfl ?_
          refine Go.icmp_ne_t (tgt := 39) dX8_pour_31 (by decide) (by decide) ?_
          refine Go.aload_n dX8_pour_39 rfl ?_
          refine Go.at 40 rfl ?_
          refine Go.getR dX8_pour_40 flX8_21 rfl ?_
          refine Go.iload_n dX8_pour_43 rfl ?_
          refine Go.aload_n dX8_pour_44 rfl ?_
          refine Go.callVx 7 [vI (nI row), vR (53 + k)] [] dX8_pour_45 lkX8_248 (Or.inl ⟨_, _, _, rfl, rfl, rfl⟩) rfl (Nat.le_of_ble_eq_true rfl) rfl (Nat.le_of_ble_eq_true rfl) (c_pourInto hk hr hn (a3.trans en) hm1 hm2 hm3 hS.ci) (fun μ1 c1 => ?_)
          refine Go.ireturn .int dX8_pour_48 rfl rfl ?_
          exact ⟨rfl, c1⟩
        · skip
          have k5 : Fr (FB 7) μ μ5 := c5.2.2.2.2.2
          have e80 : μ5 80 k = nI 1 := (congrFun (k5 80 (by decide)) k).trans es
          have e81 : μ5 81 k = nI n := (congrFun (k5 81 (by decide)) k).trans en
          show Go V (d + 3) mX9_pour 0 [some (vR 76), some (vI (nI k)), some (vI (nI row)), none, none, none, none, none] [] μ5 _
          refine Go.iload_n dX9_pour_0 rfl ?_
          refine Go.callSi [vI (nI k)] [] dX9_pour_1 lkX9_285 rfl (Nat.le_of_ble_eq_true rfl) rfl (Nat.le_of_ble_eq_true rfl) (m_isSheet (nI k)) ?_
          refine Go.if_eqb_f (tgt := 19) dX9_pour_4 (by decide) h1 ?_
          refine Go.iload_n dX9_pour_7 rfl ?_
          refine Go.i2l dX9_pour_8 ?_
          refine Go.lconst (v := (nI 0).toInt64) dX9_pour_9 rfl ?_
          refine Go.at 10 rfl ?_
          refine Go.ldc2 (v := (nI 4).toInt64) dX9_pour_10 clX9_297 ?_
          refine Go.callSi [vL ((nI row).toInt64), vL ((nI 0).toInt64), vL ((nI 4).toInt64)] [] dX9_pour_13 lkX9_65 rfl (Nat.le_of_ble_eq_true rfl) rfl (Nat.le_of_ble_eq_true rfl) (m_isIn (nI row) (nI 0) (nI 4)) ?_
          refine Go.if_neb_t (tgt := 22) dX9_pour_16 (by decide) h2 ?_
          refine Go.aload_n dX9_pour_22 rfl ?_
          refine Go.getR dX9_pour_23 flX9_19 rfl ?_
          refine Go.iload_n dX9_pour_26 rfl ?_
          refine Go.at 27 rfl ?_
          refine Go.iaload k dX9_pour_27 rfl (by omega) rfl ?_
          refine Go.topE (y := nI 1) e80 ?_
          refine Go.if_ge_t (tgt := 35) dX9_pour_28 (by decide) (by decide) ?_
          refine Go.iconst (v := nI 0) dX9_pour_35 rfl ?_
          refine Go.istore_n (ls' := [some (vR 76), some (vI (nI k)), some (vI (nI row)), some (vI (nI 0)), none, none, none, none]) dX9_pour_36 (by decide) rfl ?_
          refine Go.iconst (v := nI 0) dX9_pour_37 rfl ?_
          refine Go.istore (ls' := [some (vR 76), some (vI (nI k)), some (vI (nI row)), some (vI (nI 0)), some (vI (nI 0)), none, none, none]) dX9_pour_38 (by decide) rfl ?_
          refine Go.at 40 rfl ?_
          exact m_pour_lp (n := n) hk hr hn e81 (fun i hi => by rw [k5 82 (by decide)]; exact a4 i hi) hm1 hm2 hm3 mm 0 0 _ _ (by omega) (c5.mi isB7 rfl)
    · skip
      refine OpOK.q (x := (-1000000001)) hS ?_ (fun μ5 k5 => ?_)
      · show Go V (d + 3) mX8_pour 0 [some (vR 0), some (vI (nI k)), some (vI row0), none] [] μ _
        refine Go.iload_n dX8_pour_0 rfl ?_
        refine Go.callSi [vI (nI k)] [] dX8_pour_1 lkX8_227 rfl (Nat.le_of_ble_eq_true rfl) rfl (Nat.le_of_ble_eq_true rfl) (c_isSheet (nI k)) ?_
        refine Go.if_eqb_f (tgt := 16) dX8_pour_4 (by decide) h1 ?_
        refine Go.iload_n dX8_pour_7 rfl ?_
        refine Go.iconst (v := nI 0) dX8_pour_8 rfl ?_
        refine Go.iconst (v := nI 4) dX8_pour_9 rfl ?_
        refine Go.at 10 rfl ?_
        refine Go.callSi [vI row0, vI (nI 0), vI (nI 4)] [] dX8_pour_10 lkX8_72 rfl (Nat.le_of_ble_eq_true rfl) rfl (Nat.le_of_ble_eq_true rfl) (c_within row0 (nI 0) (nI 4)) ?_
        refine Go.if_neb_f (tgt := 19) dX8_pour_13 (by decide) h2 ?_
        refine Go.ldc dX8_pour_16 cnX8_76 ?_
        refine Go.ireturn .int dX8_pour_18 rfl rfl ?_
        exact ⟨rfl, Fr.rf _ _⟩
      · skip
        show Go V (d + 3) mX9_pour 0 [some (vR 76), some (vI (nI k)), some (vI row0), none, none, none, none, none] [] μ5 _
        refine Go.iload_n dX9_pour_0 rfl ?_
        refine Go.callSi [vI (nI k)] [] dX9_pour_1 lkX9_285 rfl (Nat.le_of_ble_eq_true rfl) rfl (Nat.le_of_ble_eq_true rfl) (m_isSheet (nI k)) ?_
        refine Go.if_eqb_f (tgt := 19) dX9_pour_4 (by decide) h1 ?_
        refine Go.iload_n dX9_pour_7 rfl ?_
        refine Go.i2l dX9_pour_8 ?_
        refine Go.lconst (v := (nI 0).toInt64) dX9_pour_9 rfl ?_
        refine Go.at 10 rfl ?_
        refine Go.ldc2 (v := (nI 4).toInt64) dX9_pour_10 clX9_297 ?_
        refine Go.callSi [vL row0.toInt64, vL ((nI 0).toInt64), vL ((nI 4).toInt64)] [] dX9_pour_13 lkX9_65 rfl (Nat.le_of_ble_eq_true rfl) rfl (Nat.le_of_ble_eq_true rfl) (m_isIn row0 (nI 0) (nI 4)) ?_
        refine Go.if_neb_f (tgt := 22) dX9_pour_16 (by decide) h2 ?_
        refine Go.ldc dX9_pour_19 cnX9_98 ?_
        refine Go.ireturn .int dX9_pour_21 rfl rfl ?_
        exact ⟨rfl, Fr.rf _ _⟩
  · skip
    refine OpOK.q (x := (-1000000001)) hS ?_ (fun μ5 k5 => ?_)
    · show Go V (d + 3) mX8_pour 0 [some (vR 0), some (vI k0), some (vI row0), none] [] μ _
      refine Go.iload_n dX8_pour_0 rfl ?_
      refine Go.callSi [vI k0] [] dX8_pour_1 lkX8_227 rfl (Nat.le_of_ble_eq_true rfl) rfl (Nat.le_of_ble_eq_true rfl) (c_isSheet k0) ?_
      refine Go.if_eqb_t (tgt := 16) dX8_pour_4 (by decide) h1 ?_
      refine Go.ldc dX8_pour_16 cnX8_76 ?_
      refine Go.ireturn .int dX8_pour_18 rfl rfl ?_
      exact ⟨rfl, Fr.rf _ _⟩
    · skip
      show Go V (d + 3) mX9_pour 0 [some (vR 76), some (vI k0), some (vI row0), none, none, none, none, none] [] μ5 _
      refine Go.iload_n dX9_pour_0 rfl ?_
      refine Go.callSi [vI k0] [] dX9_pour_1 lkX9_285 rfl (Nat.le_of_ble_eq_true rfl) rfl (Nat.le_of_ble_eq_true rfl) (m_isSheet k0) ?_
      refine Go.if_eqb_t (tgt := 19) dX9_pour_4 (by decide) h1 ?_
      refine Go.ldc dX9_pour_19 cnX9_98 ?_
      refine Go.ireturn .int dX9_pour_21 rfl rfl ?_
      exact ⟨rfl, Fr.rf _ _⟩
