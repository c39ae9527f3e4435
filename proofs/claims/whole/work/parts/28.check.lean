def mixS (μ : Memo) : Nat → Int32 := fun k => if k < 2947 then μ 78 k else μ 77 k
theorem k_eq {P : Nat → Prop} {k x : Nat} (h1 : ∀ t, t < k → P t) (hle : x ≤ k) (hn : ¬ P x) : k = x := by
  by_cases z : x < k
  · exact absurd (h1 x z) hn
  · omega
def FwP (w D : Nat → Int32) (many h t : Nat) : Prop := t < many ∧ t < 2 * h ∧ w t = D t
theorem k_le {w D : Nat → Int32} {many h k : Nat} (h1 : ∀ t, t < k → FwP w D many h t) : k ≤ many ∧ k ≤ 2 * h := by
  by_cases z : k = 0
  · omega
  · have := h1 (k - 1) (by omega)
    unfold FwP at this; omega
def HrP (s : Nat → Int32) (n h : Nat) : Prop := h ≤ n ∧ (h = n ∨ nI 9999 ≤ itS s h 2) ∧ ∀ i, i < h → ¬ nI 9999 ≤ itS s i 2
theorem c_fw_lp {V : VV} {d : Nat} {μ0 : Memo} {s : Nat → Int32} {n many h k : Nat} (hn : n ≤ 30) (hm : many ≤ 60) (hh : HrP s n h) (hk1 : ∀ t, t < k → FwP (μ0 38) (dueD s) many h t) (hk2 : ¬ FwP (μ0 38) (dueD s) many h k) :
    ∀ (j i : Nat) (μ : Memo), i + j = h → 2 * i ≤ k → CI 23 μ0 μ s (itS s i) → Go V (d + 6) mX8_firstWrong 5 [some (vR 0), some (vI (nI n)), some (vI (nI many)), some (vI (nI (2 * i))), some (vI (nI i))] [] μ (fun r' μ'' => r' = some (vI (ansK many h k)) ∧ Fr (FB 23) μ0 μ'')
  | 0, i, μ, hij, hle, hC => by
    obtain rfl : i = h := by omega
    have kl := k_le hk1
    have K : k = 2 * i := by omega
    have hh1 := hh.1
    refine Go.iload dX8_firstWrong_5 rfl ?_
    refine Go.iload_n dX8_firstWrong_7 rfl ?_
    refine Go.icmp_ge (tgt := 94) dX8_firstWrong_8 (by decide) (fun h8 => ?_) (fun h8 => ?_)
    · -- 8 taken
      refine Go.iload_n dX8_firstWrong_94 rfl ?_
      refine Go.iload_n dX8_firstWrong_95 rfl ?_
      refine Go.icmp_ge (tgt := 105) dX8_firstWrong_96 (by decide) (fun h96 => ?_) (fun h96 => ?_)
      · -- 96 taken
        refine Go.iconst (v := nI 0) dX8_firstWrong_105 rfl ?_
        refine Go.ireturn .int dX8_firstWrong_106 rfl rfl ?_
        refine ⟨congrArg (fun z => some (vI z)) ?_, hC.2.2.2.2.2⟩
        simp only [sI_le, nT] at h96
        rw [ansK, if_pos (by omega)]
      · -- 96 not
        refine Go.iload_n dX8_firstWrong_99 rfl ?_
        refine Go.iconst (v := nI 1) dX8_firstWrong_100 rfl ?_
        refine Go.iaddN dX8_firstWrong_101 ?_
        refine Go.goto (tgt := 106) dX8_firstWrong_102 (by decide) ?_
        refine Go.ireturn .int dX8_firstWrong_106 rfl rfl ?_
        refine ⟨congrArg (fun z => some (vI z)) ?_, hC.2.2.2.2.2⟩
        simp only [sI_le, nT] at h96
        rw [ansK, if_neg (by omega), K]
    · -- 8 not
      refine Go.aload_n dX8_firstWrong_11 rfl ?_
      refine Go.getR dX8_firstWrong_12 flX8_28 rfl ?_
      refine Go.getI dX8_firstWrong_15 flX8_192 rfl ?_
      refine Go.topE ((itS s i) 2) hC.1.2.2.2.2.1 ?_
      refine Go.sipush (v := nI 9999) dX8_firstWrong_18 rfl ?_
      refine Go.icmp_ge_t (tgt := 94) dX8_firstWrong_21 (by decide) (hh.2.1.resolve_left (by intro z; subst z; exact h8 (by rw [sI_le]; exact Int.le_refl _))) ?_
      refine Go.iload_n dX8_firstWrong_94 rfl ?_
      refine Go.at 95 rfl ?_
      refine Go.iload_n dX8_firstWrong_95 rfl ?_
      refine Go.icmp_ge (tgt := 105) dX8_firstWrong_96 (by decide) (fun h96 => ?_) (fun h96 => ?_)
      · -- 96 taken
        refine Go.iconst (v := nI 0) dX8_firstWrong_105 rfl ?_
        refine Go.ireturn .int dX8_firstWrong_106 rfl rfl ?_
        refine ⟨congrArg (fun z => some (vI z)) ?_, hC.2.2.2.2.2⟩
        simp only [sI_le, nT] at h96
        rw [ansK, if_pos (by omega)]
      · -- 96 not
        refine Go.iload_n dX8_firstWrong_99 rfl ?_
        refine Go.iconst (v := nI 1) dX8_firstWrong_100 rfl ?_
        refine Go.iaddN dX8_firstWrong_101 ?_
        refine Go.goto (tgt := 106) dX8_firstWrong_102 (by decide) ?_
        refine Go.ireturn .int dX8_firstWrong_106 rfl rfl ?_
        refine ⟨congrArg (fun z => some (vI z)) ?_, hC.2.2.2.2.2⟩
        simp only [sI_le, nT] at h96
        rw [ansK, if_neg (by omega), K]
  | j + 1, i, μ, hij, hle, hC => by
    have hi : i < h := by omega
    have kl := k_le hk1
    have hh1 := hh.1
    refine Go.iload dX8_firstWrong_5 rfl ?_
    refine Go.iload_n dX8_firstWrong_7 rfl ?_
    refine Go.icmp_ge_f (tgt := 94) dX8_firstWrong_8 (by decide) (nI_ge (by omega) (by omega)) ?_
    refine Go.aload_n dX8_firstWrong_11 rfl ?_
    refine Go.getR dX8_firstWrong_12 flX8_28 rfl ?_
    refine Go.getI dX8_firstWrong_15 flX8_192 rfl ?_
    refine Go.topE ((itS s i) 2) hC.1.2.2.2.2.1 ?_
    refine Go.at 18 rfl ?_
    refine Go.sipush (v := nI 9999) dX8_firstWrong_18 rfl ?_
    refine Go.icmp_ge_f (tgt := 94) dX8_firstWrong_21 (by decide) (hh.2.2 i hi) ?_
    refine Go.iload_n dX8_firstWrong_24 rfl ?_
    refine Go.iload_n dX8_firstWrong_25 rfl ?_
    refine Go.icmp_ge (tgt := 46) dX8_firstWrong_26 (by decide) (fun h26 => ?_) (fun h26 => ?_)
    · -- 26 taken
      refine Go.iload_n dX8_firstWrong_46 rfl ?_
      refine Go.iconst (v := nI 1) dX8_firstWrong_47 rfl ?_
      refine Go.iaddN dX8_firstWrong_48 ?_
      refine Go.ireturn .int dX8_firstWrong_49 rfl rfl ?_
      have K : k = (2 * i) := k_eq hk1 hle (by rintro ⟨q1, q2, q3⟩; simp only [sI_le, nT] at h26; omega)
      refine ⟨congrArg (fun z => some (vI z)) ?_, hC.2.2.2.2.2⟩
      rw [ansK, if_neg (by omega), K]
    · -- 26 not
      have q26 : 2 * i < many := by simp only [sI_le, nT] at h26; omega
      refine Go.aload_n dX8_firstWrong_29 rfl ?_
      refine Go.getR dX8_firstWrong_30 flX8_59 rfl ?_
      refine Go.iload_n dX8_firstWrong_33 rfl ?_
      refine Go.iaload (2 * i) dX8_firstWrong_34 rfl (by omega) rfl ?_
      refine Go.topE (y := μ0 38 (2 * i)) (congrFun (hC.2.2.2.2.2 38 (FB_no isB23 (by omega))) _) ?_
      refine Go.aload_n dX8_firstWrong_35 rfl ?_
      refine Go.getR dX8_firstWrong_36 flX8_28 rfl ?_
      refine Go.at 39 rfl ?_
      refine Go.iconst (v := nI 0) dX8_firstWrong_39 rfl ?_
      refine Go.callVx 23 [vI (nI 0)] [vI (μ0 38 (2 * i))] dX8_firstWrong_40 lkX8_131 (Or.inl ⟨_, _, _, rfl, rfl, rfl⟩) rfl (Nat.le_of_ble_eq_true rfl) rfl (Nat.le_of_ble_eq_true rfl) ((c_size isB23 hC.1 hC.2.1 hC.2.2.1 (nI 0)).eq (sz_c _ _)) (fun μ1 k1 => ?_)
      have c1 : CI 23 μ0 μ1 s (itS s i) := hC.fr isB23 k1
      refine Go.icmp_eq (tgt := 50) dX8_firstWrong_43 (by decide) (fun h43 => ?_) (fun h43 => ?_)
      · -- 43 taken
        have hle2 : 2 * i + 1 ≤ k := by
          by_cases z : k = 2 * i
          · exact absurd (z ▸ (⟨q26, by omega, by rw [due_0]; exact h43⟩ : FwP (μ0 38) (dueD s) many h (2 * i))) hk2
          · omega
        refine Go.iinc (v := nI ((2 * i) + 1)) (ls' := [some (vR 0), some (vI (nI n)), some (vI (nI many)), some (vI (nI ((2 * i) + 1))), some (vI (nI i))]) dX8_firstWrong_50 rfl (nI_add _ _) (by decide) rfl ?_
        refine Go.aload_n dX8_firstWrong_53 rfl ?_
        refine Go.getR dX8_firstWrong_54 flX8_28 rfl ?_
        refine Go.callVu 23 [] [] dX8_firstWrong_57 lkX8_195 (Or.inl ⟨_, _, _, rfl, rfl, rfl⟩) rfl (Nat.le_of_ble_eq_true rfl) rfl (Nat.le_of_ble_eq_true rfl) (c_passHour isB23 c1) (fun μ2 c2 => ?_)
        refine Go.iload_n dX8_firstWrong_60 rfl ?_
        refine Go.iload_n dX8_firstWrong_61 rfl ?_
        refine Go.at 62 rfl ?_
        refine Go.icmp_ge (tgt := 81) dX8_firstWrong_62 (by decide) (fun h62 => ?_) (fun h62 => ?_)
        · -- 62 taken
          refine Go.iload_n dX8_firstWrong_81 rfl ?_
          refine Go.iconst (v := nI 1) dX8_firstWrong_82 rfl ?_
          refine Go.iaddN dX8_firstWrong_83 ?_
          refine Go.ireturn .int dX8_firstWrong_84 rfl rfl ?_
          have K : k = (2 * i + 1) := k_eq hk1 hle2 (by rintro ⟨q1, q2, q3⟩; first | (rw [due_1] at q3; exact h78 q3) | (simp only [sI_le, nT] at h62; omega))
          refine ⟨congrArg (fun z => some (vI z)) ?_, c2.2.2.2.2.2⟩
          rw [ansK, if_neg (by omega), K]
        · -- 62 not
          have q62 : 2 * i + 1 < many := by simp only [sI_le, nT] at h62; omega
          refine Go.aload_n dX8_firstWrong_65 rfl ?_
          refine Go.getR dX8_firstWrong_66 flX8_59 rfl ?_
          refine Go.iload_n dX8_firstWrong_69 rfl ?_
          refine Go.iaload ((2 * i) + 1) dX8_firstWrong_70 rfl (by omega) rfl ?_
          refine Go.topE (y := μ0 38 (2 * i + 1)) (congrFun (c2.2.2.2.2.2 38 (FB_no isB23 (by omega))) _) ?_
          refine Go.aload_n dX8_firstWrong_71 rfl ?_
          refine Go.getR dX8_firstWrong_72 flX8_28 rfl ?_
          refine Go.at 75 rfl ?_
          refine Go.callVi 23 [] [vI (μ0 38 (2 * i + 1))] dX8_firstWrong_75 lkX8_304 (Or.inl ⟨_, _, _, rfl, rfl, rfl⟩) rfl (Nat.le_of_ble_eq_true rfl) rfl (Nat.le_of_ble_eq_true rfl) (c_allCorn isB23 c2.1) ?_
          refine Go.icmp_eq (tgt := 85) dX8_firstWrong_78 (by decide) (fun h78 => ?_) (fun h78 => ?_)
          · -- 78 taken
            have hle3 : 2 * (i + 1) ≤ k := by
              by_cases z : k = 2 * i + 1
              · exact absurd (z ▸ (⟨q62, by omega, by rw [due_1]; exact h78⟩ : FwP (μ0 38) (dueD s) many h (2 * i + 1))) hk2
              · omega
            refine Go.iinc (v := nI (((2 * i) + 1) + 1)) (ls' := [some (vR 0), some (vI (nI n)), some (vI (nI many)), some (vI (nI (((2 * i) + 1) + 1))), some (vI (nI i))]) dX8_firstWrong_85 rfl (nI_add _ _) (by decide) rfl ?_
            refine Go.iinc (v := nI (i + 1)) (ls' := [some (vR 0), some (vI (nI n)), some (vI (nI many)), some (vI (nI (((2 * i) + 1) + 1))), some (vI (nI (i + 1)))]) dX8_firstWrong_88 rfl (nI_add _ _) (by decide) rfl ?_
            refine Go.goto (tgt := 5) dX8_firstWrong_91 (by decide) ?_
            exact c_fw_lp hn hm hh hk1 hk2 j (i + 1) _ (by omega) hle3 c2
          · -- 78 not
            refine Go.iload_n dX8_firstWrong_81 rfl ?_
            refine Go.iconst (v := nI 1) dX8_firstWrong_82 rfl ?_
            refine Go.iaddN dX8_firstWrong_83 ?_
            refine Go.ireturn .int dX8_firstWrong_84 rfl rfl ?_
            have K : k = (2 * i + 1) := k_eq hk1 hle2 (by rintro ⟨q1, q2, q3⟩; first | (rw [due_1] at q3; exact h78 q3) | (simp only [sI_le, nT] at h62; omega))
            refine ⟨congrArg (fun z => some (vI z)) ?_, c2.2.2.2.2.2⟩
            rw [ansK, if_neg (by omega), K]
      · -- 43 not
        refine Go.iload_n dX8_firstWrong_46 rfl ?_
        refine Go.iconst (v := nI 1) dX8_firstWrong_47 rfl ?_
        refine Go.iaddN dX8_firstWrong_48 ?_
        refine Go.ireturn .int dX8_firstWrong_49 rfl rfl ?_
        have K : k = (2 * i) := k_eq hk1 hle (by rintro ⟨q1, q2, q3⟩; rw [due_0] at q3; exact h43 q3)
        refine ⟨congrArg (fun z => some (vI z)) ?_, c1.2.2.2.2.2⟩
        rw [ansK, if_neg (by omega), K]
theorem c_firstWrong {V : VV} {d : Nat} {μ : Memo} {s : Nat → Int32} {n many h k : Nat} (hn : n ≤ 30) (hm : many ≤ 60) (hh : HrP s n h) (hk1 : ∀ t, t < k → FwP (μ 38) (dueD s) many h t) (hk2 : ¬ FwP (μ 38) (dueD s) many h k) (hC : CI 23 μ μ s s) : RetI V (d + 6) mX8_firstWrong [vR 0, vI (nI n), vI (nI many)] μ (ansK many h k) (fun μ1 => Fr (FB 23) μ μ1) := by
  show Go V (d + 6) mX8_firstWrong 0 [some (vR 0), some (vI (nI n)), some (vI (nI many)), none, none] [] μ _
  refine Go.iconst (v := nI 0) dX8_firstWrong_0 rfl ?_
  refine Go.istore_n (ls' := [some (vR 0), some (vI (nI n)), some (vI (nI many)), some (vI (nI 0)), none]) dX8_firstWrong_1 (by decide) rfl ?_
  refine Go.iconst (v := nI 0) dX8_firstWrong_2 rfl ?_
  refine Go.istore (ls' := [some (vR 0), some (vI (nI n)), some (vI (nI many)), some (vI (nI 0)), some (vI (nI 0))]) dX8_firstWrong_3 (by decide) rfl ?_
  exact c_fw_lp hn hm hh hk1 hk2 h 0 _ (by omega) (by omega) hC
theorem m_ck_lp {V : VV} {d : Nat} {μ0 : Memo} {s : Nat → Int32} {n many h : Nat} (hn : n ≤ 30) (hT : TxtsOK s) (hH : HouOK s) (hh : HrP s n h) {Q : Option AVal → Memo → Prop}
    (hQ : ∀ μ1, μ1 77 = itS s h → (∀ t, t < 2 * h → μ1 94 t = dueD s t) → (∀ o, o ≠ 77 → o ≠ 88 → o ≠ 90 → o ≠ 91 → o ≠ 94 → μ1 o = μ0 o) → Go V (d + 5) mX9_check 121 [some (vR 76), some (vI (nI n)), some (vI (nI many)), some (vI (nI (2 * h))), some (vI (nI h))] [] μ1 Q) :
    ∀ (j i : Nat) (μ : Memo), i + j = h → μ 77 = itS s i → (∀ t, t < 2 * i → μ 94 t = dueD s t) → (∀ o, o ≠ 77 → o ≠ 88 → o ≠ 90 → o ≠ 91 → o ≠ 94 → μ o = μ0 o) → Go V (d + 5) mX9_check 64 [some (vR 76), some (vI (nI n)), some (vI (nI many)), some (vI (nI (2 * i))), some (vI (nI i))] [] μ Q
  | 0, i, μ, hij, g1, g2, g3 => by
    obtain rfl : i = h := by omega
    have hh1 := hh.1
    refine Go.iload dX9_check_64 rfl ?_
    refine Go.iload_n dX9_check_66 rfl ?_
    refine Go.icmp_ge (tgt := 121) dX9_check_67 (by decide) (fun h67 => ?_) (fun h67 => ?_)
    · -- 67 taken
      exact hQ _ g1 g2 g3
    · -- 67 not
      refine Go.aload_n dX9_check_70 rfl ?_
      refine Go.getR dX9_check_71 flX9_7 rfl ?_
      refine Go.iconst (v := nI 2) dX9_check_74 rfl ?_
      refine Go.iaload 2 dX9_check_75 rfl (by omega) rfl ?_
      refine Go.topE (y := itS s i 2) (congrFun g1 2) ?_
      refine Go.sipush (v := nI 9999) dX9_check_76 rfl ?_
      refine Go.icmp_ge_t (tgt := 121) dX9_check_79 (by decide) (hh.2.1.resolve_left (by intro z; subst z; exact h67 (by rw [sI_le]; exact Int.le_refl _))) ?_
      refine Go.at 121 rfl ?_
      exact hQ _ g1 g2 g3
  | j + 1, i, μ, hij, g1, g2, g3 => by
    have hi : i < h := by omega
    have hh1 := hh.1
    obtain ⟨o1, o2, o3⟩ := itS_ok hT hH i
    have c0 : MI μ μ (itS s i) := ⟨g1, Fr.rf _ _⟩
    refine Go.iload dX9_check_64 rfl ?_
    refine Go.iload_n dX9_check_66 rfl ?_
    refine Go.icmp_ge_f (tgt := 121) dX9_check_67 (by decide) (nI_ge (by omega) (by omega)) ?_
    refine Go.aload_n dX9_check_70 rfl ?_
    refine Go.getR dX9_check_71 flX9_7 rfl ?_
    refine Go.iconst (v := nI 2) dX9_check_74 rfl ?_
    refine Go.at 75 rfl ?_
    refine Go.iaload 2 dX9_check_75 rfl (by omega) rfl ?_
    refine Go.topE (y := itS s i 2) (congrFun g1 2) ?_
    refine Go.sipush (v := nI 9999) dX9_check_76 rfl ?_
    refine Go.icmp_ge_f (tgt := 121) dX9_check_79 (by decide) (hh.2.2 i hi) ?_
    refine Go.aload_n dX9_check_82 rfl ?_
    refine Go.getR dX9_check_83 flX9_61 rfl ?_
    refine Go.iload_n dX9_check_86 rfl ?_
    refine Go.at 87 rfl ?_
    refine Go.aload_n dX9_check_87 rfl ?_
    refine Go.iconst (v := nI 0) dX9_check_88 rfl ?_
    refine Go.callVx 76 [vI (nI 0)] [vI (nI (2 * i)), vR 94] dX9_check_89 lkX9_131 (Or.inl ⟨_, _, _, rfl, rfl, rfl⟩) rfl (Nat.le_of_ble_eq_true rfl) rfl (Nat.le_of_ble_eq_true rfl) (m_dry c0.1 o2 (nI 0)) (fun μ1 k1 => ?_)
    have c1 : MI _ μ1 (itS s i) := c0.fr k1
    refine Go.callSi [vI (dryF (itS s i) (nI 0))] [vI (nI (2 * i)), vR 94] dX9_check_92 lkX9_134 rfl (Nat.le_of_ble_eq_true rfl) rfl (Nat.le_of_ble_eq_true rfl) ((m_ones (dryF (itS s i) (nI 0))).eq (sz_m _ _)) ?_
    refine Go.iastore (2 * i) dX9_check_95 rfl (by omega) rfl ?_
    have c2 : MI (ms μ1 94 (2 * i) (szF (itS s i) (nI 0))) (ms μ1 94 (2 * i) (szF (itS s i) (nI 0))) ((itS s i)) := ⟨by rw [ms_ne _ _ _ (by decide)]; exact c1.1, Fr.rf _ _⟩
    refine Go.aload_n dX9_check_96 rfl ?_
    refine Go.at 97 rfl ?_
    refine Go.callVu 76 [] [] dX9_check_97 lkX9_181 (Or.inl ⟨_, _, _, rfl, rfl, rfl⟩) rfl (Nat.le_of_ble_eq_true rfl) rfl (Nat.le_of_ble_eq_true rfl) (m_goesOn o2 o3 c2) (fun μ3 c3 => ?_)
    refine Go.aload_n dX9_check_100 rfl ?_
    refine Go.getR dX9_check_101 flX9_61 rfl ?_
    refine Go.iload_n dX9_check_104 rfl ?_
    refine Go.iconst (v := nI 1) dX9_check_105 rfl ?_
    refine Go.iaddN dX9_check_106 ?_
    refine Go.at 107 rfl ?_
    refine Go.aload_n dX9_check_107 rfl ?_
    refine Go.callVi 76 [] [vI (nI ((2 * i) + 1)), vR 94] dX9_check_108 lkX9_315 (Or.inl ⟨_, _, _, rfl, rfl, rfl⟩) rfl (Nat.le_of_ble_eq_true rfl) rfl (Nat.le_of_ble_eq_true rfl) (m_allCorn c3.1) ?_
    refine Go.iastore ((2 * i) + 1) dX9_check_111 rfl (by omega) rfl ?_
    have c4 : MI (ms μ3 94 ((2 * i) + 1) (acF (itS s (i + 1)) 30)) (ms μ3 94 ((2 * i) + 1) (acF (itS s (i + 1)) 30)) (itS s (i + 1)) := ⟨by rw [ms_ne _ _ _ (by decide)]; exact c3.1, Fr.rf _ _⟩
    refine Go.iinc (v := nI ((2 * i) + 2)) (ls' := [some (vR 76), some (vI (nI n)), some (vI (nI many)), some (vI (nI ((2 * i) + 2))), some (vI (nI i))]) dX9_check_112 rfl (nI_add _ _) (by decide) rfl ?_
    refine Go.iinc (v := nI (i + 1)) (ls' := [some (vR 76), some (vI (nI n)), some (vI (nI many)), some (vI (nI ((2 * i) + 2))), some (vI (nI (i + 1)))]) dX9_check_115 rfl (nI_add _ _) (by decide) rfl ?_
    refine Go.goto (tgt := 64) dX9_check_118 (by decide) ?_
    refine Go.at 64 rfl ?_
    exact m_ck_lp hn hT hH hh hQ j (i + 1) _ (by omega) (by rw [ms_ne _ _ _ (by decide)]; exact c3.1) (fun t ht => by
      rw [ms_self]
      by_cases z : t = 2 * i + 1
      · subst z; rw [upd_self, due_1]; rfl
      · rw [upd_ne _ _ z, c3.2 94 (by decide), ms_self]
        by_cases z2 : t = 2 * i
        · subst z2; rw [upd_self, due_0]
        · rw [upd_ne _ _ z2, c1.2 94 (by decide)]; exact g2 t (by omega)) (fun o a1 a2 a3 a4 a5 => by
      rw [ms_ne _ _ _ a5, c3.2 o (by simp only [FM, List.mem_cons, List.not_mem_nil, or_false]; omega), ms_ne _ _ _ a5, c1.2 o (by simp only [FM, List.mem_cons, List.not_mem_nil, or_false]; omega)]
      exact g3 o a1 a2 a3 a4 a5)
theorem m_ck_cmp {V : VV} {d : Nat} {μ : Memo} {D : Nat → Int32} {n many h k : Nat} (hm : many ≤ 60) (hh : h ≤ 30) (hD : ∀ t, t < 2 * h → μ 94 t = D t) (hk1 : ∀ t, t < k → FwP (μ 93) D many h t) (hk2 : ¬ FwP (μ 93) D many h k) :
    ∀ (j t : Nat), t + j = k → Go V d mX9_check 136 [some (vR 76), some (vI (nI n)), some (vI (nI many)), some (vI (nI (2 * h))), some (vI (nI t))] [] μ (fun r' μ'' => r' = some (vI (ansK many h k)) ∧ μ'' = μ)
  | 0, t, htj => by
    obtain rfl : t = k := by omega
    have kl := k_le hk1
    refine Go.iload dX9_check_136 rfl ?_
    refine Go.iload_n dX9_check_138 rfl ?_
    refine Go.icmp_ge (tgt := 171) dX9_check_139 (by decide) (fun h139 => ?_) (fun h139 => ?_)
    · -- 139 taken
      refine Go.iload dX9_check_171 rfl ?_
      refine Go.iload_n dX9_check_173 rfl ?_
      refine Go.icmp_ne (tgt := 187) dX9_check_174 (by decide) (fun h174 => ?_) (fun h174 => ?_)
      · -- 174 taken
        refine Go.iconst (v := nI 1) dX9_check_187 rfl ?_
        refine Go.iload dX9_check_188 rfl ?_
        refine Go.iaddN dX9_check_190 ?_
        refine Go.ireturn .int dX9_check_191 rfl rfl ?_
        refine ⟨congrArg (fun z => some (vI z)) ?_, rfl⟩
        rw [ansK, if_neg (by first | (simp only [sI_eq, nT] at h174; omega) | (simp only [sI_eq, nT] at h180; omega)), Nat.add_comm]
      · -- 174 not
        refine Go.iload dX9_check_177 rfl ?_
        refine Go.iload_n dX9_check_179 rfl ?_
        refine Go.icmp_ne (tgt := 187) dX9_check_180 (by decide) (fun h180 => ?_) (fun h180 => ?_)
        · -- 180 taken
          refine Go.iconst (v := nI 1) dX9_check_187 rfl ?_
          refine Go.iload dX9_check_188 rfl ?_
          refine Go.iaddN dX9_check_190 ?_
          refine Go.ireturn .int dX9_check_191 rfl rfl ?_
          refine ⟨congrArg (fun z => some (vI z)) ?_, rfl⟩
          rw [ansK, if_neg (by first | (simp only [sI_eq, nT] at h174; omega) | (simp only [sI_eq, nT] at h180; omega)), Nat.add_comm]
        · -- 180 not
          refine Go.iconst (v := nI 0) dX9_check_183 rfl ?_
          refine Go.goto (tgt := 191) dX9_check_184 (by decide) ?_
          refine Go.ireturn .int dX9_check_191 rfl rfl ?_
          refine ⟨congrArg (fun z => some (vI z)) ?_, rfl⟩
          rw [ansK, if_pos ⟨by simp only [sI_eq, nT] at h174; omega, by simp only [sI_eq, nT] at h180; omega⟩]
    · -- 139 not
      have q1 : t < many := by simp only [sI_le, nT] at h139; omega
      refine Go.iload dX9_check_142 rfl ?_
      refine Go.iload_n dX9_check_144 rfl ?_
      refine Go.icmp_ge (tgt := 171) dX9_check_145 (by decide) (fun h145 => ?_) (fun h145 => ?_)
      · -- 145 taken
        refine Go.iload dX9_check_171 rfl ?_
        refine Go.iload_n dX9_check_173 rfl ?_
        refine Go.icmp_ne (tgt := 187) dX9_check_174 (by decide) (fun h174 => ?_) (fun h174 => ?_)
        · -- 174 taken
          refine Go.iconst (v := nI 1) dX9_check_187 rfl ?_
          refine Go.iload dX9_check_188 rfl ?_
          refine Go.iaddN dX9_check_190 ?_
          refine Go.ireturn .int dX9_check_191 rfl rfl ?_
          refine ⟨congrArg (fun z => some (vI z)) ?_, rfl⟩
          rw [ansK, if_neg (by first | (simp only [sI_eq, nT] at h174; omega) | (simp only [sI_eq, nT] at h180; omega)), Nat.add_comm]
        · -- 174 not
          refine Go.iload dX9_check_177 rfl ?_
          refine Go.iload_n dX9_check_179 rfl ?_
          refine Go.icmp_ne (tgt := 187) dX9_check_180 (by decide) (fun h180 => ?_) (fun h180 => ?_)
          · -- 180 taken
            refine Go.iconst (v := nI 1) dX9_check_187 rfl ?_
            refine Go.iload dX9_check_188 rfl ?_
            refine Go.iaddN dX9_check_190 ?_
            refine Go.ireturn .int dX9_check_191 rfl rfl ?_
            refine ⟨congrArg (fun z => some (vI z)) ?_, rfl⟩
            rw [ansK, if_neg (by first | (simp only [sI_eq, nT] at h174; omega) | (simp only [sI_eq, nT] at h180; omega)), Nat.add_comm]
          · -- 180 not
            refine Go.iconst (v := nI 0) dX9_check_183 rfl ?_
            refine Go.goto (tgt := 191) dX9_check_184 (by decide) ?_
            refine Go.ireturn .int dX9_check_191 rfl rfl ?_
            refine ⟨congrArg (fun z => some (vI z)) ?_, rfl⟩
            rw [ansK, if_pos ⟨by simp only [sI_eq, nT] at h174; omega, by simp only [sI_eq, nT] at h180; omega⟩]
      · -- 145 not
        have q2 : t < 2 * h := by simp only [sI_le, nT] at h145; omega
        refine Go.aload_n dX9_check_148 rfl ?_
        refine Go.getR dX9_check_149 flX9_58 rfl ?_
        refine Go.iload dX9_check_152 rfl ?_
        refine Go.iaload t dX9_check_154 rfl (by omega) rfl ?_
        refine Go.aload_n dX9_check_155 rfl ?_
        refine Go.getR dX9_check_156 flX9_61 rfl ?_
        refine Go.at 159 rfl ?_
        refine Go.iload dX9_check_159 rfl ?_
        refine Go.iaload t dX9_check_161 rfl (by omega) rfl ?_
        refine Go.topE (y := D t) (hD t q2) ?_
        refine Go.icmp_ne_t (tgt := 171) dX9_check_162 (by decide) (fun z => hk2 ⟨q1, q2, z⟩) ?_
        refine Go.iload dX9_check_171 rfl ?_
        refine Go.iload_n dX9_check_173 rfl ?_
        refine Go.icmp_ne (tgt := 187) dX9_check_174 (by decide) (fun h174 => ?_) (fun h174 => ?_)
        · -- 174 taken
          refine Go.iconst (v := nI 1) dX9_check_187 rfl ?_
          refine Go.iload dX9_check_188 rfl ?_
          refine Go.iaddN dX9_check_190 ?_
          refine Go.ireturn .int dX9_check_191 rfl rfl ?_
          refine ⟨congrArg (fun z => some (vI z)) ?_, rfl⟩
          rw [ansK, if_neg (by first | (simp only [sI_eq, nT] at h174; omega) | (simp only [sI_eq, nT] at h180; omega)), Nat.add_comm]
        · -- 174 not
          refine Go.iload dX9_check_177 rfl ?_
          refine Go.iload_n dX9_check_179 rfl ?_
          refine Go.icmp_ne (tgt := 187) dX9_check_180 (by decide) (fun h180 => ?_) (fun h180 => ?_)
          · -- 180 taken
            refine Go.iconst (v := nI 1) dX9_check_187 rfl ?_
            refine Go.iload dX9_check_188 rfl ?_
            refine Go.iaddN dX9_check_190 ?_
            refine Go.ireturn .int dX9_check_191 rfl rfl ?_
            refine ⟨congrArg (fun z => some (vI z)) ?_, rfl⟩
            rw [ansK, if_neg (by first | (simp only [sI_eq, nT] at h174; omega) | (simp only [sI_eq, nT] at h180; omega)), Nat.add_comm]
          · -- 180 not
            refine Go.iconst (v := nI 0) dX9_check_183 rfl ?_
            refine Go.goto (tgt := 191) dX9_check_184 (by decide) ?_
            refine Go.ireturn .int dX9_check_191 rfl rfl ?_
            refine ⟨congrArg (fun z => some (vI z)) ?_, rfl⟩
            rw [ansK, if_pos ⟨by simp only [sI_eq, nT] at h174; omega, by simp only [sI_eq, nT] at h180; omega⟩]
  | j + 1, t, htj => by
    obtain ⟨q1, q2, q3⟩ := hk1 t (by omega)
    refine Go.iload dX9_check_136 rfl ?_
    refine Go.iload_n dX9_check_138 rfl ?_
    refine Go.icmp_ge_f (tgt := 171) dX9_check_139 (by decide) (nI_ge q1 (by omega)) ?_
    refine Go.iload dX9_check_142 rfl ?_
    refine Go.iload_n dX9_check_144 rfl ?_
    refine Go.icmp_ge_f (tgt := 171) dX9_check_145 (by decide) (nI_ge q2 (by omega)) ?_
    refine Go.at 148 rfl ?_
    refine Go.aload_n dX9_check_148 rfl ?_
    refine Go.getR dX9_check_149 flX9_58 rfl ?_
    refine Go.iload dX9_check_152 rfl ?_
    refine Go.iaload t dX9_check_154 rfl (by omega) rfl ?_
    refine Go.aload_n dX9_check_155 rfl ?_
    refine Go.getR dX9_check_156 flX9_61 rfl ?_
    refine Go.at 159 rfl ?_
    refine Go.iload dX9_check_159 rfl ?_
    refine Go.iaload t dX9_check_161 rfl (by omega) rfl ?_
    refine Go.topE (y := D t) (hD t q2) ?_
    refine Go.icmp_ne_f (tgt := 171) dX9_check_162 (by decide) q3 ?_
    refine Go.iinc (v := nI (t + 1)) (ls' := [some (vR 76), some (vI (nI n)), some (vI (nI many)), some (vI (nI (2 * h))), some (vI (nI (t + 1)))]) dX9_check_165 rfl (nI_add _ _) (by decide) rfl ?_
    refine Go.goto (tgt := 136) dX9_check_168 (by decide) ?_
    exact m_ck_cmp hm hh hD hk1 hk2 j (t + 1) (by omega)
theorem Sim.ck0 {μ μ5 : Memo} (hS : Sim μ) (e5 : μ5 = ms μ 0 9 (nI 0)) : Sim (ms μ5 76 29 (nI 0)) := by
  subst e5
  exact hS.waits (fun o h1 h2 h3 h4 => by rw [ms_ne _ _ _ h3, ms_ne _ _ _ h1]) (by rw [ms_ne _ _ _ (by decide), ms_self, upd_ne _ _ (by decide)]) (by rw [ms_self, upd_ne _ _ (by decide), ms_ne _ _ _ (by decide)]) (by rw [ms_self, upd_ne _ _ (by decide), ms_ne _ _ _ (by decide)])
    ⟨0, by decide, by rw [ms_ne _ _ _ (by decide), ms_self, upd_self], by rw [ms_self, upd_self], fun j hj => absurd hj (by omega)⟩
theorem Sim.ck1 {μ μ9 : Memo} (hS : Sim μ) (kf : ∀ o, o ≠ 0 → o ≠ 76 → o ≠ 77 → o ≠ 79 → o ≠ 88 → o ≠ 90 → o ≠ 91 → o ≠ 94 → o ∉ FB 23 → μ9 o = μ o) (e77 : μ9 77 = μ 77) (e0 : μ9 0 = upd (μ 0) 9 (nI 0)) (e76 : μ9 76 = upd (μ 76) 29 (nI 0)) : Sim μ9 := by
  have kg : ∀ o, ((2 ≤ o ∧ o ≤ 5) ∨ (7 ≤ o ∧ o ≤ 22) ∨ (31 ≤ o ∧ o ≤ 75) ∨ o = 78 ∨ (80 ≤ o ∧ o ≤ 87) ∨ o = 89 ∨ o = 93) → μ9 o = μ o := fun o ho => kf o (by omega) (by omega) (by omega) (by omega) (by omega) (by omega) (by omega) (by omega) (by simp only [FB, List.mem_cons, List.not_mem_nil, or_false]; omega)
  refine hS.part (fun o ho => ?_) (by rw [e0, upd_ne _ _ (by decide)]) (by rw [e76, upd_ne _ _ (by decide)]) (hS.2.2.2.2.1.same (fun o ho => kg o (by omega))) (hS.2.2.2.2.2.1.same (fun o ho => kg o (by omega))) (hS.2.2.2.2.2.2.1.same (kg 31 (by omega)) (kg 32 (by omega)) (kg 89 (by omega)) (by rw [e76, upd_ne _ _ (by decide)])) ⟨0, by decide, by rw [e0, upd_self], by rw [e76, upd_self], fun j hj => absurd hj (by omega)⟩
  by_cases z : o = 77
  · subst z; exact e77
  · exact kg o (by omega)
theorem op_check {V : VV} {d : Nat} {μ : Memo} (hS : Sim μ) (n : Int32) : OpOK V (d + 7) mX8_check mX9_check [vI n] μ := by
  obtain ⟨⟨hT, hCo, hKd, hO, hH⟩, hI, hX, hIm, hSh, hSl, hTp, hWt⟩ := id hS
  obtain ⟨many, hm, w1, w2, w3⟩ := hWt
  by_cases h1 : nI 1 ≤ n ∧ n ≤ nI 30
  · skip
    obtain ⟨n0, hn1, hn30, rfl⟩ := in_nI1 (by decide) h1
    rcases id hIm with ⟨z1, z2⟩ | ⟨z1, z2, z3, z4, z5, z6⟩
    · skip
      refine OpOK.of (x := (-1000000002)) (P := fun μ1 => μ1 = ms μ 0 9 (nI 0)) ?_ (fun μ5 k5 => ?_)
      · show Go V (d + 7) mX8_check 0 [some (vR 0), some (vI (nI n0)), none] [] μ _
        refine Go.aload_n dX8_check_0 rfl ?_
        refine Go.getI dX8_check_1 flX8_291 rfl ?_
        refine Go.topE (y := nI many) w1 ?_
        refine Go.istore_n (ls' := [some (vR 0), some (vI (nI n0)), some (vI (nI many))]) dX8_check_4 (by decide) rfl ?_
        refine Go.aload_n dX8_check_5 rfl ?_
        refine Go.iconst (v := nI 0) dX8_check_6 rfl ?_
        refine Go.put dX8_check_7 flX8_291 rfl rfl rfl rfl ?_
        refine Go.at 10 rfl ?_
        refine Go.iload_n dX8_check_10 rfl ?_
        refine Go.iconst (v := nI 1) dX8_check_11 rfl ?_
        refine Go.bipush (v := nI 30) dX8_check_12 rfl ?_
        refine Go.callSi [vI (nI n0), vI (nI 1), vI (nI 30)] [] dX8_check_14 lkX8_72 rfl (Nat.le_of_ble_eq_true rfl) rfl (Nat.le_of_ble_eq_true rfl) (c_within (nI n0) (nI 1) (nI 30)) ?_
        refine Go.if_neb_t (tgt := 23) dX8_check_17 (by decide) h1 ?_
        refine Go.aload_n dX8_check_23 rfl ?_
        refine Go.at 24 rfl ?_
        refine Go.getI dX8_check_24 flX8_294 rfl ?_
        refine Go.topE (y := nI 0) (by rw [ms_self, upd_ne _ _ (by decide)]; exact z1) ?_
        refine Go.if_ne_f (tgt := 33) dX8_check_27 (by decide) (by decide) ?_
        refine Go.ldc dX8_check_30 cnX8_191 ?_
        refine Go.ireturn .int dX8_check_32 rfl rfl ?_
        exact ⟨rfl, rfl⟩
      · skip
        have v1 : μ5 76 29 = nI many := by rw [k5, ms_ne _ _ _ (by decide)]; exact w2
        show Go V (d + 7) mX9_check 0 [some (vR 76), some (vI (nI n0)), none, none, none] [] μ5 _
        refine Go.aload_n dX9_check_0 rfl ?_
        refine Go.getI dX9_check_1 flX9_302 rfl ?_
        refine Go.topE (y := nI many) v1 ?_
        refine Go.istore_n (ls' := [some (vR 76), some (vI (nI n0)), some (vI (nI many)), none, none]) dX9_check_4 (by decide) rfl ?_
        refine Go.aload_n dX9_check_5 rfl ?_
        refine Go.iconst (v := nI 0) dX9_check_6 rfl ?_
        refine Go.put dX9_check_7 flX9_302 rfl rfl rfl rfl ?_
        refine Go.at 10 rfl ?_
        refine Go.iload_n dX9_check_10 rfl ?_
        refine Go.i2l dX9_check_11 ?_
        refine Go.lconst (v := (nI 1).toInt64) dX9_check_12 rfl ?_
        refine Go.ldc2 (v := (nI 30).toInt64) dX9_check_13 clX9_305 ?_
        refine Go.callSi [vL ((nI n0).toInt64), vL ((nI 1).toInt64), vL ((nI 30).toInt64)] [] dX9_check_16 lkX9_65 rfl (Nat.le_of_ble_eq_true rfl) rfl (Nat.le_of_ble_eq_true rfl) (m_isIn (nI n0) (nI 1) (nI 30)) ?_
        refine Go.if_neb_t (tgt := 25) dX9_check_19 (by decide) h1 ?_
        refine Go.at 25 rfl ?_
        refine Go.aload_n dX9_check_25 rfl ?_
        refine Go.getI dX9_check_26 flX9_307 rfl ?_
        refine Go.topE (y := nI 0) (by rw [ms_self, upd_ne _ _ (by decide), k5, ms_ne _ _ _ (by decide)]; exact z2) ?_
        refine Go.if_ne_f (tgt := 35) dX9_check_29 (by decide) (by decide) ?_
        refine Go.ldc dX9_check_32 cnX9_177 ?_
        refine Go.ireturn .int dX9_check_34 rfl rfl ?_
        exact ⟨rfl, hS.ck0 k5⟩
    · skip
      have eS : ∀ q, q < 2947 → mixS μ q = μ 78 q := fun q hq => if_pos hq
      have SIs : SI (mixS μ) := z3.low eS
      have h8 : nH (mixS μ) ≤ 8 := SIs.2.2.2.2.1
      have en : nX (mixS μ) = nX (μ 78) := nX_same (eS 1 (by decide))
      have h14 : nX (μ 78) ≤ 14 := z3.1.1
      have hIs : Isl 15 μ (mixS μ) := z4.low z3.2.2.2.2.1 eS
      have hXs : Txr μ (mixS μ) := hX.less hT (by omega) (fun t ht j hj => by rw [eS _ (by omega)]; exact z6 t (by omega) j hj)
      obtain ⟨h, hh⟩ := hN_ex (mixS μ) n0
      have hh1 := hh.1
      obtain ⟨k, hk1, hk2⟩ : ∃ k, (∀ t, t < k → FwP (μ 38) (dueD (mixS μ)) many h t) ∧ ¬ FwP (μ 38) (dueD (mixS μ)) many h k := by
        classical exact fw_ex _ 0 (fun t ht => absurd ht (by omega)) many (fun t ht q => by have := q.1; omega)
      refine OpOK.of (x := ansK many h k) (P := fun μ1 => μ1 0 = upd (μ 0) 9 (nI 0) ∧ ∀ o, o ≠ 0 → o ∉ FB 23 → μ1 o = μ o) ?_ (fun μ5 k5 => ?_)
      · show Go V (d + 7) mX8_check 0 [some (vR 0), some (vI (nI n0)), none] [] μ _
        refine Go.aload_n dX8_check_0 rfl ?_
        refine Go.getI dX8_check_1 flX8_291 rfl ?_
        refine Go.topE (y := nI many) w1 ?_
        refine Go.istore_n (ls' := [some (vR 0), some (vI (nI n0)), some (vI (nI many))]) dX8_check_4 (by decide) rfl ?_
        refine Go.aload_n dX8_check_5 rfl ?_
        refine Go.iconst (v := nI 0) dX8_check_6 rfl ?_
        refine Go.put dX8_check_7 flX8_291 rfl rfl rfl rfl ?_
        refine Go.at 10 rfl ?_
        refine Go.iload_n dX8_check_10 rfl ?_
        refine Go.iconst (v := nI 1) dX8_check_11 rfl ?_
        refine Go.bipush (v := nI 30) dX8_check_12 rfl ?_
        refine Go.callSi [vI (nI n0), vI (nI 1), vI (nI 30)] [] dX8_check_14 lkX8_72 rfl (Nat.le_of_ble_eq_true rfl) rfl (Nat.le_of_ble_eq_true rfl) (c_within (nI n0) (nI 1) (nI 30)) ?_
        refine Go.if_neb_t (tgt := 23) dX8_check_17 (by decide) h1 ?_
        refine Go.aload_n dX8_check_23 rfl ?_
        refine Go.at 24 rfl ?_
        refine Go.getI dX8_check_24 flX8_294 rfl ?_
        refine Go.topE (y := nI 1) (by rw [ms_self, upd_ne _ _ (by decide)]; exact z1) ?_
        refine Go.if_ne_t (tgt := 33) dX8_check_27 (by decide) (by decide) ?_
        refine Go.aload_n dX8_check_33 rfl ?_
        refine Go.getR dX8_check_34 flX8_28 rfl ?_
        refine Go.aload_n dX8_check_37 rfl ?_
        refine Go.getR dX8_check_38 flX8_25 rfl ?_
        refine Go.at 41 rfl ?_
        refine Go.callVu 23 [vR 15] [] dX8_check_41 lkX8_298 (Or.inl ⟨_, _, _, rfl, rfl, rfl⟩) rfl (Nat.le_of_ble_eq_true rfl) rfl (Nat.le_of_ble_eq_true rfl) (c_becomeLikeI isB23 isB15 (by decide)) (fun μ1 k1 => ?_)
        have b1 : Fr (FB 23) (ms μ 0 9 (nI 0)) μ1 := k1.2.2.2.2
        have e38 : μ1 38 = μ 38 := by rw [b1 38 (by decide), ms_ne _ _ _ (by decide)]
        have i1 : Isl 15 (ms μ 0 9 (nI 0)) (mixS μ) := hIs.same (fun i hi => ms_ne _ _ _ (by omega))
        have x1 : Txr μ1 (mixS μ) := (hXs.same (ms_ne _ _ _ (by decide)) (ms_ne _ _ _ (by decide)) (ms_ne _ _ _ (by decide)) (fun t ht => ms_ne _ _ _ (by omega))).frB isB23 b1
        have c1 : CI 23 μ1 μ1 (mixS μ) (mixS μ) := ⟨i1.like h8 k1, x1, SIs.1, SIs.2, ⟨rfl, fun _ _ => rfl⟩, Fr.rf _ _⟩
        refine Go.aload_n dX8_check_44 rfl ?_
        refine Go.iload_n dX8_check_45 rfl ?_
        refine Go.iload_n dX8_check_46 rfl ?_
        refine Go.callVx 0 [vI (nI n0), vI (nI many)] [] dX8_check_47 lkX8_301 (Or.inl ⟨_, _, _, rfl, rfl, rfl⟩) rfl (Nat.le_of_ble_eq_true rfl) rfl (Nat.le_of_ble_eq_true rfl) (c_firstWrong hn30 hm hh (by rw [e38]; exact hk1) (by rw [e38]; exact hk2) c1) (fun μ2 k2 => ?_)
        refine Go.ireturn .int dX8_check_50 rfl rfl ?_
        exact ⟨rfl, by rw [k2 0 (by decide), b1 0 (by decide), ms_self], fun o a1 a2 => by rw [k2 o a2, b1 o a2, ms_ne _ _ _ a1]⟩
      · skip
        obtain ⟨A5, B5⟩ := k5
        have v1 : μ5 76 29 = nI many := by rw [B5 76 (by decide) (by decide)]; exact w2
        show Go V (d + 7) mX9_check 0 [some (vR 76), some (vI (nI n0)), none, none, none] [] μ5 _
        refine Go.aload_n dX9_check_0 rfl ?_
        refine Go.getI dX9_check_1 flX9_302 rfl ?_
        refine Go.topE (y := nI many) v1 ?_
        refine Go.istore_n (ls' := [some (vR 76), some (vI (nI n0)), some (vI (nI many)), none, none]) dX9_check_4 (by decide) rfl ?_
        refine Go.aload_n dX9_check_5 rfl ?_
        refine Go.iconst (v := nI 0) dX9_check_6 rfl ?_
        refine Go.put dX9_check_7 flX9_302 rfl rfl rfl rfl ?_
        refine Go.at 10 rfl ?_
        refine Go.iload_n dX9_check_10 rfl ?_
        refine Go.i2l dX9_check_11 ?_
        refine Go.lconst (v := (nI 1).toInt64) dX9_check_12 rfl ?_
        refine Go.ldc2 (v := (nI 30).toInt64) dX9_check_13 clX9_305 ?_
        refine Go.callSi [vL ((nI n0).toInt64), vL ((nI 1).toInt64), vL ((nI 30).toInt64)] [] dX9_check_16 lkX9_65 rfl (Nat.le_of_ble_eq_true rfl) rfl (Nat.le_of_ble_eq_true rfl) (m_isIn (nI n0) (nI 1) (nI 30)) ?_
        refine Go.if_neb_t (tgt := 25) dX9_check_19 (by decide) h1 ?_
        refine Go.at 25 rfl ?_
        refine Go.aload_n dX9_check_25 rfl ?_
        refine Go.getI dX9_check_26 flX9_307 rfl ?_
        refine Go.topE (y := nI 1) (by rw [ms_self, upd_ne _ _ (by decide), B5 76 (by decide) (by decide)]; exact z2) ?_
        refine Go.if_ne_t (tgt := 35) dX9_check_29 (by decide) (by decide) ?_
        refine Go.aload_n dX9_check_35 rfl ?_
        refine Go.aload_n dX9_check_36 rfl ?_
        refine Go.getR dX9_check_37 flX9_7 rfl ?_
        refine Go.at 40 rfl ?_
        refine Go.aload_n dX9_check_40 rfl ?_
        refine Go.getR dX9_check_41 flX9_16 rfl ?_
        refine Go.callVu 76 [vR 77, vR 79] [] dX9_check_44 lkX9_311 (Or.inl ⟨_, _, _, rfl, rfl, rfl⟩) rfl (Nat.le_of_ble_eq_true rfl) rfl (Nat.le_of_ble_eq_true rfl) (m_setAside rfl rfl (by decide)) (fun μ1 k1 => ?_)
        refine Go.aload_n dX9_check_47 rfl ?_
        refine Go.aload_n dX9_check_48 rfl ?_
        refine Go.getR dX9_check_49 flX9_13 rfl ?_
        refine Go.at 52 rfl ?_
        refine Go.aload_n dX9_check_52 rfl ?_
        refine Go.getR dX9_check_53 flX9_7 rfl ?_
        refine Go.callVu 76 [vR 78, vR 77] [] dX9_check_56 lkX9_311 (Or.inl ⟨_, _, _, rfl, rfl, rfl⟩) rfl (Nat.le_of_ble_eq_true rfl) rfl (Nat.le_of_ble_eq_true rfl) (m_setAside rfl rfl (by decide)) (fun μ2 k2 => ?_)
        refine Go.iconst (v := nI 0) dX9_check_59 rfl ?_
        refine Go.istore_n (ls' := [some (vR 76), some (vI (nI n0)), some (vI (nI many)), some (vI (nI 0)), none]) dX9_check_60 (by decide) rfl ?_
        refine Go.iconst (v := nI 0) dX9_check_61 rfl ?_
        refine Go.at 62 rfl ?_
        refine Go.istore (ls' := [some (vR 76), some (vI (nI n0)), some (vI (nI many)), some (vI (nI 0)), some (vI (nI 0))]) dX9_check_62 (by decide) rfl ?_
        have e2 : μ2 77 = mixS μ := by
          funext i
          by_cases z : i < 2947
          · rw [k2.1 i z, k1.2.2 78 (by decide), ms_ne _ _ _ (by decide), B5 78 (by decide) (by decide), eS i z]
          · rw [k2.2.1 i (by omega), k1.2.2 77 (by decide), ms_ne _ _ _ (by decide), B5 77 (by decide) (by decide)]; exact (if_neg z).symm
        refine m_ck_lp (d := d + 2) hn30 SIs.1 SIs.2.2.2.2 hh (fun μ8 g1 g2 g3 => ?_) h 0 _ (by omega) e2 (fun t ht => absurd ht (by omega)) (fun o _ _ _ _ _ => rfl)
        refine Go.aload_n dX9_check_121 rfl ?_
        refine Go.aload_n dX9_check_122 rfl ?_
        refine Go.getR dX9_check_123 flX9_16 rfl ?_
        refine Go.aload_n dX9_check_126 rfl ?_
        refine Go.getR dX9_check_127 flX9_7 rfl ?_
        refine Go.callVu 76 [vR 79, vR 77] [] dX9_check_130 lkX9_311 (Or.inl ⟨_, _, _, rfl, rfl, rfl⟩) rfl (Nat.le_of_ble_eq_true rfl) rfl (Nat.le_of_ble_eq_true rfl) (m_setAside rfl rfl (by decide)) (fun μ9 k9 => ?_)
        refine Go.at 133 rfl ?_
        refine Go.iconst (v := nI 0) dX9_check_133 rfl ?_
        refine Go.istore (ls' := [some (vR 76), some (vI (nI n0)), some (vI (nI many)), some (vI (nI (2 * h))), some (vI (nI 0))]) dX9_check_134 (by decide) rfl ?_
        have f9 : ∀ o, o ≠ 77 → o ≠ 79 → o ≠ 88 → o ≠ 90 → o ≠ 91 → o ≠ 94 → μ9 o = (ms μ5 76 29 (nI 0)) o := fun o a1 a2 a3 a4 a5 a6 => by
          rw [k9.2.2 o a1, g3 o a1 a3 a4 a5 a6, k2.2.2 o a1, k1.2.2 o a2]
        have e93 : μ9 93 = μ 93 := by rw [f9 93 (by decide) (by decide) (by decide) (by decide) (by decide) (by decide), ms_ne _ _ _ (by decide), B5 93 (by decide) (by decide)]
        have e77 : μ9 77 = μ 77 := by
          funext i
          by_cases z : i < 2947
          · rw [k9.1 i z, g3 79 (by decide) (by decide) (by decide) (by decide) (by decide), k2.2.2 79 (by decide), k1.1 i z, ms_ne _ _ _ (by decide), B5 77 (by decide) (by decide)]
          · rw [k9.2.1 i (by omega), g1, (itS_ok SIs.1 SIs.2.2.2.2 h).1.2 i (by omega)]; exact if_neg z
        have hk3 : ∀ t, t < k → FwP (μ9 93) (dueD (mixS μ)) many h t := fun t ht => by
          obtain ⟨q1, q2, q3⟩ := hk1 t ht
          exact ⟨q1, q2, by rw [e93, ← w3 t q1]; exact q3⟩
        have hk4 : ¬ FwP (μ9 93) (dueD (mixS μ)) many h k := fun q => hk2 ⟨q.1, q.2.1, by rw [w3 k q.1, ← e93]; exact q.2.2⟩
        refine Go.mono (m_ck_cmp hm (by omega) (fun t ht => by rw [k9.2.2 94 (by decide)]; exact g2 t ht) hk3 hk4 k 0 (by omega)) ?_
        rintro r m2 ⟨rfl, rfl⟩
        exact ⟨rfl, hS.ck1 (fun o a1 a2 a3 a4 a5 a6 a7 a8 a9 => by rw [f9 o a3 a4 a5 a6 a7 a8, ms_ne _ _ _ a2, B5 o a1 a9]) e77
          (by rw [f9 0 (by decide) (by decide) (by decide) (by decide) (by decide) (by decide), ms_ne _ _ _ (by decide), A5])
          (by rw [f9 76 (by decide) (by decide) (by decide) (by decide) (by decide) (by decide), ms_self, B5 76 (by decide) (by decide)])⟩
  · skip
    refine OpOK.of (x := (-1000000001)) (P := fun μ1 => μ1 = ms μ 0 9 (nI 0)) ?_ (fun μ5 k5 => ?_)
    · show Go V (d + 7) mX8_check 0 [some (vR 0), some (vI n), none] [] μ _
      refine Go.aload_n dX8_check_0 rfl ?_
      refine Go.getI dX8_check_1 flX8_291 rfl ?_
      refine Go.topE (y := nI many) w1 ?_
      refine Go.istore_n (ls' := [some (vR 0), some (vI n), some (vI (nI many))]) dX8_check_4 (by decide) rfl ?_
      refine Go.aload_n dX8_check_5 rfl ?_
      refine Go.iconst (v := nI 0) dX8_check_6 rfl ?_
      refine Go.put dX8_check_7 flX8_291 rfl rfl rfl rfl ?_
      refine Go.at 10 rfl ?_
      refine Go.iload_n dX8_check_10 rfl ?_
      refine Go.iconst (v := nI 1) dX8_check_11 rfl ?_
      refine Go.bipush (v := nI 30) dX8_check_12 rfl ?_
      refine Go.callSi [vI n, vI (nI 1), vI (nI 30)] [] dX8_check_14 lkX8_72 rfl (Nat.le_of_ble_eq_true rfl) rfl (Nat.le_of_ble_eq_true rfl) (c_within n (nI 1) (nI 30)) ?_
      refine Go.if_neb_f (tgt := 23) dX8_check_17 (by decide) h1 ?_
      refine Go.ldc dX8_check_20 cnX8_76 ?_
      refine Go.at 22 rfl ?_
      refine Go.ireturn .int dX8_check_22 rfl rfl ?_
      exact ⟨rfl, rfl⟩
    · skip
      have v1 : μ5 76 29 = nI many := by rw [k5, ms_ne _ _ _ (by decide)]; exact w2
      show Go V (d + 7) mX9_check 0 [some (vR 76), some (vI n), none, none, none] [] μ5 _
      refine Go.aload_n dX9_check_0 rfl ?_
      refine Go.getI dX9_check_1 flX9_302 rfl ?_
      refine Go.topE (y := nI many) v1 ?_
      refine Go.istore_n (ls' := [some (vR 76), some (vI n), some (vI (nI many)), none, none]) dX9_check_4 (by decide) rfl ?_
      refine Go.aload_n dX9_check_5 rfl ?_
      refine Go.iconst (v := nI 0) dX9_check_6 rfl ?_
      refine Go.put dX9_check_7 flX9_302 rfl rfl rfl rfl ?_
      refine Go.at 10 rfl ?_
      refine Go.iload_n dX9_check_10 rfl ?_
      refine Go.i2l dX9_check_11 ?_
      refine Go.lconst (v := (nI 1).toInt64) dX9_check_12 rfl ?_
      refine Go.ldc2 (v := (nI 30).toInt64) dX9_check_13 clX9_305 ?_
      refine Go.callSi [vL n.toInt64, vL ((nI 1).toInt64), vL ((nI 30).toInt64)] [] dX9_check_16 lkX9_65 rfl (Nat.le_of_ble_eq_true rfl) rfl (Nat.le_of_ble_eq_true rfl) (m_isIn n (nI 1) (nI 30)) ?_
      refine Go.if_neb_f (tgt := 25) dX9_check_19 (by decide) h1 ?_
      refine Go.at 22 rfl ?_
      refine Go.ldc dX9_check_22 cnX9_98 ?_
      refine Go.ireturn .int dX9_check_24 rfl rfl ?_
      exact ⟨rfl, hS.ck0 k5⟩
