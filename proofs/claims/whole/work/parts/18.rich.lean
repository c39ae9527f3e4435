theorem m_rich_A {V : VV} {d : Nat} {μ0 : Memo} {w : Int32} {Q : Option AVal → Memo → Prop} (hk : ∀ μ, Fr [88, 90, 91] μ0 μ → (∀ k, k < 8 → μ 88 k = nI 0) → Go V (d + 4) mX9_richest 34 [some (vR 76), some (vI w), some (vI (nI 8)), none, none] [] μ Q) :
    ∀ (j k : Nat) (μ : Memo), k + j = 8 → Fr [88, 90, 91] μ0 μ → (∀ i, i < k → μ 88 i = nI 0) → Go V (d + 4) mX9_richest 15 [some (vR 76), some (vI w), some (vI (nI k)), none, none] [] μ Q
  | 0, k, μ, hkj, hf, hz => by
    obtain rfl : k = 8 := by omega
    refine Go.iload_n dX9_richest_15 rfl ?_
    refine Go.bipush (v := nI 8) dX9_richest_16 rfl ?_
    refine Go.icmp_ge_t (tgt := 34) dX9_richest_18 (by decide) (by decide) ?_
    exact hk μ hf hz
  | j + 1, k, μ, hkj, hf, hz => by
    have hk8 : k < 8 := by omega
    refine Go.iload_n dX9_richest_15 rfl ?_
    refine Go.bipush (v := nI 8) dX9_richest_16 rfl ?_
    refine Go.icmp_ge_f (tgt := 34) dX9_richest_18 (by decide) (nI_ge hk8 (by decide)) ?_
    refine Go.aload_n dX9_richest_21 rfl ?_
    refine Go.getR dX9_richest_22 flX9_43 rfl ?_
    refine Go.iload_n dX9_richest_25 rfl ?_
    refine Go.at 26 rfl ?_
    refine Go.iconst (v := nI 0) dX9_richest_26 rfl ?_
    refine Go.iastore k dX9_richest_27 rfl (by omega) rfl ?_
    refine Go.iinc (v := nI (k + 1)) (ls' := [some (vR 76), some (vI w), some (vI (nI (k + 1))), none, none]) dX9_richest_28 rfl (nI_add _ _) (by decide) rfl ?_
    refine Go.goto (tgt := 15) dX9_richest_31 (by decide) ?_
    refine m_rich_A hk j (k + 1) _ (by omega) (Fr.ms hf _ _ (by decide)) (fun i hi => ?_)
    rw [ms_self]
    by_cases e : i = k
    · rw [e, upd_self]
    · rw [upd_ne _ _ e]; exact hz i (by omega)
theorem m_rich_B {V : VV} {d : Nat} {μ0 : Memo} {s : Nat → Int32} (hs0 : μ0 77 = s) (hT : TxtsOK s) (hO : OwnOK s) (w : Int32) (t : Nat) (ht24 : t < 24) {Q : Option AVal → Memo → Prop} (hk : ∀ μ, Fr [88, 90, 91] μ0 μ → (∀ k, k < 8 → μ 88 k = nI (odF s (nI k) (t + 1))) → Go V (d + 4) mX9_richest 95 [some (vR 76), some (vI w), some (vI (nI t)), some (vI (dryF s (nI t))), some (vI (nI 30))] [] μ Q) :
    ∀ (j c : Nat) (μ : Memo), c + j = 30 → Fr [88, 90, 91] μ0 μ → (∀ k, k < 8 → μ 88 k = nI (odF s (nI k) t + owF s (nI k) (nI t) c)) → Go V (d + 4) mX9_richest 51 [some (vR 76), some (vI w), some (vI (nI t)), some (vI (dryF s (nI t))), some (vI (nI c))] [] μ Q
  | 0, c, μ, hkj, hf, hz => by
    obtain rfl : c = 30 := by omega
    refine Go.iload dX9_richest_51 rfl ?_
    refine Go.bipush (v := nI 30) dX9_richest_53 rfl ?_
    refine Go.icmp_ge_t (tgt := 95) dX9_richest_55 (by decide) (by decide) ?_
    exact hk μ hf hz
  | j + 1, c, μ, hkj, hf, hz => by
    have hc : c < 30 := by omega
    have hs : μ 77 = s := (hf 77 (by decide)).trans hs0
    rcases hO c hc with e | ⟨q, hq, e⟩
    · have hne : ∀ k, k < 8 → ¬ s (11 + 4 * c + 3) = nI k := fun k hk z => by rw [e, sI_eq, tI_n1, nT] at z; omega
      refine Go.iload dX9_richest_51 rfl ?_
      refine Go.bipush (v := nI 30) dX9_richest_53 rfl ?_
      refine Go.icmp_ge_f (tgt := 95) dX9_richest_55 (by decide) (nI_ge hc (by decide)) ?_
      refine Go.aload_n dX9_richest_58 rfl ?_
      refine Go.iload dX9_richest_59 rfl ?_
      refine Go.iconst (v := nI 3) dX9_richest_61 rfl ?_
      refine Go.at 62 rfl ?_
      refine Go.callVi 76 [vI (nI c), vI (nI 3)] [] dX9_richest_62 lkX9_70 (Or.inl ⟨_, _, _, rfl, rfl, rfl⟩) rfl (Nat.le_of_ble_eq_true rfl) rfl (Nat.le_of_ble_eq_true rfl) (m_of hs c 3 hc (by decide)) ?_
      refine Go.topE (y := (-1)) e ?_
      refine Go.if_lt_t (tgt := 89) dX9_richest_65 (by decide) (by decide) ?_
      refine Go.iinc (v := nI (c + 1)) (ls' := [some (vR 76), some (vI w), some (vI (nI t)), some (vI (dryF s (nI t))), some (vI (nI (c + 1)))]) dX9_richest_89 rfl (nI_add _ _) (by decide) rfl ?_
      refine Go.goto (tgt := 51) dX9_richest_92 (by decide) ?_
      refine m_rich_B hs0 hT hO w t ht24 hk j (c + 1) μ (by omega) hf (fun k hk8 => ?_)
      rw [owF, if_neg (fun z => hne k hk8 z.1)]
      exact hz k hk8
    · have hod := odF_le s (nI q) t
      have how := owF_le s (nI q) (nI t) c
      refine Go.iload dX9_richest_51 rfl ?_
      refine Go.bipush (v := nI 30) dX9_richest_53 rfl ?_
      refine Go.icmp_ge_f (tgt := 95) dX9_richest_55 (by decide) (nI_ge hc (by decide)) ?_
      refine Go.aload_n dX9_richest_58 rfl ?_
      refine Go.iload dX9_richest_59 rfl ?_
      refine Go.iconst (v := nI 3) dX9_richest_61 rfl ?_
      refine Go.at 62 rfl ?_
      refine Go.callVi 76 [vI (nI c), vI (nI 3)] [] dX9_richest_62 lkX9_70 (Or.inl ⟨_, _, _, rfl, rfl, rfl⟩) rfl (Nat.le_of_ble_eq_true rfl) rfl (Nat.le_of_ble_eq_true rfl) (m_of hs c 3 hc (by decide)) ?_
      refine Go.topE (y := nI q) e ?_
      refine Go.if_lt_f (tgt := 89) dX9_richest_65 (by decide) (nI_pos (by omega)) ?_
      refine Go.aload_n dX9_richest_68 rfl ?_
      refine Go.getR dX9_richest_69 flX9_43 rfl ?_
      refine Go.aload_n dX9_richest_72 rfl ?_
      refine Go.iload dX9_richest_73 rfl ?_
      refine Go.at 75 rfl ?_
      refine Go.iconst (v := nI 3) dX9_richest_75 rfl ?_
      refine Go.callVi 76 [vI (nI c), vI (nI 3)] [vR 88] dX9_richest_76 lkX9_70 (Or.inl ⟨_, _, _, rfl, rfl, rfl⟩) rfl (Nat.le_of_ble_eq_true rfl) rfl (Nat.le_of_ble_eq_true rfl) (m_of hs c 3 hc (by decide)) ?_
      refine Go.topE (y := nI q) e ?_
      refine Go.dup2 dX9_richest_79 ?_
      refine Go.iaload q dX9_richest_80 rfl (by omega) rfl ?_
      refine Go.topE (y := nI (odF s (nI q) t + owF s (nI q) (nI t) c)) (hz q hq) ?_
      refine Go.iload_n dX9_richest_81 rfl ?_
      refine Go.iload dX9_richest_82 rfl ?_
      refine Go.at 84 rfl ?_
      refine Go.ishr dX9_richest_84 ?_
      refine Go.iconst (v := nI 1) dX9_richest_85 rfl ?_
      refine Go.iand dX9_richest_86 ?_
      refine Go.topE (y := nI (if levelF s (nI t) < tpF s c then 1 else 0)) (by rw [bitM (by omega), dry_bt s (nI t) hc]; simp only [decide_eq_true_eq]; split <;> rfl) ?_
      refine Go.iaddN dX9_richest_87 ?_
      refine Go.iastore q dX9_richest_88 rfl (by omega) rfl ?_
      refine Go.iinc (v := nI (c + 1)) (ls' := [some (vR 76), some (vI w), some (vI (nI t)), some (vI (dryF s (nI t))), some (vI (nI (c + 1)))]) dX9_richest_89 rfl (nI_add _ _) (by decide) rfl ?_
      refine Go.at 92 rfl ?_
      refine Go.goto (tgt := 51) dX9_richest_92 (by decide) ?_
      refine m_rich_B hs0 hT hO w t ht24 hk j (c + 1) _ (by omega) (Fr.ms hf _ _ (by decide)) (fun k hk8 => ?_)
      rw [ms_self, owF]
      by_cases ek : k = q
      · subst ek
        rw [upd_self, Nat.add_assoc]
        by_cases hz : levelF s (nI t) < tpF s c
        · rw [if_pos hz, if_pos ⟨e, hz⟩]
        · rw [if_neg hz, if_neg (fun z => hz z.2)]
      · rw [upd_ne _ _ ek, if_neg (fun z => ek (by have z1 := z.1; rw [e] at z1; exact ((nI_eq (by omega) (by omega)).mp z1).symm)), Nat.add_zero]
        exact hz k hk8
theorem m_rich_C {V : VV} {d : Nat} {μ0 : Memo} {s : Nat → Int32} (hs0 : μ0 77 = s) (hT : TxtsOK s) (hO : OwnOK s) (w : Int32) {Q : Option AVal → Memo → Prop} (hk : ∀ μ, Fr [88, 90, 91] μ0 μ → (∀ k, k < 8 → μ 88 k = nI (odF s (nI k) 24)) → Go V (d + 4) mX9_richest 101 [some (vR 76), some (vI w), some (vI (nI 24)), none, none] [] μ Q) :
    ∀ (j t : Nat) (μ : Memo), t + j = 24 → Fr [88, 90, 91] μ0 μ → (∀ k, k < 8 → μ 88 k = nI (odF s (nI k) t)) → Go V (d + 4) mX9_richest 36 [some (vR 76), some (vI w), some (vI (nI t)), none, none] [] μ Q
  | 0, t, μ, hkj, hf, hz => by
    obtain rfl : t = 24 := by omega
    refine Go.iload_n dX9_richest_36 rfl ?_
    refine Go.bipush (v := nI 24) dX9_richest_37 rfl ?_
    refine Go.icmp_ge_t (tgt := 101) dX9_richest_39 (by decide) (by decide) ?_
    exact hk μ hf hz
  | j + 1, t, μ, hkj, hf, hz => by
    have ht : t < 24 := by omega
    have hs : μ 77 = s := (hf 77 (by decide)).trans hs0
    refine Go.iload_n dX9_richest_36 rfl ?_
    refine Go.bipush (v := nI 24) dX9_richest_37 rfl ?_
    refine Go.icmp_ge_f (tgt := 101) dX9_richest_39 (by decide) (nI_ge ht (by decide)) ?_
    refine Go.aload_n dX9_richest_42 rfl ?_
    refine Go.iload_n dX9_richest_43 rfl ?_
    refine Go.callVx 76 [vI (nI t)] [] dX9_richest_44 lkX9_131 (Or.inl ⟨_, _, _, rfl, rfl, rfl⟩) rfl (Nat.le_of_ble_eq_true rfl) rfl (Nat.le_of_ble_eq_true rfl) (m_dry hs hT (nI t)) (fun μ1 k1 => ?_)
    have hs1 : μ1 77 = s := (k1 77 (by decide)).trans hs
    refine Go.at 47 rfl ?_
    refine Go.istore_n (ls' := [some (vR 76), some (vI w), some (vI (nI t)), some (vI (dryF s (nI t))), none]) dX9_richest_47 (by decide) rfl ?_
    refine Go.iconst (v := nI 0) dX9_richest_48 rfl ?_
    refine Go.istore (ls' := [some (vR 76), some (vI w), some (vI (nI t)), some (vI (dryF s (nI t))), some (vI (nI 0))]) dX9_richest_49 (by decide) rfl ?_
    refine m_rich_B hs0 hT hO w t ht (fun μ2 hf2 hz2 => ?_) 30 0 μ1 (by omega) (hf.trans (k1.wide (by decide))) (fun k hk8 => by rw [k1 88 (by decide)]; exact hz k hk8)
    refine Go.iinc (v := nI (t + 1)) (ls' := [some (vR 76), some (vI w), some (vI (nI (t + 1))), some (vI (dryF s (nI t))), some (vI (nI 30))]) dX9_richest_95 rfl (nI_add _ _) (by decide) rfl ?_
    refine Go.goto (tgt := 36) dX9_richest_98 (by decide) ?_
    refine Go.mask [true, true, true, false, false] rfl ?_
    exact m_rich_C hs0 hT hO w hk j (t + 1) μ2 (by omega) hf2 hz2
theorem m_rich_D {V : VV} {d : Nat} {μ0 μ : Memo} {s : Nat → Int32} (w : Int32) (hf : Fr [88, 90, 91] μ0 μ) (hz : ∀ k, k < 8 → μ 88 k = nI (odF s (nI k) 24)) :
    ∀ (j k : Nat), k + j = 7 → Go V (d + 4) mX9_richest 105 [some (vR 76), some (vI w), some (vI (nI (rcF s k))), some (vI (nI (k + 1))), none] [] μ (fun r' μ'' => r' = some (vI (if w = 0 then nI (rcF s 7) else nI (odF s (nI (rcF s 7)) 24))) ∧ Fr [88, 90, 91] μ0 μ'')
  | 0, k, hkj => by
    obtain rfl : k = 7 := by omega
    have hrc := rcF_le s 7
    refine Go.iload_n dX9_richest_105 rfl ?_
    refine Go.bipush (v := nI 8) dX9_richest_106 rfl ?_
    refine Go.icmp_ge_t (tgt := 138) dX9_richest_108 (by decide) (by decide) ?_
    refine Go.iload_n dX9_richest_138 rfl ?_
    refine Go.if_ne (tgt := 146) dX9_richest_139 (by decide) (fun h139 => ?_) (fun h139 => ?_)
    · -- 139 taken
      refine Go.aload_n dX9_richest_146 rfl ?_
      refine Go.getR dX9_richest_147 flX9_43 rfl ?_
      refine Go.iload_n dX9_richest_150 rfl ?_
      refine Go.iaload (rcF s 7) dX9_richest_151 rfl (by omega) rfl ?_
      refine Go.topE (y := nI (odF s (nI (rcF s 7)) 24)) (hz _ (by omega)) ?_
      refine Go.ireturn .int dX9_richest_152 rfl rfl ?_
      exact ⟨by simp only [h139, if_true, if_false], hf⟩
    · -- 139 not
      refine Go.iload_n dX9_richest_142 rfl ?_
      refine Go.goto (tgt := 152) dX9_richest_143 (by decide) ?_
      refine Go.ireturn .int dX9_richest_152 rfl rfl ?_
      exact ⟨by simp only [h139, if_true, if_false], hf⟩
  | j + 1, k, hkj => by
    have hrc := rcF_le s k
    have h1 := odF_le s (nI (rcF s k)) 24
    have h2 := odF_le s (nI (k + 1)) 24
    refine Go.iload_n dX9_richest_105 rfl ?_
    refine Go.bipush (v := nI 8) dX9_richest_106 rfl ?_
    refine Go.icmp_ge_f (tgt := 138) dX9_richest_108 (by decide) (nI_ge (by omega) (by decide)) ?_
    refine Go.aload_n dX9_richest_111 rfl ?_
    refine Go.getR dX9_richest_112 flX9_43 rfl ?_
    refine Go.iload_n dX9_richest_115 rfl ?_
    refine Go.at 116 rfl ?_
    refine Go.iaload (k + 1) dX9_richest_116 rfl (by omega) rfl ?_
    refine Go.topE (y := nI (odF s (nI (k + 1)) 24)) (hz _ (by omega)) ?_
    refine Go.aload_n dX9_richest_117 rfl ?_
    refine Go.getR dX9_richest_118 flX9_43 rfl ?_
    refine Go.iload_n dX9_richest_121 rfl ?_
    refine Go.iaload (rcF s k) dX9_richest_122 rfl (by omega) rfl ?_
    refine Go.topE (y := nI (odF s (nI (rcF s k)) 24)) (hz _ (by omega)) ?_
    refine Go.icmp_le (tgt := 130) dX9_richest_123 (by decide) (fun h123 => ?_) (fun h123 => ?_)
    · -- 123 taken
      refine Go.iload_n dX9_richest_130 rfl ?_
      refine Go.istore_n (ls' := [some (vR 76), some (vI w), some (vI (nI (rcF s k))), some (vI (nI (k + 1))), none]) dX9_richest_131 (by decide) rfl ?_
      refine Go.iinc (v := nI ((k + 1) + 1)) (ls' := [some (vR 76), some (vI w), some (vI (nI (rcF s k))), some (vI (nI ((k + 1) + 1))), none]) dX9_richest_132 rfl (nI_add _ _) (by decide) rfl ?_
      refine Go.goto (tgt := 105) dX9_richest_135 (by decide) ?_
      have hw : rcF s (k + 1) = (rcF s k) := (by rw [rcF]; simp only [sI_le, nT] at h123; exact if_neg (by omega))
      have ih := m_rich_D (V := V) (d := d) w hf hz j (k + 1) (by omega)
      rw [hw] at ih
      exact ih
    · -- 123 not
      refine Go.iload_n dX9_richest_126 rfl ?_
      refine Go.goto (tgt := 131) dX9_richest_127 (by decide) ?_
      refine Go.istore_n (ls' := [some (vR 76), some (vI w), some (vI (nI (k + 1))), some (vI (nI (k + 1))), none]) dX9_richest_131 (by decide) rfl ?_
      refine Go.iinc (v := nI ((k + 1) + 1)) (ls' := [some (vR 76), some (vI w), some (vI (nI (k + 1))), some (vI (nI ((k + 1) + 1))), none]) dX9_richest_132 rfl (nI_add _ _) (by decide) rfl ?_
      refine Go.goto (tgt := 105) dX9_richest_135 (by decide) ?_
      have hw : rcF s (k + 1) = (k + 1) := (by rw [rcF]; simp only [sI_le, nT] at h123; exact if_pos (by omega))
      have ih := m_rich_D (V := V) (d := d) w hf hz j (k + 1) (by omega)
      rw [hw] at ih
      exact ih
