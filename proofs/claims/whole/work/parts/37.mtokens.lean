theorem m_isLetter {V : VV} {d : Nat} {μ : Memo} {N : Nat} {B : Nat → Nat} (hT : TpM μ N B) (j : Nat) (hj2 : j < 1000) : Ret V (d + 1) mX9_isLetter [vR 76, vI (nI j)] μ (some (vI (bI (srt N B j = 2)))) μ := by
  show Go V (d + 1) mX9_isLetter 0 [some (vR 76), some (vI (nI j))] [] μ _
  have hN := hT.1
  by_cases hj : j < N
  · have hb := (hT.2.2 j hj).2
    have ee : (nI 97 ≤ nI (B j) ∧ nI (B j) ≤ nI 122) ↔ srt N B j = 2 := by
      rw [sI_le, sI_le, nT, nT, nT]
      unfold srt
      rw [if_pos hj]
      (repeat' split) <;> constructor <;> intro h <;> omega
    refine Go.iload_n dX9_isLetter_0 rfl ?_
    refine Go.aload_n dX9_isLetter_1 rfl ?_
    refine Go.getI dX9_isLetter_2 flX9_184 rfl ?_
    refine Go.topE (y := nI N) hT.2.1 ?_
    refine Go.icmp_ge_f (tgt := 31) dX9_isLetter_5 (by decide) (nI_ge hj (by omega)) ?_
    refine Go.aload_n dX9_isLetter_8 rfl ?_
    refine Go.getR dX9_isLetter_9 flX9_46 rfl ?_
    refine Go.at 12 rfl ?_
    refine Go.iload_n dX9_isLetter_12 rfl ?_
    refine Go.iaload j dX9_isLetter_13 rfl (by omega) rfl ?_
    refine Go.topE (y := nI (B j)) (hT.2.2 j hj).1 ?_
    refine Go.i2l dX9_isLetter_14 ?_
    refine Go.ldc2 (v := (nI 97).toInt64) dX9_isLetter_15 clX9_188 ?_
    refine Go.ldc2 (v := (nI 122).toInt64) dX9_isLetter_18 clX9_190 ?_
    refine Go.callSi [vL ((nI (B j)).toInt64), vL ((nI 97).toInt64), vL ((nI 122).toInt64)] [] dX9_isLetter_21 lkX9_65 rfl (Nat.le_of_ble_eq_true rfl) rfl (Nat.le_of_ble_eq_true rfl) (m_isIn (nI (B j)) (nI 97) (nI 122)) ?_
    refine Go.at 24 rfl ?_
    refine Go.if_eqb (tgt := 31) dX9_isLetter_24 (by decide) (fun h24 => ?_) (fun h24 => ?_)
    · -- 24 taken
      refine Go.iconst (v := nI 0) dX9_isLetter_31 rfl ?_
      refine Go.ireturn .boolean dX9_isLetter_32 rfl rfl ?_
      exact ⟨congrArg (fun z => some (vI z)) (bI_f (fun z => h24 (ee.mpr z))).symm, rfl⟩
    · -- 24 not
      refine Go.iconst (v := nI 1) dX9_isLetter_27 rfl ?_
      refine Go.goto (tgt := 32) dX9_isLetter_28 (by decide) ?_
      refine Go.ireturn .boolean dX9_isLetter_32 rfl rfl ?_
      exact ⟨congrArg (fun z => some (vI z)) (bI_t (ee.mp h24)).symm, rfl⟩
  · have e0 := srt_N (N := N) (B := B) (j := j) (by omega)
    refine Go.iload_n dX9_isLetter_0 rfl ?_
    refine Go.aload_n dX9_isLetter_1 rfl ?_
    refine Go.getI dX9_isLetter_2 flX9_184 rfl ?_
    refine Go.topE (y := nI N) hT.2.1 ?_
    refine Go.icmp_ge_t (tgt := 31) dX9_isLetter_5 (by decide) (by rw [sI_le, nT, nT]; omega) ?_
    refine Go.iconst (v := nI 0) dX9_isLetter_31 rfl ?_
    refine Go.ireturn .boolean dX9_isLetter_32 rfl rfl ?_
    exact ⟨congrArg (fun z => some (vI z)) (bI_f (by omega)).symm, rfl⟩
theorem m_isDigit {V : VV} {d : Nat} {μ : Memo} {N : Nat} {B : Nat → Nat} (hT : TpM μ N B) (j : Nat) (hj2 : j < 1000) : Ret V (d + 1) mX9_isDigit [vR 76, vI (nI j)] μ (some (vI (bI (srt N B j = 3)))) μ := by
  show Go V (d + 1) mX9_isDigit 0 [some (vR 76), some (vI (nI j))] [] μ _
  have hN := hT.1
  by_cases hj : j < N
  · have hb := (hT.2.2 j hj).2
    have ee : (nI 48 ≤ nI (B j) ∧ nI (B j) ≤ nI 57) ↔ srt N B j = 3 := by
      rw [sI_le, sI_le, nT, nT, nT]
      unfold srt
      rw [if_pos hj]
      (repeat' split) <;> constructor <;> intro h <;> omega
    refine Go.iload_n dX9_isDigit_0 rfl ?_
    refine Go.aload_n dX9_isDigit_1 rfl ?_
    refine Go.getI dX9_isDigit_2 flX9_184 rfl ?_
    refine Go.topE (y := nI N) hT.2.1 ?_
    refine Go.icmp_ge_f (tgt := 31) dX9_isDigit_5 (by decide) (nI_ge hj (by omega)) ?_
    refine Go.aload_n dX9_isDigit_8 rfl ?_
    refine Go.getR dX9_isDigit_9 flX9_46 rfl ?_
    refine Go.at 12 rfl ?_
    refine Go.iload_n dX9_isDigit_12 rfl ?_
    refine Go.iaload j dX9_isDigit_13 rfl (by omega) rfl ?_
    refine Go.topE (y := nI (B j)) (hT.2.2 j hj).1 ?_
    refine Go.i2l dX9_isDigit_14 ?_
    refine Go.ldc2 (v := (nI 48).toInt64) dX9_isDigit_15 clX9_192 ?_
    refine Go.ldc2 (v := (nI 57).toInt64) dX9_isDigit_18 clX9_194 ?_
    refine Go.callSi [vL ((nI (B j)).toInt64), vL ((nI 48).toInt64), vL ((nI 57).toInt64)] [] dX9_isDigit_21 lkX9_65 rfl (Nat.le_of_ble_eq_true rfl) rfl (Nat.le_of_ble_eq_true rfl) (m_isIn (nI (B j)) (nI 48) (nI 57)) ?_
    refine Go.at 24 rfl ?_
    refine Go.if_eqb (tgt := 31) dX9_isDigit_24 (by decide) (fun h24 => ?_) (fun h24 => ?_)
    · -- 24 taken
      refine Go.iconst (v := nI 0) dX9_isDigit_31 rfl ?_
      refine Go.ireturn .boolean dX9_isDigit_32 rfl rfl ?_
      exact ⟨congrArg (fun z => some (vI z)) (bI_f (fun z => h24 (ee.mpr z))).symm, rfl⟩
    · -- 24 not
      refine Go.iconst (v := nI 1) dX9_isDigit_27 rfl ?_
      refine Go.goto (tgt := 32) dX9_isDigit_28 (by decide) ?_
      refine Go.ireturn .boolean dX9_isDigit_32 rfl rfl ?_
      exact ⟨congrArg (fun z => some (vI z)) (bI_t (ee.mp h24)).symm, rfl⟩
  · have e0 := srt_N (N := N) (B := B) (j := j) (by omega)
    refine Go.iload_n dX9_isDigit_0 rfl ?_
    refine Go.aload_n dX9_isDigit_1 rfl ?_
    refine Go.getI dX9_isDigit_2 flX9_184 rfl ?_
    refine Go.topE (y := nI N) hT.2.1 ?_
    refine Go.icmp_ge_t (tgt := 31) dX9_isDigit_5 (by decide) (by rw [sI_le, nT, nT]; omega) ?_
    refine Go.iconst (v := nI 0) dX9_isDigit_31 rfl ?_
    refine Go.ireturn .boolean dX9_isDigit_32 rfl rfl ?_
    exact ⟨congrArg (fun z => some (vI z)) (bI_f (by omega)).symm, rfl⟩
def Tk (μ0 μ : Memo) : Prop := (∀ k, k ≠ 15 → k ≠ 16 → k ≠ 17 → k ≠ 18 → k ≠ 19 → μ 76 k = μ0 76 k) ∧ ∀ o, o ≠ 76 → μ o = μ0 o
theorem Tk.rf (μ : Memo) : Tk μ μ := ⟨fun _ _ _ _ _ _ => rfl, fun _ _ => rfl⟩
theorem Tk.st {μ0 μ : Memo} (h : Tk μ0 μ) {k : Nat} (x : Int32) (hk : k = 15 ∨ k = 16 ∨ k = 17 ∨ k = 18 ∨ k = 19) : Tk μ0 (ms μ 76 k x) := ⟨fun q h1 h2 h3 h4 h5 => by rw [ms_self, upd_ne _ _ (by omega)]; exact h.1 q h1 h2 h3 h4 h5, fun o ho => by rw [ms_ne _ _ _ ho]; exact h.2 o ho⟩
theorem TpM.tk {μ0 μ : Memo} {N : Nat} {B : Nat → Nat} (h : TpM μ0 N B) (r : Tk μ0 μ) : TpM μ N B := ⟨h.1, by rw [r.1 14 (by decide) (by decide) (by decide) (by decide) (by decide)]; exact h.2.1, fun j hj => by rw [r.2 89 (by decide)]; exact h.2.2 j hj⟩
theorem m_nt_1 {V : VV} {d : Nat} {μ0 : Memo} {N : Nat} {B : Nat → Nat} (hT0 : TpM μ0 N B) (ti was : Int32) {pe : Nat} {Q : Option AVal → Memo → Prop} (hQ : ∀ μ1, Tk μ0 μ1 → μ1 76 16 = nI pe → Go V (d + 2) mX9_nextToken 72 [some (vR 76), some (vI ti), some (vI was)] [] μ1 Q) :
    ∀ (j p : Nat) (μ : Memo), N ≤ p + j → p ≤ N → pe = bgF N B j p → Tk μ0 μ → μ 76 16 = nI p → Go V (d + 2) mX9_nextToken 34 [some (vR 76), some (vI ti), some (vI was)] [] μ Q
  | 0, p, μ, hp, hpN, he, hr, hb => by
    have hT := hT0.tk hr
    have hN := hT.1
    have he : p = pe := he.symm
    subst he
    refine Go.aload_n dX9_nextToken_34 rfl ?_
    refine Go.getI dX9_nextToken_35 flX9_196 rfl ?_
    refine Go.topE (y := nI p) hb ?_
    refine Go.aload_n dX9_nextToken_38 rfl ?_
    refine Go.getI dX9_nextToken_39 flX9_184 rfl ?_
    refine Go.topE (y := nI N) hT.2.1 ?_
    refine Go.icmp_ge_t (tgt := 72) dX9_nextToken_42 (by decide) (by rw [sI_le, nT, nT]; omega) ?_
    exact hQ _ hr hb
  | j + 1, p, μ, hp, hpN, he, hr, hb => by
    have hT := hT0.tk hr
    have hN := hT.1
    rw [bgF] at he
    by_cases h1 : srt N B p = 1
    · have hpn := srt_pos (N := N) (B := B) (j := p) (by omega)
      rw [if_pos h1] at he
      have h32 : B p = 32 := by
        unfold srt at h1; rw [if_pos hpn] at h1; revert h1; (repeat' split) <;> intro h1 <;> first | assumption | omega
      refine Go.aload_n dX9_nextToken_34 rfl ?_
      refine Go.getI dX9_nextToken_35 flX9_196 rfl ?_
      refine Go.topE (y := nI p) hb ?_
      refine Go.aload_n dX9_nextToken_38 rfl ?_
      refine Go.getI dX9_nextToken_39 flX9_184 rfl ?_
      refine Go.topE (y := nI N) hT.2.1 ?_
      refine Go.icmp_ge_f (tgt := 72) dX9_nextToken_42 (by decide) (nI_ge hpn (by omega)) ?_
      refine Go.aload_n dX9_nextToken_45 rfl ?_
      refine Go.at 46 rfl ?_
      refine Go.getR dX9_nextToken_46 flX9_46 rfl ?_
      refine Go.aload_n dX9_nextToken_49 rfl ?_
      refine Go.getI dX9_nextToken_50 flX9_196 rfl ?_
      refine Go.topE (y := nI p) hb ?_
      refine Go.iaload p dX9_nextToken_53 rfl (by omega) rfl ?_
      refine Go.topE (y := nI (B p)) (hT.2.2 p hpn).1 ?_
      refine Go.bipush (v := nI 32) dX9_nextToken_54 rfl ?_
      refine Go.icmp_ne_f (tgt := 72) dX9_nextToken_56 (by decide) (by rw [h32]) ?_
      refine Go.at 59 rfl ?_
      refine Go.aload_n dX9_nextToken_59 rfl ?_
      refine Go.dupR dX9_nextToken_60 ?_
      refine Go.getI dX9_nextToken_61 flX9_196 rfl ?_
      refine Go.topE (y := nI p) hb ?_
      refine Go.iconst (v := nI 1) dX9_nextToken_64 rfl ?_
      refine Go.iaddN dX9_nextToken_65 ?_
      refine Go.put dX9_nextToken_66 flX9_196 rfl rfl rfl rfl ?_
      refine Go.at 69 rfl ?_
      refine Go.goto (tgt := 34) dX9_nextToken_69 (by decide) ?_
      exact m_nt_1 hT0 ti was hQ j (p + 1) _ (by omega) (by omega) he (hr.st _ (by decide)) (by rw [ms_self, upd_self])
    · rw [if_neg h1] at he
      have he := he.symm
      subst he
      by_cases hpn : p < N
      · have h32 : ¬ B p = 32 := fun z => h1 (by unfold srt; rw [if_pos hpn, if_pos z])
        refine Go.aload_n dX9_nextToken_34 rfl ?_
        refine Go.getI dX9_nextToken_35 flX9_196 rfl ?_
        refine Go.topE (y := nI p) hb ?_
        refine Go.aload_n dX9_nextToken_38 rfl ?_
        refine Go.getI dX9_nextToken_39 flX9_184 rfl ?_
        refine Go.topE (y := nI N) hT.2.1 ?_
        refine Go.icmp_ge_f (tgt := 72) dX9_nextToken_42 (by decide) (nI_ge hpn (by omega)) ?_
        refine Go.aload_n dX9_nextToken_45 rfl ?_
        refine Go.at 46 rfl ?_
        refine Go.getR dX9_nextToken_46 flX9_46 rfl ?_
        refine Go.aload_n dX9_nextToken_49 rfl ?_
        refine Go.getI dX9_nextToken_50 flX9_196 rfl ?_
        refine Go.topE (y := nI p) hb ?_
        refine Go.iaload p dX9_nextToken_53 rfl (by omega) rfl ?_
        refine Go.topE (y := nI (B p)) (hT.2.2 p hpn).1 ?_
        refine Go.bipush (v := nI 32) dX9_nextToken_54 rfl ?_
        refine Go.icmp_ne_t (tgt := 72) dX9_nextToken_56 (by decide) (fun z => h32 (nI_inj z (hT.2.2 p hpn).2)) ?_
        refine Go.at 72 rfl ?_
        exact hQ _ hr hb
      · skip
        refine Go.aload_n dX9_nextToken_34 rfl ?_
        refine Go.getI dX9_nextToken_35 flX9_196 rfl ?_
        refine Go.topE (y := nI p) hb ?_
        refine Go.aload_n dX9_nextToken_38 rfl ?_
        refine Go.getI dX9_nextToken_39 flX9_184 rfl ?_
        refine Go.topE (y := nI N) hT.2.1 ?_
        refine Go.icmp_ge_t (tgt := 72) dX9_nextToken_42 (by decide) (by rw [sI_le, nT, nT]; omega) ?_
        exact hQ _ hr hb
theorem m_nt_2 {V : VV} {d : Nat} {μ0 : Memo} {N : Nat} {B : Nat → Nat} (hT0 : TpM μ0 N B) (ti was : Int32) {ee b : Nat} {Q : Option AVal → Memo → Prop} (hQ : ∀ μ1, Tk μ0 μ1 → μ1 76 15 = nI b → μ1 76 16 = nI ee → Go V (d + 2) mX9_nextToken 152 [some (vR 76), some (vI ti), some (vI was)] [] μ1 Q) :
    ∀ (j e : Nat) (μ : Memo), N ≤ e + j → e ≤ N → ee = enF N B 2 j e → Tk μ0 μ → μ 76 15 = nI b → μ 76 16 = nI e → Go V (d + 2) mX9_nextToken 128 [some (vR 76), some (vI ti), some (vI was)] [] μ Q
  | 0, e, μ, hp, hpN, he, hr, h15, hb => by
    have hT := hT0.tk hr
    have hN := hT.1
    have he : e = ee := he.symm
    subst he
    have e0 := srt_N (N := N) (B := B) (j := e) (by omega)
    refine Go.aload_n dX9_nextToken_128 rfl ?_
    refine Go.aload_n dX9_nextToken_129 rfl ?_
    refine Go.getI dX9_nextToken_130 flX9_196 rfl ?_
    refine Go.topE (y := nI e) hb ?_
    refine Go.callVi 76 [vI (nI e)] [] dX9_nextToken_133 lkX9_205 (Or.inl ⟨_, _, _, rfl, rfl, rfl⟩) rfl (Nat.le_of_ble_eq_true rfl) rfl (Nat.le_of_ble_eq_true rfl) (m_isLetter hT e (by omega)) ?_
    refine Go.if_eqb_t (tgt := 152) dX9_nextToken_136 (by decide) (by omega) ?_
    exact hQ _ hr h15 hb
  | j + 1, e, μ, hp, hpN, he, hr, h15, hb => by
    have hT := hT0.tk hr
    have hN := hT.1
    rw [enF] at he
    by_cases h1 : srt N B e = 2
    · have hpn := srt_pos (N := N) (B := B) (j := e) (by omega)
      rw [if_pos h1] at he
      refine Go.aload_n dX9_nextToken_128 rfl ?_
      refine Go.aload_n dX9_nextToken_129 rfl ?_
      refine Go.getI dX9_nextToken_130 flX9_196 rfl ?_
      refine Go.topE (y := nI e) hb ?_
      refine Go.callVi 76 [vI (nI e)] [] dX9_nextToken_133 lkX9_205 (Or.inl ⟨_, _, _, rfl, rfl, rfl⟩) rfl (Nat.le_of_ble_eq_true rfl) rfl (Nat.le_of_ble_eq_true rfl) (m_isLetter hT e (by omega)) ?_
      refine Go.if_eqb_f (tgt := 152) dX9_nextToken_136 (by decide) h1 ?_
      refine Go.aload_n dX9_nextToken_139 rfl ?_
      refine Go.at 140 rfl ?_
      refine Go.dupR dX9_nextToken_140 ?_
      refine Go.getI dX9_nextToken_141 flX9_196 rfl ?_
      refine Go.topE (y := nI e) hb ?_
      refine Go.iconst (v := nI 1) dX9_nextToken_144 rfl ?_
      refine Go.iaddN dX9_nextToken_145 ?_
      refine Go.put dX9_nextToken_146 flX9_196 rfl rfl rfl rfl ?_
      refine Go.goto (tgt := 128) dX9_nextToken_149 (by decide) ?_
      refine Go.at 128 rfl ?_
      exact m_nt_2 hT0 ti was hQ j (e + 1) _ (by omega) (by omega) he (hr.st _ (by decide)) (by rw [ms_self, upd_ne _ _ (by decide)]; exact h15) (by rw [ms_self, upd_self])
    · rw [if_neg h1] at he
      have he := he.symm
      subst he
      refine Go.aload_n dX9_nextToken_128 rfl ?_
      refine Go.aload_n dX9_nextToken_129 rfl ?_
      refine Go.getI dX9_nextToken_130 flX9_196 rfl ?_
      refine Go.topE (y := nI e) hb ?_
      refine Go.callVi 76 [vI (nI e)] [] dX9_nextToken_133 lkX9_205 (Or.inl ⟨_, _, _, rfl, rfl, rfl⟩) rfl (Nat.le_of_ble_eq_true rfl) rfl (Nat.le_of_ble_eq_true rfl) (m_isLetter hT e (by omega)) ?_
      refine Go.if_eqb_t (tgt := 152) dX9_nextToken_136 (by decide) h1 ?_
      exact hQ _ hr h15 hb
def numC (N : Nat) (B : Nat → Nat) (b : Nat) (f : Nat → Nat → Nat) : Nat → Nat → Nat → Nat
  | 0, _, a => a
  | j + 1, e, a => if srt N B e = 3 then numC N B b f j (e + 1) (if e - b < 4 then f a (B e) else a) else a
theorem numC_eq {N : Nat} {B : Nat → Nat} {b : Nat} (f : Nat → Nat → Nat) : ∀ (j e a : Nat), b ≤ e → enF N B 3 j e - b ≤ 4 → numC N B b f j e a = numG f B (enF N B 3 j e - e) a e
  | 0, e, a, hbe, h => by rw [numC, enF, Nat.sub_self, numG_0]
  | j + 1, e, a, hbe, h => by
    rw [numC]
    rw [enF] at h ⊢
    by_cases h1 : srt N B e = 3
    · rw [if_pos h1] at h ⊢
      rw [if_pos h1]
      have g := enF_ge (N := N) (B := B) (σ := 3) j (e + 1)
      rw [if_pos (by omega), numC_eq f j (e + 1) _ (by omega) h, show enF N B 3 j (e + 1) - e = (enF N B 3 j (e + 1) - (e + 1)) + 1 by omega, numG_s]
    · rw [if_neg h1, if_neg h1, Nat.sub_self, numG_0]
theorem m_nt_3 {V : VV} {d : Nat} {μ0 : Memo} {N : Nat} {B : Nat → Nat} (hT0 : TpM μ0 N B) (ti was : Int32) {ee b nn : Nat} {Q : Option AVal → Memo → Prop} (hQ : ∀ μ1, Tk μ0 μ1 → μ1 76 15 = nI b → μ1 76 16 = nI ee → μ1 76 18 = nI nn → Go V (d + 2) mX9_nextToken 282 [some (vR 76), some (vI ti), some (vI was)] [] μ1 Q) :
    ∀ (j e a : Nat) (μ : Memo), N ≤ e + j → b ≤ e → e ≤ N → ee = enF N B 3 j e → nn = numC N B b dgN j e a → Tk μ0 μ → μ 76 15 = nI b → μ 76 16 = nI e → μ 76 18 = nI a → Go V (d + 2) mX9_nextToken 214 [some (vR 76), some (vI ti), some (vI was)] [] μ Q
  | 0, e, a, μ, hp, hbe, hpN, he, hn, hr, h15, hb, h18 => by
    have hT := hT0.tk hr
    have hN := hT.1
    have he : e = ee := he.symm
    have hn : a = nn := hn.symm
    subst he hn
    have e0 := srt_N (N := N) (B := B) (j := e) (by omega)
    refine Go.aload_n dX9_nextToken_214 rfl ?_
    refine Go.aload_n dX9_nextToken_215 rfl ?_
    refine Go.getI dX9_nextToken_216 flX9_196 rfl ?_
    refine Go.topE (y := nI e) hb ?_
    refine Go.callVi 76 [vI (nI e)] [] dX9_nextToken_219 lkX9_211 (Or.inl ⟨_, _, _, rfl, rfl, rfl⟩) rfl (Nat.le_of_ble_eq_true rfl) rfl (Nat.le_of_ble_eq_true rfl) (m_isDigit hT e (by omega)) ?_
    refine Go.if_eqb_t (tgt := 282) dX9_nextToken_222 (by decide) (by omega) ?_
    exact hQ _ hr h15 hb h18
  | j + 1, e, a, μ, hp, hbe, hpN, he, hn, hr, h15, hb, h18 => by
    have hT := hT0.tk hr
    have hN := hT.1
    rw [enF] at he
    rw [numC] at hn
    by_cases h1 : srt N B e = 3
    · have hpn := srt_pos (N := N) (B := B) (j := e) (by omega)
      have hdg := srt_dig h1
      rw [if_pos h1] at he hn
      by_cases h4 : e - b < 4
      · rw [if_pos h4] at hn
        refine Go.aload_n dX9_nextToken_214 rfl ?_
        refine Go.aload_n dX9_nextToken_215 rfl ?_
        refine Go.getI dX9_nextToken_216 flX9_196 rfl ?_
        refine Go.topE (y := nI e) hb ?_
        refine Go.callVi 76 [vI (nI e)] [] dX9_nextToken_219 lkX9_211 (Or.inl ⟨_, _, _, rfl, rfl, rfl⟩) rfl (Nat.le_of_ble_eq_true rfl) rfl (Nat.le_of_ble_eq_true rfl) (m_isDigit hT e (by omega)) ?_
        refine Go.if_eqb_f (tgt := 282) dX9_nextToken_222 (by decide) h1 ?_
        refine Go.aload_n dX9_nextToken_225 rfl ?_
        refine Go.at 226 rfl ?_
        refine Go.aload_n dX9_nextToken_226 rfl ?_
        refine Go.getI dX9_nextToken_227 flX9_196 rfl ?_
        refine Go.topE (y := nI e) hb ?_
        refine Go.aload_n dX9_nextToken_230 rfl ?_
        refine Go.getI dX9_nextToken_231 flX9_202 rfl ?_
        refine Go.topE (y := nI b) h15 ?_
        refine Go.isubN dX9_nextToken_234 hbe ?_
        refine Go.iconst (v := nI 4) dX9_nextToken_235 rfl ?_
        refine Go.at 236 rfl ?_
        refine Go.icmp_ge_f (tgt := 262) dX9_nextToken_236 (by decide) (nI_ge h4 (by decide)) ?_
        refine Go.bipush (v := nI 10) dX9_nextToken_239 rfl ?_
        refine Go.aload_n dX9_nextToken_241 rfl ?_
        refine Go.getI dX9_nextToken_242 flX9_214 rfl ?_
        refine Go.topE (y := nI a) h18 ?_
        refine Go.imulN dX9_nextToken_245 ?_
        refine Go.aload_n dX9_nextToken_246 rfl ?_
        refine Go.at 247 rfl ?_
        refine Go.getR dX9_nextToken_247 flX9_46 rfl ?_
        refine Go.aload_n dX9_nextToken_250 rfl ?_
        refine Go.getI dX9_nextToken_251 flX9_196 rfl ?_
        refine Go.topE (y := nI e) hb ?_
        refine Go.iaload e dX9_nextToken_254 rfl (by omega) rfl ?_
        refine Go.topE (y := nI (B e)) (hT.2.2 e hpn).1 ?_
        refine Go.iaddN dX9_nextToken_255 ?_
        refine Go.bipush (v := nI 48) dX9_nextToken_256 rfl ?_
        refine Go.at 258 rfl ?_
        refine Go.isubN dX9_nextToken_258 (by omega) ?_
        refine Go.topE (y := nI (dgN a (B e))) (by unfold dgN; rw [Nat.mul_comm]) ?_
        refine Go.goto (tgt := 266) dX9_nextToken_259 (by decide) ?_
        refine Go.put dX9_nextToken_266 flX9_214 rfl rfl rfl rfl ?_
        refine Go.aload_n dX9_nextToken_269 rfl ?_
        refine Go.dupR dX9_nextToken_270 ?_
        refine Go.getI dX9_nextToken_271 flX9_196 rfl ?_
        refine Go.topE (y := nI e) (by simp (disch := omega) only [ms_self, ms_ne, upd_self, upd_ne]; exact hb) ?_
        refine Go.at 274 rfl ?_
        refine Go.iconst (v := nI 1) dX9_nextToken_274 rfl ?_
        refine Go.iaddN dX9_nextToken_275 ?_
        refine Go.put dX9_nextToken_276 flX9_196 rfl rfl rfl rfl ?_
        refine Go.goto (tgt := 214) dX9_nextToken_279 (by decide) ?_
        exact m_nt_3 hT0 ti was hQ j (e + 1) (dgN a (B e)) _ (by omega) (by omega) (by omega) he hn ((hr.st _ (by decide)).st _ (by decide)) (by simp (disch := omega) only [ms_self, ms_ne, upd_self, upd_ne]; exact h15) (by simp (disch := omega) only [ms_self, ms_ne, upd_self, upd_ne]) (by simp (disch := omega) only [ms_self, ms_ne, upd_self, upd_ne])
      · rw [if_neg h4] at hn
        refine Go.aload_n dX9_nextToken_214 rfl ?_
        refine Go.aload_n dX9_nextToken_215 rfl ?_
        refine Go.getI dX9_nextToken_216 flX9_196 rfl ?_
        refine Go.topE (y := nI e) hb ?_
        refine Go.callVi 76 [vI (nI e)] [] dX9_nextToken_219 lkX9_211 (Or.inl ⟨_, _, _, rfl, rfl, rfl⟩) rfl (Nat.le_of_ble_eq_true rfl) rfl (Nat.le_of_ble_eq_true rfl) (m_isDigit hT e (by omega)) ?_
        refine Go.if_eqb_f (tgt := 282) dX9_nextToken_222 (by decide) h1 ?_
        refine Go.aload_n dX9_nextToken_225 rfl ?_
        refine Go.at 226 rfl ?_
        refine Go.aload_n dX9_nextToken_226 rfl ?_
        refine Go.getI dX9_nextToken_227 flX9_196 rfl ?_
        refine Go.topE (y := nI e) hb ?_
        refine Go.aload_n dX9_nextToken_230 rfl ?_
        refine Go.getI dX9_nextToken_231 flX9_202 rfl ?_
        refine Go.topE (y := nI b) h15 ?_
        refine Go.isubN dX9_nextToken_234 hbe ?_
        refine Go.iconst (v := nI 4) dX9_nextToken_235 rfl ?_
        refine Go.at 236 rfl ?_
        refine Go.icmp_ge_t (tgt := 262) dX9_nextToken_236 (by decide) (by rw [sI_le, nT, nT]; omega) ?_
        refine Go.aload_n dX9_nextToken_262 rfl ?_
        refine Go.getI dX9_nextToken_263 flX9_214 rfl ?_
        refine Go.topE (y := nI a) h18 ?_
        refine Go.put dX9_nextToken_266 flX9_214 rfl rfl rfl rfl ?_
        refine Go.aload_n dX9_nextToken_269 rfl ?_
        refine Go.dupR dX9_nextToken_270 ?_
        refine Go.at 271 rfl ?_
        refine Go.getI dX9_nextToken_271 flX9_196 rfl ?_
        refine Go.topE (y := nI e) (by simp (disch := omega) only [ms_self, ms_ne, upd_self, upd_ne]; exact hb) ?_
        refine Go.iconst (v := nI 1) dX9_nextToken_274 rfl ?_
        refine Go.iaddN dX9_nextToken_275 ?_
        refine Go.put dX9_nextToken_276 flX9_196 rfl rfl rfl rfl ?_
        refine Go.goto (tgt := 214) dX9_nextToken_279 (by decide) ?_
        exact m_nt_3 hT0 ti was hQ j (e + 1) a _ (by omega) (by omega) (by omega) he hn ((hr.st _ (by decide)).st _ (by decide)) (by simp (disch := omega) only [ms_self, ms_ne, upd_self, upd_ne]; exact h15) (by simp (disch := omega) only [ms_self, ms_ne, upd_self, upd_ne]) (by simp (disch := omega) only [ms_self, ms_ne, upd_self, upd_ne])
    · rw [if_neg h1] at he hn
      have he := he.symm
      have hn := hn.symm
      subst he hn
      refine Go.aload_n dX9_nextToken_214 rfl ?_
      refine Go.aload_n dX9_nextToken_215 rfl ?_
      refine Go.getI dX9_nextToken_216 flX9_196 rfl ?_
      refine Go.topE (y := nI e) hb ?_
      refine Go.callVi 76 [vI (nI e)] [] dX9_nextToken_219 lkX9_211 (Or.inl ⟨_, _, _, rfl, rfl, rfl⟩) rfl (Nat.le_of_ble_eq_true rfl) rfl (Nat.le_of_ble_eq_true rfl) (m_isDigit hT e (by omega)) ?_
      refine Go.if_eqb_t (tgt := 282) dX9_nextToken_222 (by decide) h1 ?_
      exact hQ _ hr h15 hb h18
def TkP (μ : Memo) (N : Nat) (B : Nat → Nat) (p : Nat) : Prop := μ 76 15 = nI (bg N B p) ∧ μ 76 16 = nI (en N B (bg N B p)) ∧
  (srt N B (bg N B p) = 0 → μ 76 17 = nI 0) ∧
  (srt N B (bg N B p) = 2 → μ 76 17 = (if flw N B (bg N B p) then nI 4 else nI 1) ∧ μ 76 19 = (if en N B (bg N B p) = bg N B p + 1 then nI (B (bg N B p)) else nI 0)) ∧
  (srt N B (bg N B p) = 3 → μ 76 17 = (if flw N B (bg N B p) ∨ 4 < en N B (bg N B p) - bg N B p then nI 4 else nI 2) ∧ (en N B (bg N B p) - bg N B p ≤ 4 → μ 76 18 = nI (numN B 0 (bg N B p) (en N B (bg N B p) - bg N B p)))) ∧
  (srt N B (bg N B p) = 4 → μ 76 17 = nI 3 ∧ μ 76 19 = nI (B (bg N B p)))
/-- the last token, and where it ended -/
def Pv (N : Nat) (B : Nat → Nat) (p : Nat) (t : Int32) : Prop := ((t = nI 1 ∨ t = nI 2) ∧ 0 < p ∧ (srt N B (p - 1) = 2 ∨ srt N B (p - 1) = 3)) ∨ (t = nI 3 ∧ (p = 0 ∨ srt N B (p - 1) = 4))
theorem flw_bg {N : Nat} {B : Nat → Nat} (hN : N ≤ 96) {p : Nat} : flw N B (bg N B p) ↔ (bg N B p = p ∧ 0 < p ∧ (srt N B (p - 1) = 2 ∨ srt N B (p - 1) = 3)) := by
  have g := bg_ge (N := N) (B := B) p
  constructor
  · intro h
    by_cases z : bg N B p = p
    · rw [z] at h; exact ⟨z, h.1, h.2⟩
    · have := bgF_bl (N := N) (B := B) 96 p (bg N B p - 1) (by omega) (show bg N B p - 1 < bg N B p by omega)
      have h2 := h.2
      omega
  · rintro ⟨z, h1, h2⟩
    rw [z]; exact ⟨h1, h2⟩
theorem m_nt_A {V : VV} {d : Nat} {μ : Memo} {N : Nat} {B : Nat → Nat} {p : Nat} (hp : p ≤ 96) (hb : μ 76 16 = nI p) (hv : Pv N B p (μ 76 17)) {Q : Option AVal → Memo → Prop}
    (hQ : ∀ ti, (ti = nI 1 ∧ (0 < p ∧ (srt N B (p - 1) = 2 ∨ srt N B (p - 1) = 3)) ∨ ti = nI 0 ∧ ¬ (0 < p ∧ (srt N B (p - 1) = 2 ∨ srt N B (p - 1) = 3))) → Go V (d + 2) mX9_nextToken 34 [some (vR 76), some (vI ti), some (vI (nI p))] [] μ Q) : Go V (d + 2) mX9_nextToken 0 [some (vR 76), none, none] [] μ Q := by
  rcases hv with ⟨ht, h0, hs⟩ | ⟨ht, hs⟩
  · rcases ht with ht | ht
    · skip
      refine Go.aload_n dX9_nextToken_0 rfl ?_
      refine Go.getI dX9_nextToken_1 flX9_196 rfl ?_
      refine Go.topE (y := nI p) hb ?_
      refine Go.if_le_f (tgt := 27) dX9_nextToken_4 (by decide) (by rw [sI_le, nT, Int32.toInt_zero]; omega) ?_
      refine Go.aload_n dX9_nextToken_7 rfl ?_
      refine Go.getI dX9_nextToken_8 flX9_199 rfl ?_
      refine Go.topE (y := nI 1) ht ?_
      refine Go.iconst (v := nI 1) dX9_nextToken_11 rfl ?_
      refine Go.at 12 rfl ?_
      refine Go.icmp_eq_t (tgt := 23) dX9_nextToken_12 (by decide) (by decide) ?_
      refine Go.iconst (v := nI 1) dX9_nextToken_23 rfl ?_
      refine Go.goto (tgt := 28) dX9_nextToken_24 (by decide) ?_
      refine Go.istore_n (ls' := [some (vR 76), some (vI (nI 1)), none]) dX9_nextToken_28 (by decide) rfl ?_
      refine Go.aload_n dX9_nextToken_29 rfl ?_
      refine Go.getI dX9_nextToken_30 flX9_196 rfl ?_
      refine Go.topE (y := nI p) hb ?_
      refine Go.at 33 rfl ?_
      refine Go.istore_n (ls' := [some (vR 76), some (vI (nI 1)), some (vI (nI p))]) dX9_nextToken_33 (by decide) rfl ?_
      exact hQ _ (Or.inl ⟨rfl, h0, hs⟩)
    · skip
      refine Go.aload_n dX9_nextToken_0 rfl ?_
      refine Go.getI dX9_nextToken_1 flX9_196 rfl ?_
      refine Go.topE (y := nI p) hb ?_
      refine Go.if_le_f (tgt := 27) dX9_nextToken_4 (by decide) (by rw [sI_le, nT, Int32.toInt_zero]; omega) ?_
      refine Go.aload_n dX9_nextToken_7 rfl ?_
      refine Go.getI dX9_nextToken_8 flX9_199 rfl ?_
      refine Go.topE (y := nI 2) ht ?_
      refine Go.iconst (v := nI 1) dX9_nextToken_11 rfl ?_
      refine Go.at 12 rfl ?_
      refine Go.icmp_eq_f (tgt := 23) dX9_nextToken_12 (by decide) (by decide) ?_
      refine Go.aload_n dX9_nextToken_15 rfl ?_
      refine Go.getI dX9_nextToken_16 flX9_199 rfl ?_
      refine Go.topE (y := nI 2) ht ?_
      refine Go.iconst (v := nI 2) dX9_nextToken_19 rfl ?_
      refine Go.icmp_ne_f (tgt := 27) dX9_nextToken_20 (by decide) (by decide) ?_
      refine Go.iconst (v := nI 1) dX9_nextToken_23 rfl ?_
      refine Go.at 24 rfl ?_
      refine Go.goto (tgt := 28) dX9_nextToken_24 (by decide) ?_
      refine Go.istore_n (ls' := [some (vR 76), some (vI (nI 1)), none]) dX9_nextToken_28 (by decide) rfl ?_
      refine Go.aload_n dX9_nextToken_29 rfl ?_
      refine Go.getI dX9_nextToken_30 flX9_196 rfl ?_
      refine Go.topE (y := nI p) hb ?_
      refine Go.istore_n (ls' := [some (vR 76), some (vI (nI 1)), some (vI (nI p))]) dX9_nextToken_33 (by decide) rfl ?_
      exact hQ _ (Or.inl ⟨rfl, h0, hs⟩)
  · by_cases h0 : p = 0
    · skip
      refine Go.aload_n dX9_nextToken_0 rfl ?_
      refine Go.getI dX9_nextToken_1 flX9_196 rfl ?_
      refine Go.topE (y := nI p) hb ?_
      refine Go.if_le_t (tgt := 27) dX9_nextToken_4 (by decide) (by rw [sI_le, nT, Int32.toInt_zero]; omega) ?_
      refine Go.iconst (v := nI 0) dX9_nextToken_27 rfl ?_
      refine Go.istore_n (ls' := [some (vR 76), some (vI (nI 0)), none]) dX9_nextToken_28 (by decide) rfl ?_
      refine Go.aload_n dX9_nextToken_29 rfl ?_
      refine Go.at 30 rfl ?_
      refine Go.getI dX9_nextToken_30 flX9_196 rfl ?_
      refine Go.topE (y := nI p) hb ?_
      refine Go.istore_n (ls' := [some (vR 76), some (vI (nI 0)), some (vI (nI p))]) dX9_nextToken_33 (by decide) rfl ?_
      exact hQ _ (Or.inr ⟨rfl, fun z => by omega⟩)
    · skip
      refine Go.aload_n dX9_nextToken_0 rfl ?_
      refine Go.getI dX9_nextToken_1 flX9_196 rfl ?_
      refine Go.topE (y := nI p) hb ?_
      refine Go.if_le_f (tgt := 27) dX9_nextToken_4 (by decide) (by rw [sI_le, nT, Int32.toInt_zero]; omega) ?_
      refine Go.aload_n dX9_nextToken_7 rfl ?_
      refine Go.getI dX9_nextToken_8 flX9_199 rfl ?_
      refine Go.topE (y := nI 3) ht ?_
      refine Go.iconst (v := nI 1) dX9_nextToken_11 rfl ?_
      refine Go.at 12 rfl ?_
      refine Go.icmp_eq_f (tgt := 23) dX9_nextToken_12 (by decide) (by decide) ?_
      refine Go.aload_n dX9_nextToken_15 rfl ?_
      refine Go.getI dX9_nextToken_16 flX9_199 rfl ?_
      refine Go.topE (y := nI 3) ht ?_
      refine Go.iconst (v := nI 2) dX9_nextToken_19 rfl ?_
      refine Go.icmp_ne_t (tgt := 27) dX9_nextToken_20 (by decide) (by decide) ?_
      refine Go.iconst (v := nI 0) dX9_nextToken_27 rfl ?_
      refine Go.at 28 rfl ?_
      refine Go.istore_n (ls' := [some (vR 76), some (vI (nI 0)), none]) dX9_nextToken_28 (by decide) rfl ?_
      refine Go.aload_n dX9_nextToken_29 rfl ?_
      refine Go.getI dX9_nextToken_30 flX9_196 rfl ?_
      refine Go.topE (y := nI p) hb ?_
      refine Go.istore_n (ls' := [some (vR 76), some (vI (nI 0)), some (vI (nI p))]) dX9_nextToken_33 (by decide) rfl ?_
      exact hQ _ (Or.inr ⟨rfl, fun z => by omega⟩)
theorem m_nt_B {V : VV} {d : Nat} {μ : Memo} {N : Nat} {B : Nat → Nat} (hN : N ≤ 96) {p : Nat} (hp : p ≤ N) (hb : μ 76 16 = nI (bg N B p)) {ti : Int32} (hti : ti = nI 1 ∧ (0 < p ∧ (srt N B (p - 1) = 2 ∨ srt N B (p - 1) = 3)) ∨ ti = nI 0 ∧ ¬ (0 < p ∧ (srt N B (p - 1) = 2 ∨ srt N B (p - 1) = 3))) {Q : Option AVal → Memo → Prop}
    (hQ : Go V (d + 2) mX9_nextToken 90 [some (vR 76), some (vI (if flw N B (bg N B p) then nI 1 else nI 0)), some (vI (nI p))] [] μ Q) : Go V (d + 2) mX9_nextToken 72 [some (vR 76), some (vI ti), some (vI (nI p))] [] μ Q := by
  have hbl := bg_le (N := N) (B := B) hp
  have hfl := flw_bg (B := B) hN (p := p)
  rcases hti with ⟨rfl, hF⟩ | ⟨rfl, hF⟩
  · by_cases hz : bg N B p = p
    · rw [if_pos (hfl.mpr ⟨hz, hF⟩)] at hQ
      refine Go.iload_n dX9_nextToken_72 rfl ?_
      refine Go.if_eq_f (tgt := 88) dX9_nextToken_73 (by decide) (by decide) ?_
      refine Go.iload_n dX9_nextToken_76 rfl ?_
      refine Go.aload_n dX9_nextToken_77 rfl ?_
      refine Go.getI dX9_nextToken_78 flX9_196 rfl ?_
      refine Go.topE (y := nI (bg N B p)) hb ?_
      refine Go.icmp_ne_f (tgt := 88) dX9_nextToken_81 (by decide) (by rw [hz]) ?_
      refine Go.at 84 rfl ?_
      refine Go.iconst (v := nI 1) dX9_nextToken_84 rfl ?_
      refine Go.goto (tgt := 89) dX9_nextToken_85 (by decide) ?_
      refine Go.istore_n (ls' := [some (vR 76), some (vI (nI 1)), some (vI (nI p))]) dX9_nextToken_89 (by decide) rfl ?_
      exact hQ
    · rw [if_neg (fun z => hz (hfl.mp z).1)] at hQ
      refine Go.iload_n dX9_nextToken_72 rfl ?_
      refine Go.if_eq_f (tgt := 88) dX9_nextToken_73 (by decide) (by decide) ?_
      refine Go.iload_n dX9_nextToken_76 rfl ?_
      refine Go.aload_n dX9_nextToken_77 rfl ?_
      refine Go.getI dX9_nextToken_78 flX9_196 rfl ?_
      refine Go.topE (y := nI (bg N B p)) hb ?_
      refine Go.icmp_ne_t (tgt := 88) dX9_nextToken_81 (by decide) (by rw [sI_eq, nT, nT]; omega) ?_
      refine Go.at 88 rfl ?_
      refine Go.iconst (v := nI 0) dX9_nextToken_88 rfl ?_
      refine Go.istore_n (ls' := [some (vR 76), some (vI (nI 0)), some (vI (nI p))]) dX9_nextToken_89 (by decide) rfl ?_
      exact hQ
  · rw [if_neg (fun z => hF (hfl.mp z).2)] at hQ
    refine Go.iload_n dX9_nextToken_72 rfl ?_
    refine Go.if_eq_t (tgt := 88) dX9_nextToken_73 (by decide) (by decide) ?_
    refine Go.iconst (v := nI 0) dX9_nextToken_88 rfl ?_
    refine Go.istore_n (ls' := [some (vR 76), some (vI (nI 0)), some (vI (nI p))]) dX9_nextToken_89 (by decide) rfl ?_
    exact hQ
theorem m_nt_C {V : VV} {d : Nat} {μ0 μ : Memo} {N : Nat} {B : Nat → Nat} (hT0 : TpM μ0 N B) {p : Nat} (hp : p ≤ N) (hr : Tk μ0 μ) (hb : μ 76 16 = nI (bg N B p)) :
    Go V (d + 2) mX9_nextToken 90 [some (vR 76), some (vI (if flw N B (bg N B p) then nI 1 else nI 0)), some (vI (nI p))] [] μ (fun r μ1 => r = none ∧ TkP μ1 N B p ∧ Tk μ0 μ1) := by
  have hT := hT0.tk hr
  have hN := hT.1
  have hbl := bg_le (N := N) (B := B) hp
  have hno := bg_no (B := B) hN p
  have hs4 := srt_le (N := N) (B := B) (bg N B p)
  have hr2 : Tk μ0 (ms μ 76 15 (nI (bg N B p))) := hr.st _ (by decide)
  have hT2 := hT0.tk hr2
  generalize htg : (if flw N B (bg N B p) then nI 1 else nI 0) = tg
  by_cases hz : bg N B p = N
  · have s0 := srt_N (N := N) (B := B) (j := bg N B p) (by omega)
    refine Go.aload_n dX9_nextToken_90 rfl ?_
    refine Go.aload_n dX9_nextToken_91 rfl ?_
    refine Go.getI dX9_nextToken_92 flX9_196 rfl ?_
    refine Go.topE (y := nI (bg N B p)) hb ?_
    refine Go.put dX9_nextToken_95 flX9_202 rfl rfl rfl rfl ?_
    refine Go.aload_n dX9_nextToken_98 rfl ?_
    refine Go.getI dX9_nextToken_99 flX9_202 rfl ?_
    refine Go.topE (y := nI (bg N B p)) (by simp (disch := omega) only [ms_self, ms_ne, upd_self, upd_ne]; try exact hb) ?_
    refine Go.at 102 rfl ?_
    refine Go.aload_n dX9_nextToken_102 rfl ?_
    refine Go.getI dX9_nextToken_103 flX9_184 rfl ?_
    refine Go.topE (y := nI N) hT2.2.1 ?_
    refine Go.icmp_ne_f (tgt := 117) dX9_nextToken_106 (by decide) (by rw [hz]) ?_
    refine Go.aload_n dX9_nextToken_109 rfl ?_
    refine Go.iconst (v := nI 0) dX9_nextToken_110 rfl ?_
    refine Go.put dX9_nextToken_111 flX9_199 rfl rfl rfl rfl ?_
    refine Go.at 114 rfl ?_
    refine Go.goto (tgt := 339) dX9_nextToken_114 (by decide) ?_
    refine Go.vreturn dX9_nextToken_339 rfl ?_
    exact ⟨rfl, ⟨by simp (disch := omega) only [ms_self, ms_ne, upd_self, upd_ne], by simp (disch := omega) only [ms_self, ms_ne, upd_self, upd_ne]; rw [en_N (by omega)]; exact hb, fun _ => by simp (disch := omega) only [ms_self, ms_ne, upd_self, upd_ne], fun z => absurd z (by omega), fun z => absurd z (by omega), fun z => absurd z (by omega)⟩, hr2.st _ (by decide)⟩
  · have hbn : bg N B p < N := by omega
    have hN0 : srt N B (bg N B p) ≠ 0 := by
      intro z; unfold srt at z; rw [if_pos hbn] at z; revert z; (repeat' split) <;> intro z <;> omega
    have n106 : ¬ nI (bg N B p) = nI N := by rw [sI_eq, nT, nT]; omega
    by_cases h2 : srt N B (bg N B p) = 2
    · have een : en N B (bg N B p) = enF N B 2 96 (bg N B p) := by unfold en; rw [if_pos hbn, if_neg (by omega), h2]
      have hle := en_le (N := N) (B := B) hbl
      have hgt := en_gt (B := B) hbn
      refine Go.aload_n dX9_nextToken_90 rfl ?_
      refine Go.aload_n dX9_nextToken_91 rfl ?_
      refine Go.getI dX9_nextToken_92 flX9_196 rfl ?_
      refine Go.topE (y := nI (bg N B p)) hb ?_
      refine Go.put dX9_nextToken_95 flX9_202 rfl rfl rfl rfl ?_
      refine Go.aload_n dX9_nextToken_98 rfl ?_
      refine Go.getI dX9_nextToken_99 flX9_202 rfl ?_
      refine Go.topE (y := nI (bg N B p)) (by simp (disch := omega) only [ms_self, ms_ne, upd_self, upd_ne]; try exact hb) ?_
      refine Go.at 102 rfl ?_
      refine Go.aload_n dX9_nextToken_102 rfl ?_
      refine Go.getI dX9_nextToken_103 flX9_184 rfl ?_
      refine Go.topE (y := nI N) hT2.2.1 ?_
      refine Go.icmp_ne_t (tgt := 117) dX9_nextToken_106 (by decide) n106 ?_
      refine Go.aload_n dX9_nextToken_117 rfl ?_
      refine Go.aload_n dX9_nextToken_118 rfl ?_
      refine Go.getI dX9_nextToken_119 flX9_202 rfl ?_
      refine Go.topE (y := nI (bg N B p)) (by simp (disch := omega) only [ms_self, ms_ne, upd_self, upd_ne]; try exact hb) ?_
      refine Go.at 122 rfl ?_
      refine Go.callVi 76 [vI (nI (bg N B p))] [] dX9_nextToken_122 lkX9_205 (Or.inl ⟨_, _, _, rfl, rfl, rfl⟩) rfl (Nat.le_of_ble_eq_true rfl) rfl (Nat.le_of_ble_eq_true rfl) (m_isLetter hT2 (bg N B p) (by omega)) ?_
      refine Go.if_eqb_f (tgt := 198) dX9_nextToken_125 (by decide) h2 ?_
      refine m_nt_2 hT0 _ _ (b := bg N B p) (ee := en N B (bg N B p)) (fun μ1 r1 a15 a16 => ?_) 96 (bg N B p) _ (by omega) hbl een hr2 (by simp (disch := omega) only [ms_self, ms_ne, upd_self, upd_ne]) (by simp (disch := omega) only [ms_self, ms_ne, upd_self, upd_ne]; exact hb)
      have hT3 := hT0.tk r1
      subst htg
      have key9 : ∀ (M : Memo), Tk μ0 M → M 76 15 = nI (bg N B p) → M 76 16 = nI (en N B (bg N B p)) → M 76 17 = (if flw N B (bg N B p) then nI 4 else nI 1) → M 76 19 = (if en N B (bg N B p) = bg N B p + 1 then nI (B (bg N B p)) else nI 0) → TkP M N B p ∧ Tk μ0 M := fun M q1 q2 q3 q4 q5 => ⟨⟨q2, q3, fun z => absurd z (by omega), fun _ => ⟨q4, q5⟩, fun z => absurd z (by omega), fun z => absurd z (by omega)⟩, q1⟩
      by_cases hfl : flw N B (bg N B p)
      · rw [if_pos hfl] at key9 ⊢
        refine Go.aload_n dX9_nextToken_152 rfl ?_
        refine Go.iload_n dX9_nextToken_153 rfl ?_
        refine Go.if_eq_f (tgt := 161) dX9_nextToken_154 (by decide) (by decide) ?_
        refine Go.iconst (v := nI 4) dX9_nextToken_157 rfl ?_
        refine Go.goto (tgt := 162) dX9_nextToken_158 (by decide) ?_
        refine Go.put dX9_nextToken_162 flX9_199 rfl rfl rfl rfl ?_
        refine Go.at 165 rfl ?_
        refine Go.aload_n dX9_nextToken_165 rfl ?_
        refine Go.aload_n dX9_nextToken_166 rfl ?_
        refine Go.getI dX9_nextToken_167 flX9_196 rfl ?_
        refine Go.topE (y := nI (en N B (bg N B p))) (by simp (disch := omega) only [ms_self, ms_ne, upd_self, upd_ne]; exact a16) ?_
        refine Go.aload_n dX9_nextToken_170 rfl ?_
        refine Go.getI dX9_nextToken_171 flX9_202 rfl ?_
        refine Go.topE (y := nI (bg N B p)) (by simp (disch := omega) only [ms_self, ms_ne, upd_self, upd_ne]; exact a15) ?_
        refine Go.isubN dX9_nextToken_174 (by omega) ?_
        refine Go.at 175 rfl ?_
        refine Go.iconst (v := nI 1) dX9_nextToken_175 rfl ?_
        refine Go.icmp_ne (tgt := 191) dX9_nextToken_176 (by decide) (fun h176 => ?_) (fun h176 => ?_)
        · -- 176 taken
          refine Go.iconst (v := nI 0) dX9_nextToken_191 rfl ?_
          refine Go.put dX9_nextToken_192 flX9_208 rfl rfl rfl rfl ?_
          refine Go.goto (tgt := 339) dX9_nextToken_195 (by decide) ?_
          refine Go.vreturn dX9_nextToken_339 rfl ?_
          exact ⟨rfl, key9 _ ((r1.st _ (by decide)).st _ (by decide)) (by simp (disch := omega) only [ms_self, ms_ne, upd_self, upd_ne]; exact a15) (by simp (disch := omega) only [ms_self, ms_ne, upd_self, upd_ne]; exact a16) (by simp (disch := omega) only [ms_self, ms_ne, upd_self, upd_ne]) (by simp (disch := omega) only [ms_self, ms_ne, upd_self, upd_ne]; rw [if_neg (by rw [sI_eq, nT, nT] at h176; omega)])⟩
        · -- 176 not
          refine Go.aload_n dX9_nextToken_179 rfl ?_
          refine Go.getR dX9_nextToken_180 flX9_46 rfl ?_
          refine Go.aload_n dX9_nextToken_183 rfl ?_
          refine Go.getI dX9_nextToken_184 flX9_202 rfl ?_
          refine Go.topE (y := nI (bg N B p)) (by simp (disch := omega) only [ms_self, ms_ne, upd_self, upd_ne]; exact a15) ?_
          refine Go.iaload (bg N B p) dX9_nextToken_187 rfl (by omega) rfl ?_
          refine Go.topE (y := nI (B (bg N B p))) (by simp (disch := omega) only [ms_self, ms_ne, upd_self, upd_ne]; exact (hT3.2.2 _ hbn).1) ?_
          refine Go.goto (tgt := 192) dX9_nextToken_188 (by decide) ?_
          refine Go.at 192 rfl ?_
          refine Go.put dX9_nextToken_192 flX9_208 rfl rfl rfl rfl ?_
          refine Go.goto (tgt := 339) dX9_nextToken_195 (by decide) ?_
          refine Go.vreturn dX9_nextToken_339 rfl ?_
          exact ⟨rfl, key9 _ ((r1.st _ (by decide)).st _ (by decide)) (by simp (disch := omega) only [ms_self, ms_ne, upd_self, upd_ne]; exact a15) (by simp (disch := omega) only [ms_self, ms_ne, upd_self, upd_ne]; exact a16) (by simp (disch := omega) only [ms_self, ms_ne, upd_self, upd_ne]) (by simp (disch := omega) only [ms_self, ms_ne, upd_self, upd_ne]; rw [if_pos (by rw [sI_eq, nT, nT] at h176; omega)])⟩
      · rw [if_neg hfl] at key9 ⊢
        refine Go.aload_n dX9_nextToken_152 rfl ?_
        refine Go.iload_n dX9_nextToken_153 rfl ?_
        refine Go.if_eq_t (tgt := 161) dX9_nextToken_154 (by decide) (by decide) ?_
        refine Go.iconst (v := nI 1) dX9_nextToken_161 rfl ?_
        refine Go.put dX9_nextToken_162 flX9_199 rfl rfl rfl rfl ?_
        refine Go.aload_n dX9_nextToken_165 rfl ?_
        refine Go.at 166 rfl ?_
        refine Go.aload_n dX9_nextToken_166 rfl ?_
        refine Go.getI dX9_nextToken_167 flX9_196 rfl ?_
        refine Go.topE (y := nI (en N B (bg N B p))) (by simp (disch := omega) only [ms_self, ms_ne, upd_self, upd_ne]; exact a16) ?_
        refine Go.aload_n dX9_nextToken_170 rfl ?_
        refine Go.getI dX9_nextToken_171 flX9_202 rfl ?_
        refine Go.topE (y := nI (bg N B p)) (by simp (disch := omega) only [ms_self, ms_ne, upd_self, upd_ne]; exact a15) ?_
        refine Go.isubN dX9_nextToken_174 (by omega) ?_
        refine Go.iconst (v := nI 1) dX9_nextToken_175 rfl ?_
        refine Go.at 176 rfl ?_
        refine Go.icmp_ne (tgt := 191) dX9_nextToken_176 (by decide) (fun h176 => ?_) (fun h176 => ?_)
        · -- 176 taken
          refine Go.iconst (v := nI 0) dX9_nextToken_191 rfl ?_
          refine Go.put dX9_nextToken_192 flX9_208 rfl rfl rfl rfl ?_
          refine Go.goto (tgt := 339) dX9_nextToken_195 (by decide) ?_
          refine Go.vreturn dX9_nextToken_339 rfl ?_
          exact ⟨rfl, key9 _ ((r1.st _ (by decide)).st _ (by decide)) (by simp (disch := omega) only [ms_self, ms_ne, upd_self, upd_ne]; exact a15) (by simp (disch := omega) only [ms_self, ms_ne, upd_self, upd_ne]; exact a16) (by simp (disch := omega) only [ms_self, ms_ne, upd_self, upd_ne]) (by simp (disch := omega) only [ms_self, ms_ne, upd_self, upd_ne]; rw [if_neg (by rw [sI_eq, nT, nT] at h176; omega)])⟩
        · -- 176 not
          refine Go.aload_n dX9_nextToken_179 rfl ?_
          refine Go.getR dX9_nextToken_180 flX9_46 rfl ?_
          refine Go.aload_n dX9_nextToken_183 rfl ?_
          refine Go.getI dX9_nextToken_184 flX9_202 rfl ?_
          refine Go.topE (y := nI (bg N B p)) (by simp (disch := omega) only [ms_self, ms_ne, upd_self, upd_ne]; exact a15) ?_
          refine Go.iaload (bg N B p) dX9_nextToken_187 rfl (by omega) rfl ?_
          refine Go.topE (y := nI (B (bg N B p))) (by simp (disch := omega) only [ms_self, ms_ne, upd_self, upd_ne]; exact (hT3.2.2 _ hbn).1) ?_
          refine Go.goto (tgt := 192) dX9_nextToken_188 (by decide) ?_
          refine Go.at 192 rfl ?_
          refine Go.put dX9_nextToken_192 flX9_208 rfl rfl rfl rfl ?_
          refine Go.goto (tgt := 339) dX9_nextToken_195 (by decide) ?_
          refine Go.vreturn dX9_nextToken_339 rfl ?_
          exact ⟨rfl, key9 _ ((r1.st _ (by decide)).st _ (by decide)) (by simp (disch := omega) only [ms_self, ms_ne, upd_self, upd_ne]; exact a15) (by simp (disch := omega) only [ms_self, ms_ne, upd_self, upd_ne]; exact a16) (by simp (disch := omega) only [ms_self, ms_ne, upd_self, upd_ne]) (by simp (disch := omega) only [ms_self, ms_ne, upd_self, upd_ne]; rw [if_pos (by rw [sI_eq, nT, nT] at h176; omega)])⟩
    · by_cases h3 : srt N B (bg N B p) = 3
      · have een : en N B (bg N B p) = enF N B 3 96 (bg N B p) := by unfold en; rw [if_pos hbn, if_neg (by omega), h3]
        have hle := en_le (N := N) (B := B) hbl
        have hgt := en_gt (B := B) hbn
        refine Go.aload_n dX9_nextToken_90 rfl ?_
        refine Go.aload_n dX9_nextToken_91 rfl ?_
        refine Go.getI dX9_nextToken_92 flX9_196 rfl ?_
        refine Go.topE (y := nI (bg N B p)) hb ?_
        refine Go.put dX9_nextToken_95 flX9_202 rfl rfl rfl rfl ?_
        refine Go.aload_n dX9_nextToken_98 rfl ?_
        refine Go.getI dX9_nextToken_99 flX9_202 rfl ?_
        refine Go.topE (y := nI (bg N B p)) (by simp (disch := omega) only [ms_self, ms_ne, upd_self, upd_ne]; try exact hb) ?_
        refine Go.at 102 rfl ?_
        refine Go.aload_n dX9_nextToken_102 rfl ?_
        refine Go.getI dX9_nextToken_103 flX9_184 rfl ?_
        refine Go.topE (y := nI N) hT2.2.1 ?_
        refine Go.icmp_ne_t (tgt := 117) dX9_nextToken_106 (by decide) n106 ?_
        refine Go.aload_n dX9_nextToken_117 rfl ?_
        refine Go.aload_n dX9_nextToken_118 rfl ?_
        refine Go.getI dX9_nextToken_119 flX9_202 rfl ?_
        refine Go.topE (y := nI (bg N B p)) (by simp (disch := omega) only [ms_self, ms_ne, upd_self, upd_ne]; try exact hb) ?_
        refine Go.at 122 rfl ?_
        refine Go.callVi 76 [vI (nI (bg N B p))] [] dX9_nextToken_122 lkX9_205 (Or.inl ⟨_, _, _, rfl, rfl, rfl⟩) rfl (Nat.le_of_ble_eq_true rfl) rfl (Nat.le_of_ble_eq_true rfl) (m_isLetter hT2 (bg N B p) (by omega)) ?_
        refine Go.if_eqb_t (tgt := 198) dX9_nextToken_125 (by decide) h2 ?_
        refine Go.aload_n dX9_nextToken_198 rfl ?_
        refine Go.aload_n dX9_nextToken_199 rfl ?_
        refine Go.getI dX9_nextToken_200 flX9_202 rfl ?_
        refine Go.topE (y := nI (bg N B p)) (by simp (disch := omega) only [ms_self, ms_ne, upd_self, upd_ne]; try exact hb) ?_
        refine Go.callVi 76 [vI (nI (bg N B p))] [] dX9_nextToken_203 lkX9_211 (Or.inl ⟨_, _, _, rfl, rfl, rfl⟩) rfl (Nat.le_of_ble_eq_true rfl) rfl (Nat.le_of_ble_eq_true rfl) (m_isDigit hT2 (bg N B p) (by omega)) ?_
        refine Go.at 206 rfl ?_
        refine Go.if_eqb_f (tgt := 311) dX9_nextToken_206 (by decide) h3 ?_
        refine Go.aload_n dX9_nextToken_209 rfl ?_
        refine Go.iconst (v := nI 0) dX9_nextToken_210 rfl ?_
        refine Go.put dX9_nextToken_211 flX9_214 rfl rfl rfl rfl ?_
        refine m_nt_3 hT0 _ _ (b := bg N B p) (ee := en N B (bg N B p)) (nn := numC N B (bg N B p) dgN 96 (bg N B p) 0) (fun μ1 r1 a15 a16 a18 => ?_) 96 (bg N B p) 0 _ (by omega) (Nat.le_refl _) hbl een rfl (hr2.st _ (by decide)) (by simp (disch := omega) only [ms_self, ms_ne, upd_self, upd_ne]) (by simp (disch := omega) only [ms_self, ms_ne, upd_self, upd_ne]; exact hb) (by simp (disch := omega) only [ms_self, ms_ne, upd_self, upd_ne])
        have hnn : en N B (bg N B p) - bg N B p ≤ 4 → numC N B (bg N B p) dgN 96 (bg N B p) 0 = numN B 0 (bg N B p) (en N B (bg N B p) - bg N B p) := fun z => by
          rw [numC_eq dgN 96 _ 0 (Nat.le_refl _) (by rw [← een]; exact z), ← een]; rfl
        subst htg
        have key9 : ∀ (M : Memo), Tk μ0 M → M 76 15 = nI (bg N B p) → M 76 16 = nI (en N B (bg N B p)) → M 76 17 = (if flw N B (bg N B p) ∨ 4 < en N B (bg N B p) - bg N B p then nI 4 else nI 2) → M 76 18 = nI (numC N B (bg N B p) dgN 96 (bg N B p) 0) → TkP M N B p ∧ Tk μ0 M := fun M q1 q2 q3 q4 q5 => ⟨⟨q2, q3, fun z => absurd z (by omega), fun z => absurd z (by omega), fun _ => ⟨q4, fun z => by rw [← hnn z]; exact q5⟩, fun z => absurd z (by omega)⟩, q1⟩
        by_cases hfl : flw N B (bg N B p)
        · rw [if_pos (Or.inl hfl)] at key9
          rw [if_pos hfl]
          refine Go.aload_n dX9_nextToken_282 rfl ?_
          refine Go.iload_n dX9_nextToken_283 rfl ?_
          refine Go.if_ne_t (tgt := 300) dX9_nextToken_284 (by decide) (by decide) ?_
          refine Go.iconst (v := nI 4) dX9_nextToken_300 rfl ?_
          refine Go.goto (tgt := 305) dX9_nextToken_301 (by decide) ?_
          refine Go.put dX9_nextToken_305 flX9_199 rfl rfl rfl rfl ?_
          refine Go.at 308 rfl ?_
          refine Go.goto (tgt := 339) dX9_nextToken_308 (by decide) ?_
          refine Go.vreturn dX9_nextToken_339 rfl ?_
          exact ⟨rfl, key9 _ (r1.st _ (by decide)) (by simp (disch := omega) only [ms_self, ms_ne, upd_self, upd_ne]; exact a15) (by simp (disch := omega) only [ms_self, ms_ne, upd_self, upd_ne]; exact a16) (by simp (disch := omega) only [ms_self, ms_ne, upd_self, upd_ne]) (by simp (disch := omega) only [ms_self, ms_ne, upd_self, upd_ne]; exact a18)⟩
        · rw [if_neg hfl]
          by_cases h4 : 4 < en N B (bg N B p) - bg N B p
          · rw [if_pos (Or.inr h4)] at key9
            refine Go.aload_n dX9_nextToken_282 rfl ?_
            refine Go.iload_n dX9_nextToken_283 rfl ?_
            refine Go.if_ne_f (tgt := 300) dX9_nextToken_284 (by decide) (by decide) ?_
            refine Go.aload_n dX9_nextToken_287 rfl ?_
            refine Go.getI dX9_nextToken_288 flX9_196 rfl ?_
            refine Go.topE (y := nI (en N B (bg N B p))) a16 ?_
            refine Go.aload_n dX9_nextToken_291 rfl ?_
            refine Go.at 292 rfl ?_
            refine Go.getI dX9_nextToken_292 flX9_202 rfl ?_
            refine Go.topE (y := nI (bg N B p)) a15 ?_
            refine Go.isubN dX9_nextToken_295 (by omega) ?_
            refine Go.iconst (v := nI 4) dX9_nextToken_296 rfl ?_
            refine Go.icmp_le_f (tgt := 304) dX9_nextToken_297 (by decide) (by rw [sI_le, nT, nT]; omega) ?_
            refine Go.iconst (v := nI 4) dX9_nextToken_300 rfl ?_
            refine Go.goto (tgt := 305) dX9_nextToken_301 (by decide) ?_
            refine Go.at 305 rfl ?_
            refine Go.put dX9_nextToken_305 flX9_199 rfl rfl rfl rfl ?_
            refine Go.goto (tgt := 339) dX9_nextToken_308 (by decide) ?_
            refine Go.vreturn dX9_nextToken_339 rfl ?_
            exact ⟨rfl, key9 _ (r1.st _ (by decide)) (by simp (disch := omega) only [ms_self, ms_ne, upd_self, upd_ne]; exact a15) (by simp (disch := omega) only [ms_self, ms_ne, upd_self, upd_ne]; exact a16) (by simp (disch := omega) only [ms_self, ms_ne, upd_self, upd_ne]) (by simp (disch := omega) only [ms_self, ms_ne, upd_self, upd_ne]; exact a18)⟩
          · rw [if_neg (by rintro (z | z); exact hfl z; exact h4 z)] at key9
            refine Go.aload_n dX9_nextToken_282 rfl ?_
            refine Go.iload_n dX9_nextToken_283 rfl ?_
            refine Go.if_ne_f (tgt := 300) dX9_nextToken_284 (by decide) (by decide) ?_
            refine Go.aload_n dX9_nextToken_287 rfl ?_
            refine Go.getI dX9_nextToken_288 flX9_196 rfl ?_
            refine Go.topE (y := nI (en N B (bg N B p))) a16 ?_
            refine Go.aload_n dX9_nextToken_291 rfl ?_
            refine Go.at 292 rfl ?_
            refine Go.getI dX9_nextToken_292 flX9_202 rfl ?_
            refine Go.topE (y := nI (bg N B p)) a15 ?_
            refine Go.isubN dX9_nextToken_295 (by omega) ?_
            refine Go.iconst (v := nI 4) dX9_nextToken_296 rfl ?_
            refine Go.icmp_le_t (tgt := 304) dX9_nextToken_297 (by decide) (by rw [sI_le, nT, nT]; omega) ?_
            refine Go.iconst (v := nI 2) dX9_nextToken_304 rfl ?_
            refine Go.put dX9_nextToken_305 flX9_199 rfl rfl rfl rfl ?_
            refine Go.at 308 rfl ?_
            refine Go.goto (tgt := 339) dX9_nextToken_308 (by decide) ?_
            refine Go.vreturn dX9_nextToken_339 rfl ?_
            exact ⟨rfl, key9 _ (r1.st _ (by decide)) (by simp (disch := omega) only [ms_self, ms_ne, upd_self, upd_ne]; exact a15) (by simp (disch := omega) only [ms_self, ms_ne, upd_self, upd_ne]; exact a16) (by simp (disch := omega) only [ms_self, ms_ne, upd_self, upd_ne]) (by simp (disch := omega) only [ms_self, ms_ne, upd_self, upd_ne]; exact a18)⟩
      · have h4 : srt N B (bg N B p) = 4 := by omega
        have een : en N B (bg N B p) = bg N B p + 1 := by unfold en; rw [if_pos hbn, if_pos h4]
        refine Go.aload_n dX9_nextToken_90 rfl ?_
        refine Go.aload_n dX9_nextToken_91 rfl ?_
        refine Go.getI dX9_nextToken_92 flX9_196 rfl ?_
        refine Go.topE (y := nI (bg N B p)) hb ?_
        refine Go.put dX9_nextToken_95 flX9_202 rfl rfl rfl rfl ?_
        refine Go.aload_n dX9_nextToken_98 rfl ?_
        refine Go.getI dX9_nextToken_99 flX9_202 rfl ?_
        refine Go.topE (y := nI (bg N B p)) (by simp (disch := omega) only [ms_self, ms_ne, upd_self, upd_ne]; try exact hb) ?_
        refine Go.at 102 rfl ?_
        refine Go.aload_n dX9_nextToken_102 rfl ?_
        refine Go.getI dX9_nextToken_103 flX9_184 rfl ?_
        refine Go.topE (y := nI N) hT2.2.1 ?_
        refine Go.icmp_ne_t (tgt := 117) dX9_nextToken_106 (by decide) n106 ?_
        refine Go.aload_n dX9_nextToken_117 rfl ?_
        refine Go.aload_n dX9_nextToken_118 rfl ?_
        refine Go.getI dX9_nextToken_119 flX9_202 rfl ?_
        refine Go.topE (y := nI (bg N B p)) (by simp (disch := omega) only [ms_self, ms_ne, upd_self, upd_ne]; try exact hb) ?_
        refine Go.at 122 rfl ?_
        refine Go.callVi 76 [vI (nI (bg N B p))] [] dX9_nextToken_122 lkX9_205 (Or.inl ⟨_, _, _, rfl, rfl, rfl⟩) rfl (Nat.le_of_ble_eq_true rfl) rfl (Nat.le_of_ble_eq_true rfl) (m_isLetter hT2 (bg N B p) (by omega)) ?_
        refine Go.if_eqb_t (tgt := 198) dX9_nextToken_125 (by decide) h2 ?_
        refine Go.aload_n dX9_nextToken_198 rfl ?_
        refine Go.aload_n dX9_nextToken_199 rfl ?_
        refine Go.getI dX9_nextToken_200 flX9_202 rfl ?_
        refine Go.topE (y := nI (bg N B p)) (by simp (disch := omega) only [ms_self, ms_ne, upd_self, upd_ne]; try exact hb) ?_
        refine Go.callVi 76 [vI (nI (bg N B p))] [] dX9_nextToken_203 lkX9_211 (Or.inl ⟨_, _, _, rfl, rfl, rfl⟩) rfl (Nat.le_of_ble_eq_true rfl) rfl (Nat.le_of_ble_eq_true rfl) (m_isDigit hT2 (bg N B p) (by omega)) ?_
        refine Go.at 206 rfl ?_
        refine Go.if_eqb_t (tgt := 311) dX9_nextToken_206 (by decide) h3 ?_
        refine Go.aload_n dX9_nextToken_311 rfl ?_
        refine Go.iconst (v := nI 3) dX9_nextToken_312 rfl ?_
        refine Go.put dX9_nextToken_313 flX9_199 rfl rfl rfl rfl ?_
        refine Go.aload_n dX9_nextToken_316 rfl ?_
        refine Go.aload_n dX9_nextToken_317 rfl ?_
        refine Go.at 318 rfl ?_
        refine Go.getR dX9_nextToken_318 flX9_46 rfl ?_
        refine Go.aload_n dX9_nextToken_321 rfl ?_
        refine Go.getI dX9_nextToken_322 flX9_202 rfl ?_
        refine Go.topE (y := nI (bg N B p)) (by simp (disch := omega) only [ms_self, ms_ne, upd_self, upd_ne]; try exact hb) ?_
        refine Go.iaload (bg N B p) dX9_nextToken_325 rfl (by omega) rfl ?_
        refine Go.topE (y := nI (B (bg N B p))) (by simp (disch := omega) only [ms_self, ms_ne, upd_self, upd_ne]; exact (hT.2.2 _ hbn).1) ?_
        refine Go.put dX9_nextToken_326 flX9_208 rfl rfl rfl rfl ?_
        refine Go.aload_n dX9_nextToken_329 rfl ?_
        refine Go.at 330 rfl ?_
        refine Go.dupR dX9_nextToken_330 ?_
        refine Go.getI dX9_nextToken_331 flX9_196 rfl ?_
        refine Go.topE (y := nI (bg N B p)) (by simp (disch := omega) only [ms_self, ms_ne, upd_self, upd_ne]; try exact hb) ?_
        refine Go.iconst (v := nI 1) dX9_nextToken_334 rfl ?_
        refine Go.iaddN dX9_nextToken_335 ?_
        refine Go.put dX9_nextToken_336 flX9_196 rfl rfl rfl rfl ?_
        refine Go.vreturn dX9_nextToken_339 rfl ?_
        exact ⟨rfl, ⟨by simp (disch := omega) only [ms_self, ms_ne, upd_self, upd_ne], by simp (disch := omega) only [ms_self, ms_ne, upd_self, upd_ne]; rw [een], fun z => absurd z (by omega), fun z => absurd z (by omega), fun z => absurd z (by omega), fun _ => ⟨by simp (disch := omega) only [ms_self, ms_ne, upd_self, upd_ne], by simp (disch := omega) only [ms_self, ms_ne, upd_self, upd_ne]⟩⟩, ((hr2.st _ (by decide)).st _ (by decide)).st _ (by decide)⟩
theorem m_nextToken {V : VV} {d : Nat} {μ : Memo} {N : Nat} {B : Nat → Nat} (hT : TpM μ N B) {p : Nat} (hp : p ≤ N) (hb : μ 76 16 = nI p) (hv : Pv N B p (μ 76 17)) : RetU V (d + 2) mX9_nextToken [vR 76] μ (fun μ1 => TkP μ1 N B p ∧ Tk μ μ1) := by
  show Go V (d + 2) mX9_nextToken 0 [some (vR 76), none, none] [] μ _
  have hN := hT.1
  refine m_nt_A (by omega) hb hv (fun ti hti => ?_)
  refine m_nt_1 hT ti (nI p) (pe := bg N B p) (fun μ1 r1 b1 => ?_) 96 p μ (by omega) hp rfl (Tk.rf _) hb
  refine m_nt_B hN hp b1 hti ?_
  exact m_nt_C hT hp r1 b1
