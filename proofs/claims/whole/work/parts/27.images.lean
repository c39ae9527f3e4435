/-! ===== images ===== -/
theorem SI.low {s s' : Nat → Int32} (h : SI s) (e : ∀ k, k < 2947 → s' k = s k) : SI s' := by
  obtain ⟨⟨t1, t2, t3⟩, h2, h3, h4, h5⟩ := h
  have e1 := e 1 (by decide)
  refine ⟨⟨by rw [nX_same e1]; exact t1, by rw [nX_same e1, e1]; exact t2, fun t ht => ?_⟩, h2.same (fun c hc => e _ (by omega)), h3.same (fun c hc => e _ (by omega)), h4.same (fun c hc => e _ (by omega)), h5.same (e 0 (by decide)) (fun j _ _ => e _ (by omega))⟩
  rw [nX_same e1] at ht
  exact (t3 t ht).same (fun j hj => e _ (by omega))
theorem Isl.low {B : Nat} {μ : Memo} {s s' : Nat → Int32} (h : Isl B μ s) (hH : nH s ≤ 8) (e : ∀ k, k < 2947 → s' k = s k) : Isl B μ s' := by
  obtain ⟨h1, h2, h3, h4⟩ := h
  refine ⟨fun c hc => ?_, fun k hk => ?_, fun q hq => ?_, ?_⟩
  · rw [e _ (by omega), e _ (by omega), e _ (by omega), e _ (by omega)]; exact h1 c hc
  · rw [e _ (by omega)]; exact h2 k hk
  · rw [nH_same (e 0 (by decide))] at hq
    rw [e _ (by omega), e _ (by omega)]; exact h3 q hq
  · rw [e 0 (by decide), e 2 (by decide), e 3 (by decide), e 4 (by decide), e 1 (by decide)]; exact h4
theorem Txr.less {μ : Memo} {s s' : Nat → Int32} (h : Txr μ s) (hT : TxtsOK s) (hn : nX s' ≤ nX s) (e : ∀ t, t < nX s' → ∀ j, j < 200 → s' (147 + 200 * t + j) = s (147 + 200 * t + j)) : Txr μ s' := by
  intro t ht
  obtain ⟨h1, h2, h3, h4⟩ := h t (by omega)
  have h96 := (hT.2.2 t (by omega)).1
  have e3 := e t ht
  refine ⟨by rw [show s' (147 + 200 * t) = s (147 + 200 * t) from e3 0 (by decide)]; exact h1, by rw [e3 1 (by decide)]; exact h2, by rw [e3 2 (by decide)]; exact h3, fun k hk => ?_⟩
  rw [nSt_same e3] at hk
  rw [show s' (147 + 200 * t) = s (147 + 200 * t) from e3 0 (by decide), tW_same e3 (by omega), tV_same e3 (by omega)]
  exact h4 k hk
section CG
variable {V : VV} {d : Nat} {M : Mthd} {pc : Nat} {ls : List (Option AVal)} {st : List AVal} {μ : Memo} {Q : Option AVal → Memo → Prop}
theorem Go.copyG {idx o0 o1 n0 n1 : Nat} (k : Nat) (hd : decode M.2.1 pc = .ok (.invokestatic idx, 3)) (hw : Cond.methodLink M.1.cls idx arraycopyName ∈ T0) (hl0 : alen o0 = some n0) (hl1 : alen o1 = some n1) (h0 : k ≤ n0) (h1 : k ≤ n1) (hst : st.length ≤ 4)
    (kk : ∀ μ', (∀ j, j < k → μ' o1 j = μ o0 j) → (∀ o, o ≠ o1 → μ' o = μ o) → Go V (d + 1) M (pc + 3) ls st μ' Q) : Go V (d + 1) M pc ls (vI (nI k) :: vI (nI 0) :: vR o1 :: vI (nI 0) :: vR o0 :: st) μ Q :=
  Go.copyi 0 0 k hd hw hl0 hl1 rfl rfl rfl (by omega) (by omega) hst (kk _ (fun j hj => by rw [mw_self, va_cpy, if_pos ⟨Nat.zero_le _, by omega⟩]; congr 1; omega) (fun o ho => mw_ne _ _ ho))
end CG
def BL (B C : Nat) (μ μ1 : Memo) : Prop := (∀ i, 1 ≤ i → i ≤ 4 → ∀ c, c < 30 → μ1 (B + i) c = μ (C + i) c) ∧ (∀ c, c < 6 → μ1 (B + 5) c = μ (C + 5) c) ∧ (∀ i, i = 6 ∨ i = 7 → ∀ c, c < 8 → μ1 (B + i) c = μ (C + i) c) ∧ (∀ k, 7 ≤ k → k ≤ 11 → μ1 B k = μ C k) ∧ Fr (FB B) μ μ1
theorem Isl.like {B C : Nat} {μ μ1 : Memo} {s : Nat → Int32} (h : Isl C μ s) (hH : nH s ≤ 8) (hb : BL B C μ μ1) : Isl B μ1 s := by
  obtain ⟨h1, h2, h3, h4⟩ := h
  obtain ⟨b1, b2, b3, b4, -⟩ := hb
  refine ⟨fun c hc => ?_, fun k hk => ?_, fun q hq => ?_, ?_⟩
  · rw [b1 1 (by decide) (by decide) c hc, b1 2 (by decide) (by decide) c hc, b1 3 (by decide) (by decide) c hc, b1 4 (by decide) (by decide) c hc]; exact h1 c hc
  · rw [b2 k hk]; exact h2 k hk
  · rw [b3 6 (by decide) q (by omega), b3 7 (by decide) q (by omega)]; exact h3 q hq
  · rw [b4 7 (by decide) (by decide), b4 8 (by decide) (by decide), b4 9 (by decide) (by decide), b4 10 (by decide) (by decide), b4 11 (by decide) (by decide)]; exact h4
/-! hours of a trial -/
def itS (s : Nat → Int32) : Nat → Nat → Int32
  | 0 => s
  | i + 1 => hourF (itS s i)
def dueD (s : Nat → Int32) (t : Nat) : Int32 := if t % 2 = 0 then szF (itS s (t / 2)) (nI 0) else acF (itS s (t / 2 + 1)) 30
theorem due_0 (s : Nat → Int32) (i : Nat) : dueD s (2 * i) = szF (itS s i) (nI 0) := by
  unfold dueD; rw [if_pos (by omega), show 2 * i / 2 = i by omega]
theorem due_1 (s : Nat → Int32) (i : Nat) : dueD s (2 * i + 1) = acF (itS s (i + 1)) 30 := by
  unfold dueD; rw [if_neg (by omega), show (2 * i + 1) / 2 = i by omega]
theorem itS_ok {s : Nat → Int32} (hT : TxtsOK s) (hH : HouOK s) : ∀ i, TS s (itS s i) ∧ TxtsOK (itS s i) ∧ HouOK (itS s i)
  | 0 => ⟨⟨rfl, fun _ _ => rfl⟩, hT, hH⟩
  | i + 1 => by
    obtain ⟨a, b, c⟩ := itS_ok hT hH i
    have := hourF_ok c
    exact ⟨a.tr this.1, b.ts this.1, this.2⟩
theorem hN_ex (s : Nat → Int32) : ∀ n, ∃ h, h ≤ n ∧ (h = n ∨ nI 9999 ≤ itS s h 2) ∧ ∀ i, i < h → ¬ nI 9999 ≤ itS s i 2
  | 0 => ⟨0, Nat.le_refl _, Or.inl rfl, fun i hi => absurd hi (by omega)⟩
  | n + 1 => by
    obtain ⟨h, h1, h2, h3⟩ := hN_ex s n
    by_cases z : nI 9999 ≤ itS s h 2
    · exact ⟨h, by omega, Or.inr z, h3⟩
    · have e : h = n := h2.resolve_right z
      subst e
      refine ⟨h + 1, Nat.le_refl _, Or.inl rfl, fun i hi => ?_⟩
      by_cases q : i = h
      · subst q; exact z
      · exact h3 i (by omega)
theorem fw_ex (P : Nat → Prop) [DecidablePred P] : ∀ n, (∀ t, t < n → P t) → ∀ m, (∀ t, n + m ≤ t → ¬ P t) → ∃ k, (∀ t, t < k → P t) ∧ ¬ P k
  | n, h, 0, hm => ⟨n, h, hm n (by omega)⟩
  | n, h, m + 1, hm => by
    by_cases z : P n
    · exact fw_ex P (n + 1) (fun t ht => by by_cases q : t = n; exact q ▸ z; exact h t (by omega)) m (fun t ht => hm t (by omega))
    · exact ⟨n, h, z⟩
def ansK (many h k : Nat) : Int32 := if k = many ∧ k = 2 * h then nI 0 else nI (k + 1)

theorem m_setAside_lp {V : VV} {d : Nat} {μ0 : Memo} {x y : Nat} (hx : alen x = some 3147) (hy : alen y = some 3147) (hne : x ≠ y) :
    ∀ (j k : Nat) (μ : Memo), k + j = 2947 → (∀ i, i < k → μ y i = μ0 x i) → (∀ i, k ≤ i → μ y i = μ0 y i) → (∀ o, o ≠ y → μ o = μ0 o) → Go V d mX9_setAside 2 [some (vR 76), some (vR x), some (vR y), some (vI (nI k))] [] μ (fun r' μ1 => r' = none ∧ (∀ i, i < 2947 → μ1 y i = μ0 x i) ∧ (∀ i, 2947 ≤ i → μ1 y i = μ0 y i) ∧ ∀ o, o ≠ y → μ1 o = μ0 o)
  | 0, k, μ, hkj, h1, h2, h3 => by
    obtain rfl : k = 2947 := by omega
    refine Go.iload_n dX9_setAside_2 rfl ?_
    refine Go.sipush (v := nI 2947) dX9_setAside_3 rfl ?_
    refine Go.icmp_ge_t (tgt := 21) dX9_setAside_6 (by decide) (by decide) ?_
    refine Go.vreturn dX9_setAside_21 rfl ?_
    exact ⟨rfl, h1, h2, h3⟩
  | j + 1, k, μ, hkj, h1, h2, h3 => by
    have hk : k < 2947 := by omega
    refine Go.iload_n dX9_setAside_2 rfl ?_
    refine Go.sipush (v := nI 2947) dX9_setAside_3 rfl ?_
    refine Go.icmp_ge_f (tgt := 21) dX9_setAside_6 (by decide) (nI_ge hk (by decide)) ?_
    refine Go.aload_n dX9_setAside_9 rfl ?_
    refine Go.iload_n dX9_setAside_10 rfl ?_
    refine Go.aload_n dX9_setAside_11 rfl ?_
    refine Go.at 12 rfl ?_
    refine Go.iload_n dX9_setAside_12 rfl ?_
    refine Go.iaload k dX9_setAside_13 hx (by omega) rfl ?_
    refine Go.topE (y := μ0 x k) (congrFun (h3 x hne) k) ?_
    refine Go.iastore k dX9_setAside_14 hy (by omega) rfl ?_
    refine Go.iinc (v := nI (k + 1)) (ls' := [some (vR 76), some (vR x), some (vR y), some (vI (nI (k + 1)))]) dX9_setAside_15 rfl (nI_add _ _) (by decide) rfl ?_
    refine Go.goto (tgt := 2) dX9_setAside_18 (by decide) ?_
    exact m_setAside_lp hx hy hne j (k + 1) _ (by omega) (fun i hi => by
      rw [ms_self]
      by_cases z : i = k
      · subst z; exact upd_self _ _ _
      · rw [upd_ne _ _ z]; exact h1 i (by omega)) (fun i hi => by rw [ms_self, upd_ne _ _ (by omega)]; exact h2 i (by omega)) (fun o ho => by rw [ms_ne _ _ _ ho]; exact h3 o ho)
theorem m_setAside {V : VV} {d : Nat} {μ : Memo} {x y : Nat} (hx : alen x = some 3147) (hy : alen y = some 3147) (hne : x ≠ y) : RetU V (d) mX9_setAside [vR 76, vR x, vR y] μ (fun μ1 => (∀ i, i < 2947 → μ1 y i = μ x i) ∧ (∀ i, 2947 ≤ i → μ1 y i = μ y i) ∧ ∀ o, o ≠ y → μ1 o = μ o) := by
  show Go V (d) mX9_setAside 0 [some (vR 76), some (vR x), some (vR y), none] [] μ _
  refine Go.iconst (v := nI 0) dX9_setAside_0 rfl ?_
  refine Go.istore_n (ls' := [some (vR 76), some (vR x), some (vR y), some (vI (nI 0))]) dX9_setAside_1 (by decide) rfl ?_
  exact m_setAside_lp hx hy hne 2947 0 _ (by omega) (fun i hi => absurd hi (by omega)) (fun _ _ => rfl) (fun _ _ => rfl)
theorem c_becomeLikeI {V : VV} {d : Nat} {μ : Memo} {B C : Nat} (hB : isB B) (hC : isB C) (hd : B + 8 ≤ C ∨ C + 8 ≤ B) : RetU V (d + 1) mX1_becomeLike [vR B, vR C] μ (fun μ1 => BL B C μ μ1) := by
  show Go V (d + 1) mX1_becomeLike 0 [some (vR B), some (vR C)] [] μ _
  refine Go.aload_n dX1_becomeLike_0 rfl ?_
  refine Go.getR dX1_becomeLike_1 flX1_9 (fBr hC 0 (by decide)) ?_
  refine Go.iconst (v := nI 0) dX1_becomeLike_4 rfl ?_
  refine Go.aload_n dX1_becomeLike_5 rfl ?_
  refine Go.getR dX1_becomeLike_6 flX1_9 (fBr hB 0 (by decide)) ?_
  refine Go.iconst (v := nI 0) dX1_becomeLike_9 rfl ?_
  refine Go.at 10 rfl ?_
  refine Go.bipush (v := nI 30) dX1_becomeLike_10 rfl ?_
  refine Go.copyG 30 dX1_becomeLike_12 acX1 (alB1 hC) (alB1 hB) (by decide) (by decide) (by exact Nat.le_of_ble_eq_true rfl) (fun μ1 e1 f1 => ?_)
  refine Go.aload_n dX1_becomeLike_15 rfl ?_
  refine Go.getR dX1_becomeLike_16 flX1_15 (fBr hC 1 (by decide)) ?_
  refine Go.iconst (v := nI 0) dX1_becomeLike_19 rfl ?_
  refine Go.aload_n dX1_becomeLike_20 rfl ?_
  refine Go.at 21 rfl ?_
  refine Go.getR dX1_becomeLike_21 flX1_15 (fBr hB 1 (by decide)) ?_
  refine Go.iconst (v := nI 0) dX1_becomeLike_24 rfl ?_
  refine Go.bipush (v := nI 30) dX1_becomeLike_25 rfl ?_
  refine Go.copyG 30 dX1_becomeLike_27 acX1 (alB2 hC) (alB2 hB) (by decide) (by decide) (by exact Nat.le_of_ble_eq_true rfl) (fun μ2 e2 f2 => ?_)
  refine Go.aload_n dX1_becomeLike_30 rfl ?_
  refine Go.getR dX1_becomeLike_31 flX1_18 (fBr hC 2 (by decide)) ?_
  refine Go.at 34 rfl ?_
  refine Go.iconst (v := nI 0) dX1_becomeLike_34 rfl ?_
  refine Go.aload_n dX1_becomeLike_35 rfl ?_
  refine Go.getR dX1_becomeLike_36 flX1_18 (fBr hB 2 (by decide)) ?_
  refine Go.iconst (v := nI 0) dX1_becomeLike_39 rfl ?_
  refine Go.bipush (v := nI 30) dX1_becomeLike_40 rfl ?_
  refine Go.copyG 30 dX1_becomeLike_42 acX1 (alB3 hC) (alB3 hB) (by decide) (by decide) (by exact Nat.le_of_ble_eq_true rfl) (fun μ3 e3 f3 => ?_)
  refine Go.at 45 rfl ?_
  refine Go.aload_n dX1_becomeLike_45 rfl ?_
  refine Go.getR dX1_becomeLike_46 flX1_21 (fBr hC 3 (by decide)) ?_
  refine Go.iconst (v := nI 0) dX1_becomeLike_49 rfl ?_
  refine Go.aload_n dX1_becomeLike_50 rfl ?_
  refine Go.getR dX1_becomeLike_51 flX1_21 (fBr hB 3 (by decide)) ?_
  refine Go.iconst (v := nI 0) dX1_becomeLike_54 rfl ?_
  refine Go.at 55 rfl ?_
  refine Go.bipush (v := nI 30) dX1_becomeLike_55 rfl ?_
  refine Go.copyG 30 dX1_becomeLike_57 acX1 (alB4 hC) (alB4 hB) (by decide) (by decide) (by exact Nat.le_of_ble_eq_true rfl) (fun μ4 e4 f4 => ?_)
  refine Go.aload_n dX1_becomeLike_60 rfl ?_
  refine Go.getR dX1_becomeLike_61 flX1_24 (fBr hC 4 (by decide)) ?_
  refine Go.iconst (v := nI 0) dX1_becomeLike_64 rfl ?_
  refine Go.aload_n dX1_becomeLike_65 rfl ?_
  refine Go.at 66 rfl ?_
  refine Go.getR dX1_becomeLike_66 flX1_24 (fBr hB 4 (by decide)) ?_
  refine Go.iconst (v := nI 0) dX1_becomeLike_69 rfl ?_
  refine Go.aload_n dX1_becomeLike_70 rfl ?_
  refine Go.getR dX1_becomeLike_71 flX1_24 (fBr hB 4 (by decide)) ?_
  refine Go.alength (n := 6) dX1_becomeLike_74 (alB5 hB) ?_
  refine Go.copyG 6 dX1_becomeLike_75 acX1 (alB5 hC) (alB5 hB) (by decide) (by decide) (by exact Nat.le_of_ble_eq_true rfl) (fun μ5 e5 f5 => ?_)
  refine Go.at 78 rfl ?_
  refine Go.aload_n dX1_becomeLike_78 rfl ?_
  refine Go.getR dX1_becomeLike_79 flX1_27 (fBr hC 5 (by decide)) ?_
  refine Go.iconst (v := nI 0) dX1_becomeLike_82 rfl ?_
  refine Go.aload_n dX1_becomeLike_83 rfl ?_
  refine Go.getR dX1_becomeLike_84 flX1_27 (fBr hB 5 (by decide)) ?_
  refine Go.iconst (v := nI 0) dX1_becomeLike_87 rfl ?_
  refine Go.at 88 rfl ?_
  refine Go.bipush (v := nI 8) dX1_becomeLike_88 rfl ?_
  refine Go.copyG 8 dX1_becomeLike_90 acX1 (alB6 hC) (alB6 hB) (by decide) (by decide) (by exact Nat.le_of_ble_eq_true rfl) (fun μ6 e6 f6 => ?_)
  refine Go.aload_n dX1_becomeLike_93 rfl ?_
  refine Go.getR dX1_becomeLike_94 flX1_30 (fBr hC 6 (by decide)) ?_
  refine Go.iconst (v := nI 0) dX1_becomeLike_97 rfl ?_
  refine Go.aload_n dX1_becomeLike_98 rfl ?_
  refine Go.at 99 rfl ?_
  refine Go.getR dX1_becomeLike_99 flX1_30 (fBr hB 6 (by decide)) ?_
  refine Go.iconst (v := nI 0) dX1_becomeLike_102 rfl ?_
  refine Go.bipush (v := nI 8) dX1_becomeLike_103 rfl ?_
  refine Go.copyG 8 dX1_becomeLike_105 acX1 (alB7 hC) (alB7 hB) (by decide) (by decide) (by exact Nat.le_of_ble_eq_true rfl) (fun μ7 e7 f7 => ?_)
  refine Go.aload_n dX1_becomeLike_108 rfl ?_
  refine Go.aload_n dX1_becomeLike_109 rfl ?_
  refine Go.at 110 rfl ?_
  refine Go.getI dX1_becomeLike_110 flX1_54 (fBi hC 7 (by decide) (by decide)) ?_
  refine Go.topE (y := μ C 7) (by simp (disch := omega) only [ms_self, ms_ne, upd_self, upd_ne, f7, f6, f5, f4, f3, f2, f1]) ?_
  refine Go.put dX1_becomeLike_113 flX1_54 (fBi hB 7 (by decide) (by decide)) rfl rfl rfl ?_
  refine Go.aload_n dX1_becomeLike_116 rfl ?_
  refine Go.aload_n dX1_becomeLike_117 rfl ?_
  refine Go.getI dX1_becomeLike_118 flX1_57 (fBi hC 8 (by decide) (by decide)) ?_
  refine Go.topE (y := μ C 8) (by simp (disch := omega) only [ms_self, ms_ne, upd_self, upd_ne, f7, f6, f5, f4, f3, f2, f1]) ?_
  refine Go.put dX1_becomeLike_121 flX1_57 (fBi hB 8 (by decide) (by decide)) rfl rfl rfl ?_
  refine Go.at 124 rfl ?_
  refine Go.aload_n dX1_becomeLike_124 rfl ?_
  refine Go.aload_n dX1_becomeLike_125 rfl ?_
  refine Go.getI dX1_becomeLike_126 flX1_60 (fBi hC 9 (by decide) (by decide)) ?_
  refine Go.topE (y := μ C 9) (by simp (disch := omega) only [ms_self, ms_ne, upd_self, upd_ne, f7, f6, f5, f4, f3, f2, f1]) ?_
  refine Go.put dX1_becomeLike_129 flX1_60 (fBi hB 9 (by decide) (by decide)) rfl rfl rfl ?_
  refine Go.aload_n dX1_becomeLike_132 rfl ?_
  refine Go.aload_n dX1_becomeLike_133 rfl ?_
  refine Go.at 134 rfl ?_
  refine Go.getI dX1_becomeLike_134 flX1_33 (fBi hC 10 (by decide) (by decide)) ?_
  refine Go.topE (y := μ C 10) (by simp (disch := omega) only [ms_self, ms_ne, upd_self, upd_ne, f7, f6, f5, f4, f3, f2, f1]) ?_
  refine Go.put dX1_becomeLike_137 flX1_33 (fBi hB 10 (by decide) (by decide)) rfl rfl rfl ?_
  refine Go.aload_n dX1_becomeLike_140 rfl ?_
  refine Go.aload_n dX1_becomeLike_141 rfl ?_
  refine Go.getI dX1_becomeLike_142 flX1_63 (fBi hC 11 (by decide) (by decide)) ?_
  refine Go.topE (y := μ C 11) (by simp (disch := omega) only [ms_self, ms_ne, upd_self, upd_ne, f7, f6, f5, f4, f3, f2, f1]) ?_
  refine Go.put dX1_becomeLike_145 flX1_63 (fBi hB 11 (by decide) (by decide)) rfl rfl rfl ?_
  refine Go.at 148 rfl ?_
  refine Go.vreturn dX1_becomeLike_148 rfl ?_
  refine ⟨rfl, fun i hi1 hi2 c hc => ?_, fun c hc => by simp (disch := omega) only [ms_self, ms_ne, upd_self, upd_ne, f7, f6, f5, f4, f3, f2, f1]; rw [e5 c hc]; simp (disch := omega) only [ms_self, ms_ne, upd_self, upd_ne, f7, f6, f5, f4, f3, f2, f1], fun i hi c hc => ?_, fun k hk1 hk2 => ?_, fun o ho => ?_⟩
  · have : i = 1 ∨ i = 2 ∨ i = 3 ∨ i = 4 := by omega
    rcases this with rfl | rfl | rfl | rfl
    · simp (disch := omega) only [ms_self, ms_ne, upd_self, upd_ne, f7, f6, f5, f4, f3, f2, f1]; rw [e1 c hc]
    · simp (disch := omega) only [ms_self, ms_ne, upd_self, upd_ne, f7, f6, f5, f4, f3, f2, f1]; rw [e2 c hc]; simp (disch := omega) only [ms_self, ms_ne, upd_self, upd_ne, f7, f6, f5, f4, f3, f2, f1]
    · simp (disch := omega) only [ms_self, ms_ne, upd_self, upd_ne, f7, f6, f5, f4, f3, f2, f1]; rw [e3 c hc]; simp (disch := omega) only [ms_self, ms_ne, upd_self, upd_ne, f7, f6, f5, f4, f3, f2, f1]
    · simp (disch := omega) only [ms_self, ms_ne, upd_self, upd_ne, f7, f6, f5, f4, f3, f2, f1]; rw [e4 c hc]; simp (disch := omega) only [ms_self, ms_ne, upd_self, upd_ne, f7, f6, f5, f4, f3, f2, f1]
  · rcases hi with rfl | rfl
    · simp (disch := omega) only [ms_self, ms_ne, upd_self, upd_ne, f7, f6, f5, f4, f3, f2, f1]; rw [e6 c hc]; simp (disch := omega) only [ms_self, ms_ne, upd_self, upd_ne, f7, f6, f5, f4, f3, f2, f1]
    · simp (disch := omega) only [ms_self, ms_ne, upd_self, upd_ne, f7, f6, f5, f4, f3, f2, f1]; rw [e7 c hc]; simp (disch := omega) only [ms_self, ms_ne, upd_self, upd_ne, f7, f6, f5, f4, f3, f2, f1]
  · have : k = 7 ∨ k = 8 ∨ k = 9 ∨ k = 10 ∨ k = 11 := by omega
    rcases this with rfl | rfl | rfl | rfl | rfl <;> simp (disch := omega) only [ms_self, ms_ne, upd_self, upd_ne, f7, f6, f5, f4, f3, f2, f1]
  · simp only [FB, List.mem_cons, List.not_mem_nil, or_false] at ho
    simp (disch := omega) only [ms_self, ms_ne, upd_self, upd_ne, f7, f6, f5, f4, f3, f2, f1]
theorem Sim.keep {μ μa μ1 μ2 : Memo} (hS : Sim μ) (hb : BL 15 7 μ μa) (e1 : μ1 = ms μa 0 10 (nI 1)) (h1 : ∀ i, i < 2947 → μ2 78 i = (ms μ1 76 3 (nI 1)) 77 i) (h3 : ∀ o, o ≠ 78 → μ2 o = (ms μ1 76 3 (nI 1)) o) : Sim μ2 := by
  have kf : ∀ o, o ≠ 78 → o ≠ 76 → o ≠ 0 → o ∉ FB 15 → μ2 o = μ o := fun o a1 a2 a3 a4 => by
    rw [h3 o a1, ms_ne _ _ _ a2, e1, ms_ne _ _ _ a3]; exact hb.2.2.2.2 o a4
  have kn : ∀ o, o ≠ 78 → o ≠ 76 → o ≠ 0 → o ≠ 1 → o ≠ 6 → (o < 15 ∨ 23 ≤ o) → μ2 o = μ o := fun o a1 a2 a3 a4 a5 a6 => kf o a1 a2 a3 (by simp only [FB, List.mem_cons, List.not_mem_nil, or_false]; omega)
  have e77 : μ2 77 = μ 77 := kn 77 (by decide) (by decide) (by decide) (by decide) (by decide) (by decide)
  have e78 : ∀ i, i < 2947 → μ2 78 i = μ 77 i := fun i hi => by
    rw [h1 i hi, ms_ne _ _ _ (by decide), e1, ms_ne _ _ _ (by decide), hb.2.2.2.2 77 (by decide)]
  have e76 : ∀ k, k ≠ 3 → μ2 76 k = μ 76 k := fun k hk => by
    rw [h3 76 (by decide), ms_self, upd_ne _ _ hk, e1, ms_ne _ _ _ (by decide), hb.2.2.2.2 76 (by decide)]
  have e0 : ∀ k, k ≠ 10 → μ2 0 k = μ 0 k := fun k hk => by
    rw [h3 0 (by decide), ms_ne _ _ _ (by decide), e1, ms_self, upd_ne _ _ hk, hb.2.2.2.2 0 (by decide)]
  obtain ⟨s1, s2, s3, s4, s5, s6, s7, s8⟩ := hS
  have h8 : nH (μ 77) ≤ 8 := s1.2.2.2.2.1
  unfold Sim
  rw [e77]
  refine ⟨s1, s2.same (fun i hi => kn _ (by omega) (by omega) (by omega) (by omega) (by omega) (by omega)), s3.same (kn 2 (by omega) (by omega) (by omega) (by omega) (by omega) (by omega)) (kn 3 (by omega) (by omega) (by omega) (by omega) (by omega) (by omega)) (kn 4 (by omega) (by omega) (by omega) (by omega) (by omega) (by omega)) (fun t ht => by have := s1.1.1; exact kn _ (by omega) (by omega) (by omega) (by omega) (by omega) (by omega)), ?_, s5.same (fun o ho => kn o (by omega) (by omega) (by omega) (by omega) (by omega) (by omega)), s6.same (fun o ho => kn o (by omega) (by omega) (by omega) (by omega) (by omega) (by omega)), s7.same (kn 31 (by omega) (by omega) (by omega) (by omega) (by omega) (by omega)) (kn 32 (by omega) (by omega) (by omega) (by omega) (by omega) (by omega)) (kn 89 (by omega) (by omega) (by omega) (by omega) (by omega) (by omega)) (e76 14 (by decide)), s8.same (e0 9 (by decide)) (kn 38 (by omega) (by omega) (by omega) (by omega) (by omega) (by omega)) (kn 93 (by omega) (by omega) (by omega) (by omega) (by omega) (by omega)) (e76 29 (by decide))⟩
  have en : nX (μ2 78) = nX (μ 77) := nX_same (e78 1 (by decide))
  refine Or.inr ⟨?_, ?_, s1.low e78, ?_, by rw [e77]; omega, fun t ht j hj => ?_⟩
  · rw [h3 0 (by decide), ms_ne _ _ _ (by decide), e1, ms_self, upd_self]
  · rw [h3 76 (by decide), ms_self, upd_self]
  · refine Isl.low (s := μ 77) ((s2.like h8 hb).same (fun i hi => ?_)) h8 e78
    rw [h3 _ (by omega), ms_ne _ _ _ (by omega), e1, ms_ne _ _ _ (by omega)]
  · rw [en] at ht
    have := s1.1.1
    rw [e77, e78 _ (by omega)]
theorem Sim.back {μ μ1 μ2 : Memo} (hS : Sim μ) (hk : μ 0 10 = nI 1) (hb : BL 7 15 μ μ1) (h1 : ∀ i, i < 2947 → μ2 77 i = μ1 78 i) (h3 : ∀ o, o ≠ 77 → μ2 o = μ1 o) : Sim μ2 := by
  have kn : ∀ o, o ≠ 77 → o ≠ 1 → o ≠ 6 → (o < 7 ∨ 15 ≤ o) → μ2 o = μ o := fun o a1 a4 a5 a6 => by
    rw [h3 o a1]; exact hb.2.2.2.2 o (by simp only [FB, List.mem_cons, List.not_mem_nil, or_false]; omega)
  have e77 : ∀ i, i < 2947 → μ2 77 i = μ 78 i := fun i hi => by rw [h1 i hi, hb.2.2.2.2 78 (by decide)]
  have e78 : μ2 78 = μ 78 := kn 78 (by decide) (by decide) (by decide) (by decide)
  obtain ⟨s1, s2, s3, s4, s5, s6, s7, s8⟩ := hS
  rcases s4 with ⟨z, -⟩ | ⟨a1, a2, a3, a4, a5, a6⟩
  · rw [z] at hk; exact absurd hk (by decide)
  have h8 : nH (μ 78) ≤ 8 := a3.2.2.2.2.1
  have en : nX (μ2 77) = nX (μ 78) := nX_same (e77 1 (by decide))
  have h14 : nX (μ 78) ≤ 14 := a3.1.1
  have er : ∀ t, t < nX (μ 78) → ∀ j, j < 200 → μ2 77 (147 + 200 * t + j) = μ 78 (147 + 200 * t + j) := fun t ht j hj => e77 _ (by omega)
  refine ⟨a3.low e77, ?_, ?_, ?_, s5.same (fun o ho => kn o (by omega) (by omega) (by omega) (by omega)), s6.same (fun o ho => kn o (by omega) (by omega) (by omega) (by omega)), s7.same (kn 31 (by omega) (by omega) (by omega) (by omega)) (kn 32 (by omega) (by omega) (by omega) (by omega)) (kn 89 (by omega) (by omega) (by omega) (by omega)) (by rw [kn 76 (by omega) (by omega) (by omega) (by omega)]), s8.same (by rw [kn 0 (by omega) (by omega) (by omega) (by omega)]) (kn 38 (by omega) (by omega) (by omega) (by omega)) (kn 93 (by omega) (by omega) (by omega) (by omega)) (by rw [kn 76 (by omega) (by omega) (by omega) (by omega)])⟩
  · refine Isl.low (s := μ 78) ((a4.like h8 hb).same (fun i hi => h3 _ (by omega))) h8 e77
  · have t1 : Txr μ (μ2 77) := s3.less s1.1 (by omega) (fun t ht j hj => by rw [er t (by omega) j hj]; exact a6 t (by omega) j hj)
    exact t1.same (kn 2 (by omega) (by omega) (by omega) (by omega)) (kn 3 (by omega) (by omega) (by omega) (by omega)) (kn 4 (by omega) (by omega) (by omega) (by omega)) (fun t ht => kn _ (by omega) (by omega) (by omega) (by omega))
  · refine Or.inr ⟨by rw [kn 0 (by omega) (by omega) (by omega) (by omega)]; exact a1, by rw [kn 76 (by omega) (by omega) (by omega) (by omega)]; exact a2, by rw [e78]; exact a3, ?_, by rw [e78, en]; exact Nat.le_refl _, fun t ht j hj => ?_⟩
    · rw [e78]; exact a4.same (fun i hi => kn _ (by omega) (by omega) (by omega) (by omega))
    · rw [e78] at ht ⊢; exact (er t ht j hj).symm
theorem op_keep {V : VV} {d : Nat} {μ : Memo} (hS : Sim μ)  : OpOK V (d + 2) mX8_keep mX9_keep [] μ := by
  obtain ⟨⟨hT, hCo, hKd, hO, hH⟩, hI, hX, hIm, hSh, hSl, hTp, hWt⟩ := id hS
  refine OpOK.of (x := μ 77 0) (P := fun μ1 => ∃ μa, BL 15 7 μ μa ∧ μ1 = ms μa 0 10 (nI 1)) ?_ (fun μ5 k5 => ?_)
  · show Go V (d + 2) mX8_keep 0 [some (vR 0)] [] μ _
    refine Go.aload_n dX8_keep_0 rfl ?_
    refine Go.getR dX8_keep_1 flX8_25 rfl ?_
    refine Go.aload_n dX8_keep_4 rfl ?_
    refine Go.getR dX8_keep_5 flX8_21 rfl ?_
    refine Go.callVu 15 [vR 7] [] dX8_keep_8 lkX8_298 (Or.inl ⟨_, _, _, rfl, rfl, rfl⟩) rfl (Nat.le_of_ble_eq_true rfl) rfl (Nat.le_of_ble_eq_true rfl) (c_becomeLikeI isB15 isB7 (by decide)) (fun μ1 k1 => ?_)
    refine Go.aload_n dX8_keep_11 rfl ?_
    refine Go.at 12 rfl ?_
    refine Go.iconst (v := nI 1) dX8_keep_12 rfl ?_
    refine Go.put dX8_keep_13 flX8_294 rfl rfl rfl rfl ?_
    refine Go.aload_n dX8_keep_16 rfl ?_
    refine Go.getR dX8_keep_17 flX8_21 rfl ?_
    refine Go.getI dX8_keep_20 flX8_166 rfl ?_
    refine Go.topE (y := μ 77 0) (by rw [ms_ne _ _ _ (by decide), k1.2.2.2.2 7 (by decide)]; exact hI.2.2.2.1) ?_
    refine Go.ireturn .int dX8_keep_23 rfl rfl ?_
    exact ⟨rfl, μ1, k1, rfl⟩
  · skip
    obtain ⟨μa, hb, e5⟩ := k5
    show Go V (d + 2) mX9_keep 0 [some (vR 76)] [] μ5 _
    refine Go.aload_n dX9_keep_0 rfl ?_
    refine Go.iconst (v := nI 1) dX9_keep_1 rfl ?_
    refine Go.put dX9_keep_2 flX9_307 rfl rfl rfl rfl ?_
    refine Go.aload_n dX9_keep_5 rfl ?_
    refine Go.aload_n dX9_keep_6 rfl ?_
    refine Go.getR dX9_keep_7 flX9_7 rfl ?_
    refine Go.at 10 rfl ?_
    refine Go.aload_n dX9_keep_10 rfl ?_
    refine Go.getR dX9_keep_11 flX9_13 rfl ?_
    refine Go.callVu 76 [vR 77, vR 78] [] dX9_keep_14 lkX9_311 (Or.inl ⟨_, _, _, rfl, rfl, rfl⟩) rfl (Nat.le_of_ble_eq_true rfl) rfl (Nat.le_of_ble_eq_true rfl) (m_setAside rfl rfl (by decide)) (fun μ1 k1 => ?_)
    refine Go.aload_n dX9_keep_17 rfl ?_
    refine Go.getR dX9_keep_18 flX9_7 rfl ?_
    refine Go.iconst (v := nI 0) dX9_keep_21 rfl ?_
    refine Go.at 22 rfl ?_
    refine Go.iaload 0 dX9_keep_22 rfl (by omega) rfl ?_
    refine Go.topE (y := μ 77 0) (by rw [k1.2.2 77 (by decide), ms_ne _ _ _ (by decide), e5, ms_ne _ _ _ (by decide), hb.2.2.2.2 77 (by decide)]) ?_
    refine Go.ireturn .int dX9_keep_23 rfl rfl ?_
    exact ⟨rfl, hS.keep hb e5 k1.1 k1.2.2⟩
theorem op_back {V : VV} {d : Nat} {μ : Memo} (hS : Sim μ)  : OpOK V (d + 2) mX8_back mX9_back [] μ := by
  obtain ⟨⟨hT, hCo, hKd, hO, hH⟩, hI, hX, hIm, hSh, hSl, hTp, hWt⟩ := id hS
  rcases id hIm with ⟨z1, z2⟩ | ⟨z1, z2, z3, z4, z5, z6⟩
  · skip
    refine OpOK.q (x := (-1000000002)) hS ?_ (fun μ5 k5 => ?_)
    · show Go V (d + 2) mX8_back 0 [some (vR 0)] [] μ _
      refine Go.aload_n dX8_back_0 rfl ?_
      refine Go.getI dX8_back_1 flX8_294 rfl ?_
      refine Go.topE (y := nI 0) z1 ?_
      refine Go.if_ne_f (tgt := 10) dX8_back_4 (by decide) (by decide) ?_
      refine Go.ldc dX8_back_7 cnX8_191 ?_
      refine Go.ireturn .int dX8_back_9 rfl rfl ?_
      exact ⟨rfl, Fr.rf _ _⟩
    · skip
      have z5 : μ5 76 3 = nI 0 := (congrFun (k5 76 (by decide)) _).trans z2
      show Go V (d + 2) mX9_back 0 [some (vR 76)] [] μ5 _
      refine Go.aload_n dX9_back_0 rfl ?_
      refine Go.getI dX9_back_1 flX9_307 rfl ?_
      refine Go.topE (y := nI 0) z5 ?_
      refine Go.if_ne_f (tgt := 10) dX9_back_4 (by decide) (by decide) ?_
      refine Go.ldc dX9_back_7 cnX9_177 ?_
      refine Go.ireturn .int dX9_back_9 rfl rfl ?_
      exact ⟨rfl, Fr.rf _ _⟩
  · skip
    refine OpOK.of (x := μ 78 0) (P := fun μ1 => BL 7 15 μ μ1) ?_ (fun μ5 k5 => ?_)
    · show Go V (d + 2) mX8_back 0 [some (vR 0)] [] μ _
      refine Go.aload_n dX8_back_0 rfl ?_
      refine Go.getI dX8_back_1 flX8_294 rfl ?_
      refine Go.topE (y := nI 1) z1 ?_
      refine Go.if_ne_t (tgt := 10) dX8_back_4 (by decide) (by decide) ?_
      refine Go.aload_n dX8_back_10 rfl ?_
      refine Go.getR dX8_back_11 flX8_21 rfl ?_
      refine Go.aload_n dX8_back_14 rfl ?_
      refine Go.at 15 rfl ?_
      refine Go.getR dX8_back_15 flX8_25 rfl ?_
      refine Go.callVu 7 [vR 15] [] dX8_back_18 lkX8_298 (Or.inl ⟨_, _, _, rfl, rfl, rfl⟩) rfl (Nat.le_of_ble_eq_true rfl) rfl (Nat.le_of_ble_eq_true rfl) (c_becomeLikeI isB7 isB15 (by decide)) (fun μ1 k1 => ?_)
      refine Go.aload_n dX8_back_21 rfl ?_
      refine Go.getR dX8_back_22 flX8_21 rfl ?_
      refine Go.getI dX8_back_25 flX8_166 rfl ?_
      refine Go.topE (y := μ 78 0) (by rw [k1.2.2.2.1 7 (by decide) (by decide)]; exact z4.2.2.2.1) ?_
      refine Go.ireturn .int dX8_back_28 rfl rfl ?_
      exact ⟨rfl, k1⟩
    · skip
      have y5 : μ5 76 3 = nI 1 := (congrFun (k5.2.2.2.2 76 (by decide)) _).trans z2
      show Go V (d + 2) mX9_back 0 [some (vR 76)] [] μ5 _
      refine Go.aload_n dX9_back_0 rfl ?_
      refine Go.getI dX9_back_1 flX9_307 rfl ?_
      refine Go.topE (y := nI 1) y5 ?_
      refine Go.if_ne_t (tgt := 10) dX9_back_4 (by decide) (by decide) ?_
      refine Go.aload_n dX9_back_10 rfl ?_
      refine Go.aload_n dX9_back_11 rfl ?_
      refine Go.getR dX9_back_12 flX9_13 rfl ?_
      refine Go.at 15 rfl ?_
      refine Go.aload_n dX9_back_15 rfl ?_
      refine Go.getR dX9_back_16 flX9_7 rfl ?_
      refine Go.callVu 76 [vR 78, vR 77] [] dX9_back_19 lkX9_311 (Or.inl ⟨_, _, _, rfl, rfl, rfl⟩) rfl (Nat.le_of_ble_eq_true rfl) rfl (Nat.le_of_ble_eq_true rfl) (m_setAside rfl rfl (by decide)) (fun μ1 k1 => ?_)
      refine Go.aload_n dX9_back_22 rfl ?_
      refine Go.getR dX9_back_23 flX9_7 rfl ?_
      refine Go.iconst (v := nI 0) dX9_back_26 rfl ?_
      refine Go.at 27 rfl ?_
      refine Go.iaload 0 dX9_back_27 rfl (by omega) rfl ?_
      refine Go.topE (y := μ 78 0) (by rw [k1.1 0 (by decide), k5.2.2.2.2 78 (by decide)]) ?_
      refine Go.ireturn .int dX9_back_28 rfl rfl ?_
      exact ⟨rfl, hS.back z1 k5 k1.1 k1.2.2⟩
