/-! ===== the tape's words and signs ===== -/
def srt (N : Nat) (B : Nat → Nat) (j : Nat) : Nat := if j < N then (if B j = 32 then 1 else if 97 ≤ B j ∧ B j ≤ 122 then 2 else if 48 ≤ B j ∧ B j ≤ 57 then 3 else 4) else 0
def bgF (N : Nat) (B : Nat → Nat) : Nat → Nat → Nat
  | 0, p => p
  | j + 1, p => if srt N B p = 1 then bgF N B j (p + 1) else p
def bg (N : Nat) (B : Nat → Nat) (p : Nat) : Nat := bgF N B 96 p
def enF (N : Nat) (B : Nat → Nat) (σ : Nat) : Nat → Nat → Nat
  | 0, e => e
  | j + 1, e => if srt N B e = σ then enF N B σ j (e + 1) else e
def en (N : Nat) (B : Nat → Nat) (b : Nat) : Nat := if b < N then (if srt N B b = 4 then b + 1 else enF N B (srt N B b) 96 b) else b
def TpC (μ : Memo) (N : Nat) (B : Nat → Nat) : Prop := N ≤ 96 ∧ μ 31 0 = nI N ∧ ∀ j, j < N → μ 32 j = nI (B j) ∧ B j < 256
def TpM (μ : Memo) (N : Nat) (B : Nat → Nat) : Prop := N ≤ 96 ∧ μ 76 14 = nI N ∧ ∀ j, j < N → μ 89 j = nI (B j) ∧ B j < 256
theorem srt_N {N : Nat} {B : Nat → Nat} {j : Nat} (h : N ≤ j) : srt N B j = 0 := if_neg (by omega)
theorem srt_le {N : Nat} {B : Nat → Nat} (j : Nat) : srt N B j ≤ 4 := by
  unfold srt; repeat' split
  all_goals omega
theorem srt_pos {N : Nat} {B : Nat → Nat} {j : Nat} (h : srt N B j ≠ 0) : j < N := by
  by_cases z : j < N
  · exact z
  · exact absurd (srt_N (by omega)) h
theorem bgF_ge {N : Nat} {B : Nat → Nat} : ∀ (j p : Nat), p ≤ bgF N B j p
  | 0, p => Nat.le_refl _
  | j + 1, p => by
    rw [bgF]; split
    · have := bgF_ge (N := N) (B := B) j (p + 1); omega
    · exact Nat.le_refl _
theorem bgF_le {N : Nat} {B : Nat → Nat} : ∀ (j p : Nat), p ≤ N → bgF N B j p ≤ N
  | 0, p, h => h
  | j + 1, p, h => by
    rw [bgF]; split
    · rename_i h1
      exact bgF_le j (p + 1) (by have := srt_pos (N := N) (B := B) (j := p) (by omega); omega)
    · exact h
theorem bgF_no {N : Nat} {B : Nat → Nat} : ∀ (j p : Nat), N ≤ p + j → srt N B (bgF N B j p) ≠ 1
  | 0, p, h => by rw [bgF, srt_N (by omega)]; decide
  | j + 1, p, h => by
    rw [bgF]; split
    · exact bgF_no j (p + 1) (by omega)
    · assumption
theorem bg_ge {N : Nat} {B : Nat → Nat} (p : Nat) : p ≤ bg N B p := bgF_ge _ _
theorem bg_le {N : Nat} {B : Nat → Nat} {p : Nat} (h : p ≤ N) : bg N B p ≤ N := bgF_le _ _ h
theorem bg_no {N : Nat} {B : Nat → Nat} (hN : N ≤ 96) (p : Nat) : srt N B (bg N B p) ≠ 1 := bgF_no _ _ (by omega)
theorem bgF_bl {N : Nat} {B : Nat → Nat} : ∀ (j p q : Nat), p ≤ q → q < bgF N B j p → srt N B q = 1
  | 0, p, q, h1, h2 => absurd h2 (by rw [bgF]; omega)
  | j + 1, p, q, h1, h2 => by
    rw [bgF] at h2
    split at h2
    · by_cases z : q = p
      · subst z; assumption
      · exact bgF_bl j (p + 1) q (by omega) h2
    · omega
theorem enF_ge {N : Nat} {B : Nat → Nat} {σ : Nat} : ∀ (j p : Nat), p ≤ enF N B σ j p
  | 0, p => Nat.le_refl _
  | j + 1, p => by
    rw [enF]; split
    · have := enF_ge (N := N) (B := B) (σ := σ) j (p + 1); omega
    · exact Nat.le_refl _
theorem enF_le {N : Nat} {B : Nat → Nat} {σ : Nat} (hσ : σ ≠ 0) : ∀ (j p : Nat), p ≤ N → enF N B σ j p ≤ N
  | 0, p, h => h
  | j + 1, p, h => by
    rw [enF]; split
    · rename_i h1
      exact enF_le hσ j (p + 1) (by have := srt_pos (N := N) (B := B) (j := p) (by omega); omega)
    · exact h
theorem enF_in {N : Nat} {B : Nat → Nat} {σ : Nat} : ∀ (j p q : Nat), p ≤ q → q < enF N B σ j p → srt N B q = σ
  | 0, p, q, h1, h2 => absurd h2 (by rw [enF]; omega)
  | j + 1, p, q, h1, h2 => by
    rw [enF] at h2
    split at h2
    · by_cases z : q = p
      · subst z; assumption
      · exact enF_in j (p + 1) q (by omega) h2
    · omega
theorem enF_no {N : Nat} {B : Nat → Nat} {σ : Nat} (hσ : σ ≠ 0) : ∀ (j p : Nat), N ≤ p + j → srt N B (enF N B σ j p) ≠ σ
  | 0, p, h => by rw [enF, srt_N (by omega)]; omega
  | j + 1, p, h => by
    rw [enF]; split
    · exact enF_no hσ j (p + 1) (by omega)
    · assumption
theorem en_gt {N : Nat} {B : Nat → Nat} {b : Nat} (h : b < N) : b < en N B b := by
  unfold en
  rw [if_pos h]
  split
  · omega
  · rw [enF, if_pos rfl]
    have := enF_ge (N := N) (B := B) (σ := srt N B b) 95 (b + 1); omega
theorem en_le {N : Nat} {B : Nat → Nat} {b : Nat} (h : b ≤ N) : en N B b ≤ N := by
  unfold en
  split
  · rename_i h1
    split
    · omega
    · refine enF_le ?_ _ _ h
      unfold srt; rw [if_pos h1]; repeat' split
      all_goals omega
  · exact h
theorem en_N {N : Nat} {B : Nat → Nat} {b : Nat} (h : N ≤ b) : en N B b = b := if_neg (by omega)

theorem nI_inj {a b : Nat} (h : nI a = nI b) (ha : a < 256) (hb : b < 256 := by decide) : a = b := by
  rw [sI_eq, nT, nT] at h; omega
theorem c_sortAt_in {V : VV} {d : Nat} {μ : Memo} {N : Nat} {B : Nat → Nat} (hN : N ≤ 96) (hL : μ 31 0 = nI N) {j b : Nat} (hj : j < N) (hb : b < 256) (e : μ 32 j = nI b) (eB : B j = b) : Ret V d mX7_sortAt [vR 31, vI (nI j)] μ (some (vI (nI (srt N B j)))) μ := by
  show Go V d mX7_sortAt 0 [some (vR 31), some (vI (nI j)), none] [] μ _
  refine Go.iload_n dX7_sortAt_0 rfl ?_
  refine Go.if_lt_f (tgt := 12) dX7_sortAt_1 (by decide) (nI_pos (by omega)) ?_
  refine Go.iload_n dX7_sortAt_4 rfl ?_
  refine Go.aload_n dX7_sortAt_5 rfl ?_
  refine Go.getI dX7_sortAt_6 flX7_15 rfl ?_
  refine Go.topE (y := nI N) hL ?_
  refine Go.icmp_lt_t (tgt := 14) dX7_sortAt_9 (by decide) (by rw [sI_lt, nT, nT]; omega) ?_
  refine Go.at 14 rfl ?_
  refine Go.aload_n dX7_sortAt_14 rfl ?_
  refine Go.getR dX7_sortAt_15 flX7_9 rfl ?_
  refine Go.iload_n dX7_sortAt_18 rfl ?_
  refine Go.iaload j dX7_sortAt_19 rfl (by omega) rfl ?_
  refine Go.topE (y := nI b) e ?_
  refine Go.istore_n (ls' := [some (vR 31), some (vI (nI j)), some (vI (nI b))]) dX7_sortAt_20 (by decide) rfl ?_
  refine Go.iload_n dX7_sortAt_21 rfl ?_
  refine Go.at 22 rfl ?_
  refine Go.bipush (v := nI 32) dX7_sortAt_22 rfl ?_
  refine Go.icmp_ne (tgt := 29) dX7_sortAt_24 (by decide) (fun h24 => ?_) (fun h24 => ?_)
  · -- 24 taken
    refine Go.iload_n dX7_sortAt_29 rfl ?_
    refine Go.bipush (v := nI 97) dX7_sortAt_30 rfl ?_
    refine Go.icmp_lt (tgt := 43) dX7_sortAt_32 (by decide) (fun h32 => ?_) (fun h32 => ?_)
    · -- 32 taken
      refine Go.iload_n dX7_sortAt_43 rfl ?_
      refine Go.bipush (v := nI 48) dX7_sortAt_44 rfl ?_
      refine Go.icmp_lt (tgt := 59) dX7_sortAt_46 (by decide) (fun h46 => ?_) (fun h46 => ?_)
      · -- 46 taken
        refine Go.iconst (v := nI 4) dX7_sortAt_59 rfl ?_
        refine Go.ireturn .int dX7_sortAt_60 rfl rfl ?_
        refine ⟨congrArg (fun z => some (vI z)) ?_, rfl⟩
        unfold srt
        rw [if_pos hj, eB]
        first
        | (rw [if_pos (nI_inj h24 hb)]; done)
        | (simp only [sI_le, sI_lt, sI_eq, nT] at *; (repeat' split) <;> first | rfl | (exfalso; omega))
      · -- 46 not
        refine Go.iload_n dX7_sortAt_49 rfl ?_
        refine Go.bipush (v := nI 57) dX7_sortAt_50 rfl ?_
        refine Go.icmp_gt (tgt := 59) dX7_sortAt_52 (by decide) (fun h52 => ?_) (fun h52 => ?_)
        · -- 52 taken
          refine Go.iconst (v := nI 4) dX7_sortAt_59 rfl ?_
          refine Go.ireturn .int dX7_sortAt_60 rfl rfl ?_
          refine ⟨congrArg (fun z => some (vI z)) ?_, rfl⟩
          unfold srt
          rw [if_pos hj, eB]
          first
          | (rw [if_pos (nI_inj h24 hb)]; done)
          | (simp only [sI_le, sI_lt, sI_eq, nT] at *; (repeat' split) <;> first | rfl | (exfalso; omega))
        · -- 52 not
          refine Go.iconst (v := nI 3) dX7_sortAt_55 rfl ?_
          refine Go.goto (tgt := 60) dX7_sortAt_56 (by decide) ?_
          refine Go.ireturn .int dX7_sortAt_60 rfl rfl ?_
          refine ⟨congrArg (fun z => some (vI z)) ?_, rfl⟩
          unfold srt
          rw [if_pos hj, eB]
          first
          | (rw [if_pos (nI_inj h24 hb)]; done)
          | (simp only [sI_le, sI_lt, sI_eq, nT] at *; (repeat' split) <;> first | rfl | (exfalso; omega))
    · -- 32 not
      refine Go.iload_n dX7_sortAt_35 rfl ?_
      refine Go.bipush (v := nI 122) dX7_sortAt_36 rfl ?_
      refine Go.icmp_gt (tgt := 43) dX7_sortAt_38 (by decide) (fun h38 => ?_) (fun h38 => ?_)
      · -- 38 taken
        refine Go.iload_n dX7_sortAt_43 rfl ?_
        refine Go.bipush (v := nI 48) dX7_sortAt_44 rfl ?_
        refine Go.icmp_lt (tgt := 59) dX7_sortAt_46 (by decide) (fun h46 => ?_) (fun h46 => ?_)
        · -- 46 taken
          refine Go.iconst (v := nI 4) dX7_sortAt_59 rfl ?_
          refine Go.ireturn .int dX7_sortAt_60 rfl rfl ?_
          refine ⟨congrArg (fun z => some (vI z)) ?_, rfl⟩
          unfold srt
          rw [if_pos hj, eB]
          first
          | (rw [if_pos (nI_inj h24 hb)]; done)
          | (simp only [sI_le, sI_lt, sI_eq, nT] at *; (repeat' split) <;> first | rfl | (exfalso; omega))
        · -- 46 not
          refine Go.iload_n dX7_sortAt_49 rfl ?_
          refine Go.bipush (v := nI 57) dX7_sortAt_50 rfl ?_
          refine Go.icmp_gt (tgt := 59) dX7_sortAt_52 (by decide) (fun h52 => ?_) (fun h52 => ?_)
          · -- 52 taken
            refine Go.iconst (v := nI 4) dX7_sortAt_59 rfl ?_
            refine Go.ireturn .int dX7_sortAt_60 rfl rfl ?_
            refine ⟨congrArg (fun z => some (vI z)) ?_, rfl⟩
            unfold srt
            rw [if_pos hj, eB]
            first
            | (rw [if_pos (nI_inj h24 hb)]; done)
            | (simp only [sI_le, sI_lt, sI_eq, nT] at *; (repeat' split) <;> first | rfl | (exfalso; omega))
          · -- 52 not
            refine Go.iconst (v := nI 3) dX7_sortAt_55 rfl ?_
            refine Go.goto (tgt := 60) dX7_sortAt_56 (by decide) ?_
            refine Go.ireturn .int dX7_sortAt_60 rfl rfl ?_
            refine ⟨congrArg (fun z => some (vI z)) ?_, rfl⟩
            unfold srt
            rw [if_pos hj, eB]
            first
            | (rw [if_pos (nI_inj h24 hb)]; done)
            | (simp only [sI_le, sI_lt, sI_eq, nT] at *; (repeat' split) <;> first | rfl | (exfalso; omega))
      · -- 38 not
        refine Go.iconst (v := nI 2) dX7_sortAt_41 rfl ?_
        refine Go.ireturn .int dX7_sortAt_42 rfl rfl ?_
        refine ⟨congrArg (fun z => some (vI z)) ?_, rfl⟩
        unfold srt
        rw [if_pos hj, eB]
        first
        | (rw [if_pos (nI_inj h24 hb)]; done)
        | (simp only [sI_le, sI_lt, sI_eq, nT] at *; (repeat' split) <;> first | rfl | (exfalso; omega))
  · -- 24 not
    refine Go.iconst (v := nI 1) dX7_sortAt_27 rfl ?_
    refine Go.ireturn .int dX7_sortAt_28 rfl rfl ?_
    refine ⟨congrArg (fun z => some (vI z)) ?_, rfl⟩
    unfold srt
    rw [if_pos hj, eB]
    first
    | (rw [if_pos (nI_inj h24 hb)]; done)
    | (simp only [sI_le, sI_lt, sI_eq, nT] at *; (repeat' split) <;> first | rfl | (exfalso; omega))
theorem c_sortAt_out {V : VV} {d : Nat} {μ : Memo} {N : Nat} {B : Nat → Nat} (hN : N ≤ 96) (hL : μ 31 0 = nI N) {j : Nat} (hj : N ≤ j) (hj2 : j < 1000) : Ret V (d) mX7_sortAt [vR 31, vI (nI j)] μ (some (vI (nI (srt N B j)))) μ := by
  show Go V (d) mX7_sortAt 0 [some (vR 31), some (vI (nI j)), none] [] μ _
  refine Go.iload_n dX7_sortAt_0 rfl ?_
  refine Go.if_lt_f (tgt := 12) dX7_sortAt_1 (by decide) (nI_pos (by omega)) ?_
  refine Go.iload_n dX7_sortAt_4 rfl ?_
  refine Go.aload_n dX7_sortAt_5 rfl ?_
  refine Go.getI dX7_sortAt_6 flX7_15 rfl ?_
  refine Go.topE (y := nI N) hL ?_
  refine Go.icmp_lt_f (tgt := 14) dX7_sortAt_9 (by decide) (by rw [sI_lt, nT, nT]; omega) ?_
  refine Go.at 12 rfl ?_
  refine Go.iconst (v := nI 0) dX7_sortAt_12 rfl ?_
  refine Go.ireturn .int dX7_sortAt_13 rfl rfl ?_
  exact ⟨by rw [srt_N hj], rfl⟩
theorem c_sortAt {V : VV} {d : Nat} {μ : Memo} {N : Nat} {B : Nat → Nat} (hT : TpC μ N B) (j : Nat) (hj2 : j < 1000) : Ret V d mX7_sortAt [vR 31, vI (nI j)] μ (some (vI (nI (srt N B j)))) μ := by
  by_cases h : j < N
  · exact c_sortAt_in hT.1 hT.2.1 h (hT.2.2 j h).2 (hT.2.2 j h).1 rfl
  · exact c_sortAt_out hT.1 hT.2.1 (by omega) hj2
theorem c_sortAt_neg {V : VV} {d : Nat} {μ : Memo} : Ret V (d) mX7_sortAt [vR 31, vI (-1)] μ (some (vI (nI 0))) μ := by
  show Go V (d) mX7_sortAt 0 [some (vR 31), some (vI (-1)), none] [] μ _
  refine Go.iload_n dX7_sortAt_0 rfl ?_
  refine Go.if_lt_t (tgt := 12) dX7_sortAt_1 (by decide) (by decide) ?_
  refine Go.iconst (v := nI 0) dX7_sortAt_12 rfl ?_
  refine Go.ireturn .int dX7_sortAt_13 rfl rfl ?_
  exact ⟨rfl, rfl⟩
theorem c_byteAt {V : VV} {d : Nat} {μ : Memo} {N : Nat} {B : Nat → Nat} (hT : TpC μ N B) (j : Nat) (hj : j < N) : Ret V (d) mX7_byteAt [vR 31, vI (nI j)] μ (some (vI (nI (B j)))) μ := by
  show Go V (d) mX7_byteAt 0 [some (vR 31), some (vI (nI j))] [] μ _
  refine Go.iload_n dX7_byteAt_0 rfl ?_
  refine Go.if_lt_f (tgt := 21) dX7_byteAt_1 (by decide) (nI_pos (by have := hT.1; omega)) ?_
  refine Go.iload_n dX7_byteAt_4 rfl ?_
  refine Go.aload_n dX7_byteAt_5 rfl ?_
  refine Go.getI dX7_byteAt_6 flX7_15 rfl ?_
  refine Go.topE (y := nI N) hT.2.1 ?_
  refine Go.icmp_ge_f (tgt := 21) dX7_byteAt_9 (by decide) (nI_ge hj (by have := hT.1; omega)) ?_
  refine Go.at 12 rfl ?_
  refine Go.aload_n dX7_byteAt_12 rfl ?_
  refine Go.getR dX7_byteAt_13 flX7_9 rfl ?_
  refine Go.iload_n dX7_byteAt_16 rfl ?_
  refine Go.iaload j dX7_byteAt_17 rfl (by have := hT.1; omega) rfl ?_
  refine Go.topE (y := nI (B j)) (hT.2.2 j hj).1 ?_
  refine Go.goto (tgt := 22) dX7_byteAt_18 (by decide) ?_
  refine Go.ireturn .int dX7_byteAt_22 rfl rfl ?_
  exact ⟨rfl, rfl⟩
def Rd (μ0 μ : Memo) (a b : Nat) : Prop := μ 33 5 = nI a ∧ μ 33 6 = nI b ∧ (∀ k, k ≠ 5 → k ≠ 6 → μ 33 k = μ0 33 k) ∧ ∀ o, o ≠ 33 → μ o = μ0 o
theorem TpC.rd {μ0 μ : Memo} {N : Nat} {B : Nat → Nat} {a b : Nat} (h : TpC μ0 N B) (r : Rd μ0 μ a b) : TpC μ N B := ⟨h.1, by rw [r.2.2.2 31 (by decide)]; exact h.2.1, fun j hj => by rw [r.2.2.2 32 (by decide)]; exact h.2.2 j hj⟩
theorem Rd.s {μ0 μ : Memo} {a b : Nat} (r : Rd μ0 μ a b) (c : Nat) : Rd μ0 (ms μ 33 5 (nI c)) c b := ⟨by rw [ms_self, upd_self], by rw [ms_self, upd_ne _ _ (by decide)]; exact r.2.1, fun k h1 h2 => by rw [ms_self, upd_ne _ _ h1]; exact r.2.2.1 k h1 h2, fun o ho => by rw [ms_ne _ _ _ ho]; exact r.2.2.2 o ho⟩
theorem Rd.e {μ0 μ : Memo} {a b : Nat} (r : Rd μ0 μ a b) (c : Nat) : Rd μ0 (ms μ 33 6 (nI c)) a c := ⟨by rw [ms_self, upd_ne _ _ (by decide)]; exact r.1, by rw [ms_self, upd_self], fun k h1 h2 => by rw [ms_self, upd_ne _ _ h2]; exact r.2.2.1 k h1 h2, fun o ho => by rw [ms_ne _ _ _ ho]; exact r.2.2.2 o ho⟩
theorem c_goOn_1 {V : VV} {d : Nat} {μ0 : Memo} {N : Nat} {B : Nat → Nat} (hT0 : TpC μ0 N B) {q0 pe : Nat} {Q : Option AVal → Memo → Prop} (hQ : ∀ μ1, Rd μ0 μ1 pe q0 → Go V (d + 1) mX4_goOn 50 [some (vR 33), none] [] μ1 Q) :
    ∀ (j p : Nat) (μ : Memo), N ≤ p + j → p ≤ N → pe = bgF N B j p → Rd μ0 μ p q0 → Go V (d + 1) mX4_goOn 8 [some (vR 33), none] [] μ Q
  | 0, p, μ, hp, hpN, he, hr => by
    have hT := hT0.rd hr
    have hN := hT.1
    have he : p = pe := he.symm
    subst he
    refine Go.aload_n dX4_goOn_8 rfl ?_
    refine Go.getI dX4_goOn_9 flX4_34 rfl ?_
    refine Go.topE (y := nI p) hr.1 ?_
    refine Go.aload_n dX4_goOn_12 rfl ?_
    refine Go.getR dX4_goOn_13 flX4_18 rfl ?_
    refine Go.getI dX4_goOn_16 flX4_40 rfl ?_
    refine Go.topE (y := nI N) hT.2.1 ?_
    refine Go.icmp_ge_t (tgt := 50) dX4_goOn_19 (by decide) (by rw [sI_le, nT, nT]; omega) ?_
    refine Go.at 50 rfl ?_
    exact hQ _ hr
  | j + 1, p, μ, hp, hpN, he, hr => by
    have hT := hT0.rd hr
    have hN := hT.1
    rw [bgF] at he
    by_cases h1 : srt N B p = 1
    · have hpn := srt_pos (N := N) (B := B) (j := p) (by omega)
      rw [if_pos h1] at he
      refine Go.aload_n dX4_goOn_8 rfl ?_
      refine Go.getI dX4_goOn_9 flX4_34 rfl ?_
      refine Go.topE (y := nI p) hr.1 ?_
      refine Go.aload_n dX4_goOn_12 rfl ?_
      refine Go.getR dX4_goOn_13 flX4_18 rfl ?_
      refine Go.getI dX4_goOn_16 flX4_40 rfl ?_
      refine Go.topE (y := nI N) hT.2.1 ?_
      refine Go.icmp_ge_f (tgt := 50) dX4_goOn_19 (by decide) (nI_ge hpn (by omega)) ?_
      refine Go.at 22 rfl ?_
      refine Go.aload_n dX4_goOn_22 rfl ?_
      refine Go.getR dX4_goOn_23 flX4_18 rfl ?_
      refine Go.aload_n dX4_goOn_26 rfl ?_
      refine Go.getI dX4_goOn_27 flX4_34 rfl ?_
      refine Go.topE (y := nI p) hr.1 ?_
      refine Go.callVi 31 [vI (nI p)] [] dX4_goOn_30 lkX4_78 (Or.inl ⟨_, _, _, rfl, rfl, rfl⟩) rfl (Nat.le_of_ble_eq_true rfl) rfl (Nat.le_of_ble_eq_true rfl) (c_sortAt hT p (by omega)) ?_
      refine Go.iconst (v := nI 1) dX4_goOn_33 rfl ?_
      refine Go.at 34 rfl ?_
      refine Go.icmp_ne_f (tgt := 50) dX4_goOn_34 (by decide) (by rw [h1]) ?_
      refine Go.aload_n dX4_goOn_37 rfl ?_
      refine Go.dupR dX4_goOn_38 ?_
      refine Go.getI dX4_goOn_39 flX4_34 rfl ?_
      refine Go.topE (y := nI p) hr.1 ?_
      refine Go.iconst (v := nI 1) dX4_goOn_42 rfl ?_
      refine Go.iaddN dX4_goOn_43 ?_
      refine Go.at 44 rfl ?_
      refine Go.put dX4_goOn_44 flX4_34 rfl rfl rfl rfl ?_
      refine Go.goto (tgt := 8) dX4_goOn_47 (by decide) ?_
      exact c_goOn_1 hT0 hQ j (p + 1) _ (by omega) (by omega) he (hr.s _)
    · rw [if_neg h1] at he
      have he := he.symm
      subst he
      have hs4 := srt_le (N := N) (B := B) p
      refine Go.aload_n dX4_goOn_8 rfl ?_
      refine Go.getI dX4_goOn_9 flX4_34 rfl ?_
      refine Go.topE (y := nI p) hr.1 ?_
      refine Go.aload_n dX4_goOn_12 rfl ?_
      refine Go.getR dX4_goOn_13 flX4_18 rfl ?_
      refine Go.getI dX4_goOn_16 flX4_40 rfl ?_
      refine Go.topE (y := nI N) hT.2.1 ?_
      refine Go.icmp_ge (tgt := 50) dX4_goOn_19 (by decide) (fun h19 => ?_) (fun h19 => ?_)
      · -- 19 taken
        exact hQ _ hr
      · -- 19 not
        refine Go.aload_n dX4_goOn_22 rfl ?_
        refine Go.getR dX4_goOn_23 flX4_18 rfl ?_
        refine Go.aload_n dX4_goOn_26 rfl ?_
        refine Go.getI dX4_goOn_27 flX4_34 rfl ?_
        refine Go.topE (y := nI p) hr.1 ?_
        refine Go.callVi 31 [vI (nI p)] [] dX4_goOn_30 lkX4_78 (Or.inl ⟨_, _, _, rfl, rfl, rfl⟩) rfl (Nat.le_of_ble_eq_true rfl) rfl (Nat.le_of_ble_eq_true rfl) (c_sortAt hT p (by omega)) ?_
        refine Go.iconst (v := nI 1) dX4_goOn_33 rfl ?_
        refine Go.at 34 rfl ?_
        refine Go.icmp_ne_t (tgt := 50) dX4_goOn_34 (by decide) (by rw [sI_eq, nT, nT]; omega) ?_
        exact hQ _ hr
theorem c_goOn_2 {V : VV} {d : Nat} {μ0 : Memo} {N : Nat} {B : Nat → Nat} (hT0 : TpC μ0 N B) {b σ ee : Nat} (hσ : σ ≠ 0) (hσ4 : σ < 4) {Q : Option AVal → Memo → Prop} (hQ : ∀ μ1, Rd μ0 μ1 b ee → Q none μ1) :
    ∀ (j e : Nat) (μ : Memo), N ≤ e + j → e ≤ N → ee = enF N B σ j e → Rd μ0 μ b e → Go V (d + 1) mX4_goOn 70 [some (vR 33), some (vI (nI σ))] [] μ Q
  | 0, e, μ, hp, hpN, he, hr => by
    have hT := hT0.rd hr
    have hN := hT.1
    have he : e = ee := he.symm
    subst he
    refine Go.aload_n dX4_goOn_70 rfl ?_
    refine Go.getI dX4_goOn_71 flX4_75 rfl ?_
    refine Go.topE (y := nI e) hr.2.1 ?_
    refine Go.aload_n dX4_goOn_74 rfl ?_
    refine Go.getR dX4_goOn_75 flX4_18 rfl ?_
    refine Go.getI dX4_goOn_78 flX4_40 rfl ?_
    refine Go.topE (y := nI N) hT.2.1 ?_
    refine Go.icmp_ge_t (tgt := 128) dX4_goOn_81 (by decide) (by rw [sI_le, nT, nT]; omega) ?_
    refine Go.at 128 rfl ?_
    refine Go.vreturn dX4_goOn_128 rfl ?_
    exact hQ _ hr
  | j + 1, e, μ, hp, hpN, he, hr => by
    have hT := hT0.rd hr
    have hN := hT.1
    rw [enF] at he
    by_cases h1 : srt N B e = σ
    · have hpn := srt_pos (N := N) (B := B) (j := e) (by omega)
      rw [if_pos h1] at he
      refine Go.aload_n dX4_goOn_70 rfl ?_
      refine Go.getI dX4_goOn_71 flX4_75 rfl ?_
      refine Go.topE (y := nI e) hr.2.1 ?_
      refine Go.aload_n dX4_goOn_74 rfl ?_
      refine Go.getR dX4_goOn_75 flX4_18 rfl ?_
      refine Go.getI dX4_goOn_78 flX4_40 rfl ?_
      refine Go.topE (y := nI N) hT.2.1 ?_
      refine Go.icmp_ge_f (tgt := 128) dX4_goOn_81 (by decide) (nI_ge hpn (by omega)) ?_
      refine Go.at 84 rfl ?_
      refine Go.aload_n dX4_goOn_84 rfl ?_
      refine Go.getR dX4_goOn_85 flX4_18 rfl ?_
      refine Go.aload_n dX4_goOn_88 rfl ?_
      refine Go.getI dX4_goOn_89 flX4_75 rfl ?_
      refine Go.topE (y := nI e) hr.2.1 ?_
      refine Go.callVi 31 [vI (nI e)] [] dX4_goOn_92 lkX4_78 (Or.inl ⟨_, _, _, rfl, rfl, rfl⟩) rfl (Nat.le_of_ble_eq_true rfl) rfl (Nat.le_of_ble_eq_true rfl) (c_sortAt hT e (by omega)) ?_
      refine Go.iload_n dX4_goOn_95 rfl ?_
      refine Go.at 96 rfl ?_
      refine Go.icmp_ne_f (tgt := 128) dX4_goOn_96 (by decide) (by rw [h1]) ?_
      refine Go.iload_n dX4_goOn_99 rfl ?_
      refine Go.iconst (v := nI 4) dX4_goOn_100 rfl ?_
      refine Go.icmp_ne_t (tgt := 115) dX4_goOn_101 (by decide) (by rw [sI_eq, nT, nT]; omega) ?_
      refine Go.aload_n dX4_goOn_115 rfl ?_
      refine Go.dupR dX4_goOn_116 ?_
      refine Go.at 117 rfl ?_
      refine Go.getI dX4_goOn_117 flX4_75 rfl ?_
      refine Go.topE (y := nI e) hr.2.1 ?_
      refine Go.iconst (v := nI 1) dX4_goOn_120 rfl ?_
      refine Go.iaddN dX4_goOn_121 ?_
      refine Go.put dX4_goOn_122 flX4_75 rfl rfl rfl rfl ?_
      refine Go.goto (tgt := 70) dX4_goOn_125 (by decide) ?_
      exact c_goOn_2 hT0 hσ hσ4 hQ j (e + 1) _ (by omega) (by omega) he (hr.e _)
    · rw [if_neg h1] at he
      have he := he.symm
      subst he
      have hs4 := srt_le (N := N) (B := B) e
      refine Go.aload_n dX4_goOn_70 rfl ?_
      refine Go.getI dX4_goOn_71 flX4_75 rfl ?_
      refine Go.topE (y := nI e) hr.2.1 ?_
      refine Go.aload_n dX4_goOn_74 rfl ?_
      refine Go.getR dX4_goOn_75 flX4_18 rfl ?_
      refine Go.getI dX4_goOn_78 flX4_40 rfl ?_
      refine Go.topE (y := nI N) hT.2.1 ?_
      refine Go.icmp_ge (tgt := 128) dX4_goOn_81 (by decide) (fun h81 => ?_) (fun h81 => ?_)
      · -- 81 taken
        refine Go.vreturn dX4_goOn_128 rfl ?_
        exact hQ _ hr
      · -- 81 not
        refine Go.aload_n dX4_goOn_84 rfl ?_
        refine Go.getR dX4_goOn_85 flX4_18 rfl ?_
        refine Go.aload_n dX4_goOn_88 rfl ?_
        refine Go.getI dX4_goOn_89 flX4_75 rfl ?_
        refine Go.topE (y := nI e) hr.2.1 ?_
        refine Go.callVi 31 [vI (nI e)] [] dX4_goOn_92 lkX4_78 (Or.inl ⟨_, _, _, rfl, rfl, rfl⟩) rfl (Nat.le_of_ble_eq_true rfl) rfl (Nat.le_of_ble_eq_true rfl) (c_sortAt hT e (by omega)) ?_
        refine Go.iload_n dX4_goOn_95 rfl ?_
        refine Go.at 96 rfl ?_
        refine Go.icmp_ne_t (tgt := 128) dX4_goOn_96 (by decide) (by rw [sI_eq, nT, nT]; omega) ?_
        refine Go.vreturn dX4_goOn_128 rfl ?_
        exact hQ _ hr
theorem c_goOn {V : VV} {d : Nat} {μ : Memo} {N : Nat} {B : Nat → Nat} (hT : TpC μ N B) {p : Nat} (hp : p ≤ N) (he : μ 33 6 = nI p) : RetU V (d + 1) mX4_goOn [vR 33] μ (fun μ1 => Rd μ μ1 (bg N B p) (en N B (bg N B p))) := by
  show Go V (d + 1) mX4_goOn 0 [some (vR 33), none] [] μ _
  have hN := hT.1
  have hb := bg_le (N := N) (B := B) hp
  have hno := bg_no (B := B) hN p
  have r0 : Rd μ (ms μ 33 5 (nI p)) p p := ⟨by rw [ms_self, upd_self], by rw [ms_self, upd_ne _ _ (by decide)]; exact he, fun k h1 h2 => by rw [ms_self, upd_ne _ _ h1], fun o ho => ms_ne _ _ _ ho⟩
  refine Go.aload_n dX4_goOn_0 rfl ?_
  refine Go.aload_n dX4_goOn_1 rfl ?_
  refine Go.getI dX4_goOn_2 flX4_75 rfl ?_
  refine Go.topE (y := nI p) he ?_
  refine Go.put dX4_goOn_5 flX4_34 rfl rfl rfl rfl ?_
  refine c_goOn_1 hT (q0 := p) (pe := bg N B p) (fun μ1 r1 => ?_) 96 p _ (by omega) hp rfl r0
  refine Go.aload_n dX4_goOn_50 rfl ?_
  refine Go.aload_n dX4_goOn_51 rfl ?_
  refine Go.getI dX4_goOn_52 flX4_34 rfl ?_
  refine Go.topE (y := nI (bg N B p)) r1.1 ?_
  refine Go.put dX4_goOn_55 flX4_75 rfl rfl rfl rfl ?_
  have r2 := r1.e (bg N B p)
  have hT2 := hT.rd r2
  refine Go.aload_n dX4_goOn_58 rfl ?_
  refine Go.getR dX4_goOn_59 flX4_18 rfl ?_
  refine Go.at 62 rfl ?_
  refine Go.aload_n dX4_goOn_62 rfl ?_
  refine Go.getI dX4_goOn_63 flX4_34 rfl ?_
  refine Go.topE (y := nI (bg N B p)) r2.1 ?_
  refine Go.callVi 31 [vI (nI (bg N B p))] [] dX4_goOn_66 lkX4_78 (Or.inl ⟨_, _, _, rfl, rfl, rfl⟩) rfl (Nat.le_of_ble_eq_true rfl) rfl (Nat.le_of_ble_eq_true rfl) (c_sortAt hT2 (bg N B p) (by omega)) ?_
  refine Go.istore_n (ls' := [some (vR 33), some (vI (nI (srt N B (bg N B p))))]) dX4_goOn_69 (by decide) rfl ?_
  generalize hσ : srt N B (bg N B p) = σ
  by_cases hz : σ = 0
  · subst hz
    have hN2 : bg N B p = N := by
      by_cases z : bg N B p < N
      · unfold srt at hσ; rw [if_pos z] at hσ; revert hσ; (repeat' split) <;> intro hσ <;> omega
      · omega
    refine Go.aload_n dX4_goOn_70 rfl ?_
    refine Go.getI dX4_goOn_71 flX4_75 rfl ?_
    refine Go.topE (y := nI (bg N B p)) r2.2.1 ?_
    refine Go.aload_n dX4_goOn_74 rfl ?_
    refine Go.getR dX4_goOn_75 flX4_18 rfl ?_
    refine Go.getI dX4_goOn_78 flX4_40 rfl ?_
    refine Go.topE (y := nI N) hT2.2.1 ?_
    refine Go.icmp_ge_t (tgt := 128) dX4_goOn_81 (by decide) (by rw [sI_le, nT, nT]; omega) ?_
    refine Go.at 128 rfl ?_
    refine Go.vreturn dX4_goOn_128 rfl ?_
    exact ⟨rfl, by rw [en_N (by omega)]; exact r2⟩
  · have hbn := srt_pos (N := N) (B := B) (j := bg N B p) (by omega)
    by_cases h4 : σ = 4
    · subst h4
      have e1 : en N B (bg N B p) = bg N B p + 1 := by unfold en; rw [if_pos hbn, if_pos hσ]
      refine Go.aload_n dX4_goOn_70 rfl ?_
      refine Go.getI dX4_goOn_71 flX4_75 rfl ?_
      refine Go.topE (y := nI (bg N B p)) r2.2.1 ?_
      refine Go.aload_n dX4_goOn_74 rfl ?_
      refine Go.getR dX4_goOn_75 flX4_18 rfl ?_
      refine Go.getI dX4_goOn_78 flX4_40 rfl ?_
      refine Go.topE (y := nI N) hT2.2.1 ?_
      refine Go.icmp_ge_f (tgt := 128) dX4_goOn_81 (by decide) (nI_ge hbn (by omega)) ?_
      refine Go.at 84 rfl ?_
      refine Go.aload_n dX4_goOn_84 rfl ?_
      refine Go.getR dX4_goOn_85 flX4_18 rfl ?_
      refine Go.aload_n dX4_goOn_88 rfl ?_
      refine Go.getI dX4_goOn_89 flX4_75 rfl ?_
      refine Go.topE (y := nI (bg N B p)) r2.2.1 ?_
      refine Go.callVi 31 [vI (nI (bg N B p))] [] dX4_goOn_92 lkX4_78 (Or.inl ⟨_, _, _, rfl, rfl, rfl⟩) rfl (Nat.le_of_ble_eq_true rfl) rfl (Nat.le_of_ble_eq_true rfl) (c_sortAt hT2 (bg N B p) (by omega)) ?_
      refine Go.topE (y := nI 4) (by rw [hσ]) ?_
      refine Go.iload_n dX4_goOn_95 rfl ?_
      refine Go.at 96 rfl ?_
      refine Go.icmp_ne_f (tgt := 128) dX4_goOn_96 (by decide) (by decide) ?_
      refine Go.iload_n dX4_goOn_99 rfl ?_
      refine Go.iconst (v := nI 4) dX4_goOn_100 rfl ?_
      refine Go.icmp_ne_f (tgt := 115) dX4_goOn_101 (by decide) (by decide) ?_
      refine Go.aload_n dX4_goOn_104 rfl ?_
      refine Go.getI dX4_goOn_105 flX4_75 rfl ?_
      refine Go.topE (y := nI (bg N B p)) r2.2.1 ?_
      refine Go.at 108 rfl ?_
      refine Go.aload_n dX4_goOn_108 rfl ?_
      refine Go.getI dX4_goOn_109 flX4_34 rfl ?_
      refine Go.topE (y := nI (bg N B p)) r2.1 ?_
      refine Go.icmp_ne_f (tgt := 128) dX4_goOn_112 (by decide) rfl ?_
      refine Go.aload_n dX4_goOn_115 rfl ?_
      refine Go.dupR dX4_goOn_116 ?_
      refine Go.getI dX4_goOn_117 flX4_75 rfl ?_
      refine Go.topE (y := nI (bg N B p)) r2.2.1 ?_
      refine Go.at 120 rfl ?_
      refine Go.iconst (v := nI 1) dX4_goOn_120 rfl ?_
      refine Go.iaddN dX4_goOn_121 ?_
      refine Go.put dX4_goOn_122 flX4_75 rfl rfl rfl rfl ?_
      refine Go.goto (tgt := 70) dX4_goOn_125 (by decide) ?_
      have r3 := r2.e (bg N B p + 1)
      have hT3 := hT.rd r3
      refine Go.aload_n dX4_goOn_70 rfl ?_
      refine Go.getI dX4_goOn_71 flX4_75 rfl ?_
      refine Go.topE (y := nI (bg N B p + 1)) r3.2.1 ?_
      refine Go.aload_n dX4_goOn_74 rfl ?_
      refine Go.getR dX4_goOn_75 flX4_18 rfl ?_
      refine Go.getI dX4_goOn_78 flX4_40 rfl ?_
      refine Go.topE (y := nI N) hT3.2.1 ?_
      refine Go.icmp_ge (tgt := 128) dX4_goOn_81 (by decide) (fun h81 => ?_) (fun h81 => ?_)
      · -- 81 taken
        refine Go.vreturn dX4_goOn_128 rfl ?_
        exact ⟨rfl, by rw [e1]; exact r3⟩
      · -- 81 not
        refine Go.aload_n dX4_goOn_84 rfl ?_
        refine Go.getR dX4_goOn_85 flX4_18 rfl ?_
        refine Go.aload_n dX4_goOn_88 rfl ?_
        refine Go.getI dX4_goOn_89 flX4_75 rfl ?_
        refine Go.topE (y := nI (bg N B p + 1)) r3.2.1 ?_
        refine Go.callVi 31 [vI (nI (bg N B p + 1))] [] dX4_goOn_92 lkX4_78 (Or.inl ⟨_, _, _, rfl, rfl, rfl⟩) rfl (Nat.le_of_ble_eq_true rfl) rfl (Nat.le_of_ble_eq_true rfl) (c_sortAt hT3 (bg N B p + 1) (by omega)) ?_
        refine Go.iload_n dX4_goOn_95 rfl ?_
        refine Go.at 96 rfl ?_
        refine Go.icmp_ne (tgt := 128) dX4_goOn_96 (by decide) (fun h96 => ?_) (fun h96 => ?_)
        · -- 96 taken
          refine Go.vreturn dX4_goOn_128 rfl ?_
          exact ⟨rfl, by rw [e1]; exact r3⟩
        · -- 96 not
          refine Go.iload_n dX4_goOn_99 rfl ?_
          refine Go.iconst (v := nI 4) dX4_goOn_100 rfl ?_
          refine Go.icmp_ne_f (tgt := 115) dX4_goOn_101 (by decide) (by decide) ?_
          refine Go.aload_n dX4_goOn_104 rfl ?_
          refine Go.getI dX4_goOn_105 flX4_75 rfl ?_
          refine Go.topE (y := nI (bg N B p + 1)) r3.2.1 ?_
          refine Go.aload_n dX4_goOn_108 rfl ?_
          refine Go.at 109 rfl ?_
          refine Go.getI dX4_goOn_109 flX4_34 rfl ?_
          refine Go.topE (y := nI (bg N B p)) r3.1 ?_
          refine Go.icmp_ne_t (tgt := 128) dX4_goOn_112 (by decide) (by rw [sI_eq, nT, nT]; omega) ?_
          refine Go.vreturn dX4_goOn_128 rfl ?_
          exact ⟨rfl, by rw [e1]; exact r3⟩
    · refine c_goOn_2 hT (b := bg N B p) (σ := σ) (ee := en N B (bg N B p)) (by omega) (by have := srt_le (N := N) (B := B) (bg N B p); omega) (fun μ3 r3 => ⟨rfl, r3⟩) 96 (bg N B p) _ (by omega) hb ?_ r2
      unfold en; rw [if_pos hbn, if_neg (by omega), hσ]
