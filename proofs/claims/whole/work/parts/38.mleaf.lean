theorem m_isSign {V : VV} {d : Nat} {μ : Memo} (c : Int32) : Ret V (d) mX9_isSign [vR 76, vI c] μ (some (vI (bI (μ 76 17 = nI 3 ∧ μ 76 19 = c)))) μ := by
  show Go V (d) mX9_isSign 0 [some (vR 76), some (vI c)] [] μ _
  refine Go.aload_n dX9_isSign_0 rfl ?_
  refine Go.getI dX9_isSign_1 flX9_199 rfl ?_
  refine Go.iconst (v := nI 3) dX9_isSign_4 rfl ?_
  refine Go.icmp_ne (tgt := 20) dX9_isSign_5 (by decide) (fun h5 => ?_) (fun h5 => ?_)
  · -- 5 taken
    refine Go.iconst (v := nI 0) dX9_isSign_20 rfl ?_
    refine Go.ireturn .boolean dX9_isSign_21 rfl rfl ?_
    exact ⟨congrArg (fun z => some (vI z)) (bI_f (fun z => by first | exact h5 z.1 | exact h13 z.2)).symm, rfl⟩
  · -- 5 not
    refine Go.aload_n dX9_isSign_8 rfl ?_
    refine Go.getI dX9_isSign_9 flX9_208 rfl ?_
    refine Go.iload_n dX9_isSign_12 rfl ?_
    refine Go.icmp_ne (tgt := 20) dX9_isSign_13 (by decide) (fun h13 => ?_) (fun h13 => ?_)
    · -- 13 taken
      refine Go.iconst (v := nI 0) dX9_isSign_20 rfl ?_
      refine Go.ireturn .boolean dX9_isSign_21 rfl rfl ?_
      exact ⟨congrArg (fun z => some (vI z)) (bI_f (fun z => by first | exact h5 z.1 | exact h13 z.2)).symm, rfl⟩
    · -- 13 not
      refine Go.iconst (v := nI 1) dX9_isSign_16 rfl ?_
      refine Go.goto (tgt := 21) dX9_isSign_17 (by decide) ?_
      refine Go.ireturn .boolean dX9_isSign_21 rfl rfl ?_
      exact ⟨congrArg (fun z => some (vI z)) (bI_t ⟨h5, h13⟩).symm, rfl⟩
theorem TkP.sgn {μ : Memo} {N : Nat} {B : Nat → Nat} {p : Nat} (h : TkP μ N B p) (hN : N ≤ 96) (hB : ∀ j, j < N → B j < 256) {c : Nat} (hc : c < 256) : (μ 76 17 = nI 3 ∧ μ 76 19 = nI c) ↔ (srt N B (bg N B p) = 4 ∧ B (bg N B p) = c) := by
  obtain ⟨h1, h2, h3, h4, h5, h6⟩ := h
  have hno := bg_no (B := B) hN p
  have hs4 := srt_le (N := N) (B := B) (bg N B p)
  constructor
  · rintro ⟨a, b⟩
    by_cases z : srt N B (bg N B p) = 4
    · obtain ⟨-, q⟩ := h6 z
      have hl := srt_pos (N := N) (B := B) (j := bg N B p) (by omega)
      exact ⟨z, nI_inj (q.symm.trans b) (hB _ hl) hc⟩
    · exfalso
      have : srt N B (bg N B p) = 0 ∨ srt N B (bg N B p) = 2 ∨ srt N B (bg N B p) = 3 := by omega
      rcases this with z | z | z
      · rw [h3 z] at a; exact absurd a (by decide)
      · rw [(h4 z).1] at a; split at a <;> exact absurd a (by decide)
      · rw [(h5 z).1] at a; split at a <;> exact absurd a (by decide)
  · rintro ⟨z, e⟩
    obtain ⟨q1, q2⟩ := h6 z
    exact ⟨q1, by rw [q2, e]⟩
theorem m_step {V : VV} {d : Nat} {μ : Memo} {L n : Nat} (hL : μ 76 23 = nI L) (hn : μ 76 22 = nI n) (hb : L + 2 * n + 1 < 3147) (w v : Int32) : Ret V (d) mX9_step [vR 76, vI w, vI v] μ none (ms (ms (ms μ 77 (L + 2 * n) w) 77 (L + 2 * n + 1) v) 76 22 (nI (n + 1))) := by
  show Go V (d) mX9_step 0 [some (vR 76), some (vI w), some (vI v)] [] μ _
  refine Go.aload_n dX9_step_0 rfl ?_
  refine Go.getR dX9_step_1 flX9_7 rfl ?_
  refine Go.aload_n dX9_step_4 rfl ?_
  refine Go.getI dX9_step_5 flX9_221 rfl ?_
  refine Go.topE (y := nI L) hL ?_
  refine Go.iconst (v := nI 2) dX9_step_8 rfl ?_
  refine Go.aload_n dX9_step_9 rfl ?_
  refine Go.at 10 rfl ?_
  refine Go.getI dX9_step_10 flX9_224 rfl ?_
  refine Go.topE (y := nI n) hn ?_
  refine Go.imulN dX9_step_13 ?_
  refine Go.iaddN dX9_step_14 ?_
  refine Go.iload_n dX9_step_15 rfl ?_
  refine Go.iastore (L + (2 * n)) dX9_step_16 rfl (by omega) rfl ?_
  refine Go.aload_n dX9_step_17 rfl ?_
  refine Go.at 18 rfl ?_
  refine Go.getR dX9_step_18 flX9_7 rfl ?_
  refine Go.aload_n dX9_step_21 rfl ?_
  refine Go.getI dX9_step_22 flX9_221 rfl ?_
  refine Go.topE (y := nI L) (by simp (disch := omega) only [ms_self, ms_ne, upd_self, upd_ne]; exact hL) ?_
  refine Go.iconst (v := nI 2) dX9_step_25 rfl ?_
  refine Go.aload_n dX9_step_26 rfl ?_
  refine Go.getI dX9_step_27 flX9_224 rfl ?_
  refine Go.topE (y := nI n) (by simp (disch := omega) only [ms_self, ms_ne, upd_self, upd_ne]; exact hn) ?_
  refine Go.at 30 rfl ?_
  refine Go.imulN dX9_step_30 ?_
  refine Go.iaddN dX9_step_31 ?_
  refine Go.iconst (v := nI 1) dX9_step_32 rfl ?_
  refine Go.iaddN dX9_step_33 ?_
  refine Go.iload_n dX9_step_34 rfl ?_
  refine Go.iastore ((L + (2 * n)) + 1) dX9_step_35 rfl (by omega) rfl ?_
  refine Go.at 36 rfl ?_
  refine Go.aload_n dX9_step_36 rfl ?_
  refine Go.dupR dX9_step_37 ?_
  refine Go.getI dX9_step_38 flX9_224 rfl ?_
  refine Go.topE (y := nI n) (by simp (disch := omega) only [ms_self, ms_ne, upd_self, upd_ne]; exact hn) ?_
  refine Go.iconst (v := nI 1) dX9_step_41 rfl ?_
  refine Go.iaddN dX9_step_42 ?_
  refine Go.put dX9_step_43 flX9_224 rfl rfl rfl rfl ?_
  refine Go.at 46 rfl ?_
  refine Go.vreturn dX9_step_46 rfl ?_
  exact ⟨rfl, rfl⟩
theorem m_isWordAt_0 {V : VV} {d : Nat} {μ : Memo} {N : Nat} {B : Nat → Nat} (hT : TpM μ N B) {b e : Nat} (hbe : b ≤ e) (heN : e ≤ N) (h15 : μ 76 15 = nI b) (h16 : μ 76 16 = nI e) (h17 : μ 76 17 = nI 1) : Ret V d mX9_isWordAt [vR 76, vI (nI 116), vI (nI 105), vI (nI 100), vI (nI 101)] μ (some (vI (bI (e = b + 4 ∧ B (b + 0) = 116 ∧ B (b + 1) = 105 ∧ B (b + 2) = 100 ∧ B (b + 3) = 101)))) μ := by
  have hN := hT.1
  show Go V d mX9_isWordAt 0 [some (vR 76), some (vI (nI 116)), some (vI (nI 105)), some (vI (nI 100)), some (vI (nI 101)), none] [] μ _
  refine Go.iload dX9_isWordAt_0 rfl ?_
  refine Go.if_ne_t (tgt := 9) dX9_isWordAt_2 (by decide) (by decide) ?_
  refine Go.iconst (v := nI 4) dX9_isWordAt_9 rfl ?_
  refine Go.istore (ls' := [some (vR 76), some (vI (nI 116)), some (vI (nI 105)), some (vI (nI 100)), some (vI (nI 101)), some (vI (nI 4))]) dX9_isWordAt_10 (by decide) rfl ?_
  refine Go.aload_n dX9_isWordAt_12 rfl ?_
  refine Go.getI dX9_isWordAt_13 flX9_199 rfl ?_
  refine Go.topE (y := nI 1) h17 ?_
  refine Go.at 16 rfl ?_
  refine Go.iconst (v := nI 1) dX9_isWordAt_16 rfl ?_
  refine Go.icmp_ne_f (tgt := 102) dX9_isWordAt_17 (by decide) (by decide) ?_
  refine Go.aload_n dX9_isWordAt_20 rfl ?_
  refine Go.getI dX9_isWordAt_21 flX9_196 rfl ?_
  refine Go.topE (y := nI e) h16 ?_
  refine Go.aload_n dX9_isWordAt_24 rfl ?_
  refine Go.getI dX9_isWordAt_25 flX9_202 rfl ?_
  refine Go.topE (y := nI b) h15 ?_
  refine Go.at 28 rfl ?_
  refine Go.isubN dX9_isWordAt_28 hbe ?_
  refine Go.iload dX9_isWordAt_29 rfl ?_
  refine Go.icmp_ne (tgt := 102) dX9_isWordAt_31 (by decide) (fun g9 => ?_) (fun g9 => ?_)
  · -- 31 taken
    refine Go.iconst (v := nI 0) dX9_isWordAt_102 rfl ?_
    refine Go.ireturn .boolean dX9_isWordAt_103 rfl rfl ?_
    exact ⟨congrArg (fun z => some (vI z)) (bI_f (fun z => by first | exact g3 (congrArg nI z.2.2.2.2) | exact g2 (congrArg nI z.2.2.2.1) | exact g1 (congrArg nI z.2.2.1) | exact g0 (congrArg nI z.2.1) | exact g9 (by rw [show e - b = 4 by omega]))).symm, rfl⟩
  · -- 31 not
    have he4 : e = b + 4 := by rw [sI_eq, nT, nT] at g9; omega
    refine Go.aload_n dX9_isWordAt_34 rfl ?_
    refine Go.getR dX9_isWordAt_35 flX9_46 rfl ?_
    refine Go.aload_n dX9_isWordAt_38 rfl ?_
    refine Go.getI dX9_isWordAt_39 flX9_202 rfl ?_
    refine Go.topE (y := nI b) h15 ?_
    refine Go.iaload b dX9_isWordAt_42 rfl (by omega) rfl ?_
    refine Go.topE (y := nI (B (b + 0))) (hT.2.2 _ (by omega)).1 ?_
    refine Go.iload_n dX9_isWordAt_43 rfl ?_
    refine Go.at 44 rfl ?_
    refine Go.icmp_ne (tgt := 102) dX9_isWordAt_44 (by decide) (fun g0 => ?_) (fun g0 => ?_)
    · -- 44 taken
      refine Go.iconst (v := nI 0) dX9_isWordAt_102 rfl ?_
      refine Go.ireturn .boolean dX9_isWordAt_103 rfl rfl ?_
      exact ⟨congrArg (fun z => some (vI z)) (bI_f (fun z => by first | exact g3 (congrArg nI z.2.2.2.2) | exact g2 (congrArg nI z.2.2.2.1) | exact g1 (congrArg nI z.2.2.1) | exact g0 (congrArg nI z.2.1) | exact g9 (by rw [show e - b = 4 by omega]))).symm, rfl⟩
    · -- 44 not
      refine Go.aload_n dX9_isWordAt_47 rfl ?_
      refine Go.getR dX9_isWordAt_48 flX9_46 rfl ?_
      refine Go.aload_n dX9_isWordAt_51 rfl ?_
      refine Go.getI dX9_isWordAt_52 flX9_202 rfl ?_
      refine Go.topE (y := nI b) h15 ?_
      refine Go.iconst (v := nI 1) dX9_isWordAt_55 rfl ?_
      refine Go.iaddN dX9_isWordAt_56 ?_
      refine Go.at 57 rfl ?_
      refine Go.iaload (b + 1) dX9_isWordAt_57 rfl (by omega) rfl ?_
      refine Go.topE (y := nI (B (b + 1))) (hT.2.2 _ (by omega)).1 ?_
      refine Go.iload_n dX9_isWordAt_58 rfl ?_
      refine Go.icmp_ne (tgt := 102) dX9_isWordAt_59 (by decide) (fun g1 => ?_) (fun g1 => ?_)
      · -- 59 taken
        refine Go.iconst (v := nI 0) dX9_isWordAt_102 rfl ?_
        refine Go.ireturn .boolean dX9_isWordAt_103 rfl rfl ?_
        exact ⟨congrArg (fun z => some (vI z)) (bI_f (fun z => by first | exact g3 (congrArg nI z.2.2.2.2) | exact g2 (congrArg nI z.2.2.2.1) | exact g1 (congrArg nI z.2.2.1) | exact g0 (congrArg nI z.2.1) | exact g9 (by rw [show e - b = 4 by omega]))).symm, rfl⟩
      · -- 59 not
        refine Go.aload_n dX9_isWordAt_62 rfl ?_
        refine Go.getR dX9_isWordAt_63 flX9_46 rfl ?_
        refine Go.aload_n dX9_isWordAt_66 rfl ?_
        refine Go.getI dX9_isWordAt_67 flX9_202 rfl ?_
        refine Go.topE (y := nI b) h15 ?_
        refine Go.iconst (v := nI 2) dX9_isWordAt_70 rfl ?_
        refine Go.iaddN dX9_isWordAt_71 ?_
        refine Go.at 72 rfl ?_
        refine Go.iaload (b + 2) dX9_isWordAt_72 rfl (by omega) rfl ?_
        refine Go.topE (y := nI (B (b + 2))) (hT.2.2 _ (by omega)).1 ?_
        refine Go.iload_n dX9_isWordAt_73 rfl ?_
        refine Go.icmp_ne (tgt := 102) dX9_isWordAt_74 (by decide) (fun g2 => ?_) (fun g2 => ?_)
        · -- 74 taken
          refine Go.iconst (v := nI 0) dX9_isWordAt_102 rfl ?_
          refine Go.ireturn .boolean dX9_isWordAt_103 rfl rfl ?_
          exact ⟨congrArg (fun z => some (vI z)) (bI_f (fun z => by first | exact g3 (congrArg nI z.2.2.2.2) | exact g2 (congrArg nI z.2.2.2.1) | exact g1 (congrArg nI z.2.2.1) | exact g0 (congrArg nI z.2.1) | exact g9 (by rw [show e - b = 4 by omega]))).symm, rfl⟩
        · -- 74 not
          refine Go.iload dX9_isWordAt_77 rfl ?_
          refine Go.if_eq_f (tgt := 98) dX9_isWordAt_79 (by decide) (by decide) ?_
          refine Go.aload_n dX9_isWordAt_82 rfl ?_
          refine Go.getR dX9_isWordAt_83 flX9_46 rfl ?_
          refine Go.aload_n dX9_isWordAt_86 rfl ?_
          refine Go.getI dX9_isWordAt_87 flX9_202 rfl ?_
          refine Go.topE (y := nI b) h15 ?_
          refine Go.at 90 rfl ?_
          refine Go.iconst (v := nI 3) dX9_isWordAt_90 rfl ?_
          refine Go.iaddN dX9_isWordAt_91 ?_
          refine Go.iaload (b + 3) dX9_isWordAt_92 rfl (by omega) rfl ?_
          refine Go.topE (y := nI (B (b + 3))) (hT.2.2 _ (by omega)).1 ?_
          refine Go.iload dX9_isWordAt_93 rfl ?_
          refine Go.icmp_ne (tgt := 102) dX9_isWordAt_95 (by decide) (fun g3 => ?_) (fun g3 => ?_)
          · -- 95 taken
            refine Go.iconst (v := nI 0) dX9_isWordAt_102 rfl ?_
            refine Go.ireturn .boolean dX9_isWordAt_103 rfl rfl ?_
            exact ⟨congrArg (fun z => some (vI z)) (bI_f (fun z => by first | exact g3 (congrArg nI z.2.2.2.2) | exact g2 (congrArg nI z.2.2.2.1) | exact g1 (congrArg nI z.2.2.1) | exact g0 (congrArg nI z.2.1) | exact g9 (by rw [show e - b = 4 by omega]))).symm, rfl⟩
          · -- 95 not
            refine Go.iconst (v := nI 1) dX9_isWordAt_98 rfl ?_
            refine Go.goto (tgt := 103) dX9_isWordAt_99 (by decide) ?_
            refine Go.ireturn .boolean dX9_isWordAt_103 rfl rfl ?_
            exact ⟨congrArg (fun z => some (vI z)) (bI_t ⟨he4, nI_inj g0 (hT.2.2 _ (by omega)).2, nI_inj g1 (hT.2.2 _ (by omega)).2, nI_inj g2 (hT.2.2 _ (by omega)).2, nI_inj g3 (hT.2.2 _ (by omega)).2⟩).symm, rfl⟩
theorem m_isWordAt_n0 {V : VV} {d : Nat} {μ : Memo} (h17 : ¬ μ 76 17 = nI 1) : Ret V d mX9_isWordAt [vR 76, vI (nI 116), vI (nI 105), vI (nI 100), vI (nI 101)] μ (some (vI (nI 0))) μ := by
  show Go V d mX9_isWordAt 0 [some (vR 76), some (vI (nI 116)), some (vI (nI 105)), some (vI (nI 100)), some (vI (nI 101)), none] [] μ _
  refine Go.iload dX9_isWordAt_0 rfl ?_
  refine Go.if_ne_t (tgt := 9) dX9_isWordAt_2 (by decide) (by decide) ?_
  refine Go.iconst (v := nI 4) dX9_isWordAt_9 rfl ?_
  refine Go.istore (ls' := [some (vR 76), some (vI (nI 116)), some (vI (nI 105)), some (vI (nI 100)), some (vI (nI 101)), some (vI (nI 4))]) dX9_isWordAt_10 (by decide) rfl ?_
  refine Go.aload_n dX9_isWordAt_12 rfl ?_
  refine Go.getI dX9_isWordAt_13 flX9_199 rfl ?_
  refine Go.at 16 rfl ?_
  refine Go.iconst (v := nI 1) dX9_isWordAt_16 rfl ?_
  refine Go.icmp_ne_t (tgt := 102) dX9_isWordAt_17 (by decide) h17 ?_
  refine Go.iconst (v := nI 0) dX9_isWordAt_102 rfl ?_
  refine Go.ireturn .boolean dX9_isWordAt_103 rfl rfl ?_
  exact ⟨rfl, rfl⟩
theorem m_isWordAt_1 {V : VV} {d : Nat} {μ : Memo} {N : Nat} {B : Nat → Nat} (hT : TpM μ N B) {b e : Nat} (hbe : b ≤ e) (heN : e ≤ N) (h15 : μ 76 15 = nI b) (h16 : μ 76 16 = nI e) (h17 : μ 76 17 = nI 1) : Ret V d mX9_isWordAt [vR 76, vI (nI 103), vI (nI 114), vI (nI 111), vI (nI 119)] μ (some (vI (bI (e = b + 4 ∧ B (b + 0) = 103 ∧ B (b + 1) = 114 ∧ B (b + 2) = 111 ∧ B (b + 3) = 119)))) μ := by
  have hN := hT.1
  show Go V d mX9_isWordAt 0 [some (vR 76), some (vI (nI 103)), some (vI (nI 114)), some (vI (nI 111)), some (vI (nI 119)), none] [] μ _
  refine Go.iload dX9_isWordAt_0 rfl ?_
  refine Go.if_ne_t (tgt := 9) dX9_isWordAt_2 (by decide) (by decide) ?_
  refine Go.iconst (v := nI 4) dX9_isWordAt_9 rfl ?_
  refine Go.istore (ls' := [some (vR 76), some (vI (nI 103)), some (vI (nI 114)), some (vI (nI 111)), some (vI (nI 119)), some (vI (nI 4))]) dX9_isWordAt_10 (by decide) rfl ?_
  refine Go.aload_n dX9_isWordAt_12 rfl ?_
  refine Go.getI dX9_isWordAt_13 flX9_199 rfl ?_
  refine Go.topE (y := nI 1) h17 ?_
  refine Go.at 16 rfl ?_
  refine Go.iconst (v := nI 1) dX9_isWordAt_16 rfl ?_
  refine Go.icmp_ne_f (tgt := 102) dX9_isWordAt_17 (by decide) (by decide) ?_
  refine Go.aload_n dX9_isWordAt_20 rfl ?_
  refine Go.getI dX9_isWordAt_21 flX9_196 rfl ?_
  refine Go.topE (y := nI e) h16 ?_
  refine Go.aload_n dX9_isWordAt_24 rfl ?_
  refine Go.getI dX9_isWordAt_25 flX9_202 rfl ?_
  refine Go.topE (y := nI b) h15 ?_
  refine Go.at 28 rfl ?_
  refine Go.isubN dX9_isWordAt_28 hbe ?_
  refine Go.iload dX9_isWordAt_29 rfl ?_
  refine Go.icmp_ne (tgt := 102) dX9_isWordAt_31 (by decide) (fun g9 => ?_) (fun g9 => ?_)
  · -- 31 taken
    refine Go.iconst (v := nI 0) dX9_isWordAt_102 rfl ?_
    refine Go.ireturn .boolean dX9_isWordAt_103 rfl rfl ?_
    exact ⟨congrArg (fun z => some (vI z)) (bI_f (fun z => by first | exact g3 (congrArg nI z.2.2.2.2) | exact g2 (congrArg nI z.2.2.2.1) | exact g1 (congrArg nI z.2.2.1) | exact g0 (congrArg nI z.2.1) | exact g9 (by rw [show e - b = 4 by omega]))).symm, rfl⟩
  · -- 31 not
    have he4 : e = b + 4 := by rw [sI_eq, nT, nT] at g9; omega
    refine Go.aload_n dX9_isWordAt_34 rfl ?_
    refine Go.getR dX9_isWordAt_35 flX9_46 rfl ?_
    refine Go.aload_n dX9_isWordAt_38 rfl ?_
    refine Go.getI dX9_isWordAt_39 flX9_202 rfl ?_
    refine Go.topE (y := nI b) h15 ?_
    refine Go.iaload b dX9_isWordAt_42 rfl (by omega) rfl ?_
    refine Go.topE (y := nI (B (b + 0))) (hT.2.2 _ (by omega)).1 ?_
    refine Go.iload_n dX9_isWordAt_43 rfl ?_
    refine Go.at 44 rfl ?_
    refine Go.icmp_ne (tgt := 102) dX9_isWordAt_44 (by decide) (fun g0 => ?_) (fun g0 => ?_)
    · -- 44 taken
      refine Go.iconst (v := nI 0) dX9_isWordAt_102 rfl ?_
      refine Go.ireturn .boolean dX9_isWordAt_103 rfl rfl ?_
      exact ⟨congrArg (fun z => some (vI z)) (bI_f (fun z => by first | exact g3 (congrArg nI z.2.2.2.2) | exact g2 (congrArg nI z.2.2.2.1) | exact g1 (congrArg nI z.2.2.1) | exact g0 (congrArg nI z.2.1) | exact g9 (by rw [show e - b = 4 by omega]))).symm, rfl⟩
    · -- 44 not
      refine Go.aload_n dX9_isWordAt_47 rfl ?_
      refine Go.getR dX9_isWordAt_48 flX9_46 rfl ?_
      refine Go.aload_n dX9_isWordAt_51 rfl ?_
      refine Go.getI dX9_isWordAt_52 flX9_202 rfl ?_
      refine Go.topE (y := nI b) h15 ?_
      refine Go.iconst (v := nI 1) dX9_isWordAt_55 rfl ?_
      refine Go.iaddN dX9_isWordAt_56 ?_
      refine Go.at 57 rfl ?_
      refine Go.iaload (b + 1) dX9_isWordAt_57 rfl (by omega) rfl ?_
      refine Go.topE (y := nI (B (b + 1))) (hT.2.2 _ (by omega)).1 ?_
      refine Go.iload_n dX9_isWordAt_58 rfl ?_
      refine Go.icmp_ne (tgt := 102) dX9_isWordAt_59 (by decide) (fun g1 => ?_) (fun g1 => ?_)
      · -- 59 taken
        refine Go.iconst (v := nI 0) dX9_isWordAt_102 rfl ?_
        refine Go.ireturn .boolean dX9_isWordAt_103 rfl rfl ?_
        exact ⟨congrArg (fun z => some (vI z)) (bI_f (fun z => by first | exact g3 (congrArg nI z.2.2.2.2) | exact g2 (congrArg nI z.2.2.2.1) | exact g1 (congrArg nI z.2.2.1) | exact g0 (congrArg nI z.2.1) | exact g9 (by rw [show e - b = 4 by omega]))).symm, rfl⟩
      · -- 59 not
        refine Go.aload_n dX9_isWordAt_62 rfl ?_
        refine Go.getR dX9_isWordAt_63 flX9_46 rfl ?_
        refine Go.aload_n dX9_isWordAt_66 rfl ?_
        refine Go.getI dX9_isWordAt_67 flX9_202 rfl ?_
        refine Go.topE (y := nI b) h15 ?_
        refine Go.iconst (v := nI 2) dX9_isWordAt_70 rfl ?_
        refine Go.iaddN dX9_isWordAt_71 ?_
        refine Go.at 72 rfl ?_
        refine Go.iaload (b + 2) dX9_isWordAt_72 rfl (by omega) rfl ?_
        refine Go.topE (y := nI (B (b + 2))) (hT.2.2 _ (by omega)).1 ?_
        refine Go.iload_n dX9_isWordAt_73 rfl ?_
        refine Go.icmp_ne (tgt := 102) dX9_isWordAt_74 (by decide) (fun g2 => ?_) (fun g2 => ?_)
        · -- 74 taken
          refine Go.iconst (v := nI 0) dX9_isWordAt_102 rfl ?_
          refine Go.ireturn .boolean dX9_isWordAt_103 rfl rfl ?_
          exact ⟨congrArg (fun z => some (vI z)) (bI_f (fun z => by first | exact g3 (congrArg nI z.2.2.2.2) | exact g2 (congrArg nI z.2.2.2.1) | exact g1 (congrArg nI z.2.2.1) | exact g0 (congrArg nI z.2.1) | exact g9 (by rw [show e - b = 4 by omega]))).symm, rfl⟩
        · -- 74 not
          refine Go.iload dX9_isWordAt_77 rfl ?_
          refine Go.if_eq_f (tgt := 98) dX9_isWordAt_79 (by decide) (by decide) ?_
          refine Go.aload_n dX9_isWordAt_82 rfl ?_
          refine Go.getR dX9_isWordAt_83 flX9_46 rfl ?_
          refine Go.aload_n dX9_isWordAt_86 rfl ?_
          refine Go.getI dX9_isWordAt_87 flX9_202 rfl ?_
          refine Go.topE (y := nI b) h15 ?_
          refine Go.at 90 rfl ?_
          refine Go.iconst (v := nI 3) dX9_isWordAt_90 rfl ?_
          refine Go.iaddN dX9_isWordAt_91 ?_
          refine Go.iaload (b + 3) dX9_isWordAt_92 rfl (by omega) rfl ?_
          refine Go.topE (y := nI (B (b + 3))) (hT.2.2 _ (by omega)).1 ?_
          refine Go.iload dX9_isWordAt_93 rfl ?_
          refine Go.icmp_ne (tgt := 102) dX9_isWordAt_95 (by decide) (fun g3 => ?_) (fun g3 => ?_)
          · -- 95 taken
            refine Go.iconst (v := nI 0) dX9_isWordAt_102 rfl ?_
            refine Go.ireturn .boolean dX9_isWordAt_103 rfl rfl ?_
            exact ⟨congrArg (fun z => some (vI z)) (bI_f (fun z => by first | exact g3 (congrArg nI z.2.2.2.2) | exact g2 (congrArg nI z.2.2.2.1) | exact g1 (congrArg nI z.2.2.1) | exact g0 (congrArg nI z.2.1) | exact g9 (by rw [show e - b = 4 by omega]))).symm, rfl⟩
          · -- 95 not
            refine Go.iconst (v := nI 1) dX9_isWordAt_98 rfl ?_
            refine Go.goto (tgt := 103) dX9_isWordAt_99 (by decide) ?_
            refine Go.ireturn .boolean dX9_isWordAt_103 rfl rfl ?_
            exact ⟨congrArg (fun z => some (vI z)) (bI_t ⟨he4, nI_inj g0 (hT.2.2 _ (by omega)).2, nI_inj g1 (hT.2.2 _ (by omega)).2, nI_inj g2 (hT.2.2 _ (by omega)).2, nI_inj g3 (hT.2.2 _ (by omega)).2⟩).symm, rfl⟩
theorem m_isWordAt_n1 {V : VV} {d : Nat} {μ : Memo} (h17 : ¬ μ 76 17 = nI 1) : Ret V d mX9_isWordAt [vR 76, vI (nI 103), vI (nI 114), vI (nI 111), vI (nI 119)] μ (some (vI (nI 0))) μ := by
  show Go V d mX9_isWordAt 0 [some (vR 76), some (vI (nI 103)), some (vI (nI 114)), some (vI (nI 111)), some (vI (nI 119)), none] [] μ _
  refine Go.iload dX9_isWordAt_0 rfl ?_
  refine Go.if_ne_t (tgt := 9) dX9_isWordAt_2 (by decide) (by decide) ?_
  refine Go.iconst (v := nI 4) dX9_isWordAt_9 rfl ?_
  refine Go.istore (ls' := [some (vR 76), some (vI (nI 103)), some (vI (nI 114)), some (vI (nI 111)), some (vI (nI 119)), some (vI (nI 4))]) dX9_isWordAt_10 (by decide) rfl ?_
  refine Go.aload_n dX9_isWordAt_12 rfl ?_
  refine Go.getI dX9_isWordAt_13 flX9_199 rfl ?_
  refine Go.at 16 rfl ?_
  refine Go.iconst (v := nI 1) dX9_isWordAt_16 rfl ?_
  refine Go.icmp_ne_t (tgt := 102) dX9_isWordAt_17 (by decide) h17 ?_
  refine Go.iconst (v := nI 0) dX9_isWordAt_102 rfl ?_
  refine Go.ireturn .boolean dX9_isWordAt_103 rfl rfl ?_
  exact ⟨rfl, rfl⟩
theorem m_isWordAt_2 {V : VV} {d : Nat} {μ : Memo} {N : Nat} {B : Nat → Nat} (hT : TpM μ N B) {b e : Nat} (hbe : b ≤ e) (heN : e ≤ N) (h15 : μ 76 15 = nI b) (h16 : μ 76 16 = nI e) (h17 : μ 76 17 = nI 1) : Ret V d mX9_isWordAt [vR 76, vI (nI 114), vI (nI 111), vI (nI 111), vI (nI 109)] μ (some (vI (bI (e = b + 4 ∧ B (b + 0) = 114 ∧ B (b + 1) = 111 ∧ B (b + 2) = 111 ∧ B (b + 3) = 109)))) μ := by
  have hN := hT.1
  show Go V d mX9_isWordAt 0 [some (vR 76), some (vI (nI 114)), some (vI (nI 111)), some (vI (nI 111)), some (vI (nI 109)), none] [] μ _
  refine Go.iload dX9_isWordAt_0 rfl ?_
  refine Go.if_ne_t (tgt := 9) dX9_isWordAt_2 (by decide) (by decide) ?_
  refine Go.iconst (v := nI 4) dX9_isWordAt_9 rfl ?_
  refine Go.istore (ls' := [some (vR 76), some (vI (nI 114)), some (vI (nI 111)), some (vI (nI 111)), some (vI (nI 109)), some (vI (nI 4))]) dX9_isWordAt_10 (by decide) rfl ?_
  refine Go.aload_n dX9_isWordAt_12 rfl ?_
  refine Go.getI dX9_isWordAt_13 flX9_199 rfl ?_
  refine Go.topE (y := nI 1) h17 ?_
  refine Go.at 16 rfl ?_
  refine Go.iconst (v := nI 1) dX9_isWordAt_16 rfl ?_
  refine Go.icmp_ne_f (tgt := 102) dX9_isWordAt_17 (by decide) (by decide) ?_
  refine Go.aload_n dX9_isWordAt_20 rfl ?_
  refine Go.getI dX9_isWordAt_21 flX9_196 rfl ?_
  refine Go.topE (y := nI e) h16 ?_
  refine Go.aload_n dX9_isWordAt_24 rfl ?_
  refine Go.getI dX9_isWordAt_25 flX9_202 rfl ?_
  refine Go.topE (y := nI b) h15 ?_
  refine Go.at 28 rfl ?_
  refine Go.isubN dX9_isWordAt_28 hbe ?_
  refine Go.iload dX9_isWordAt_29 rfl ?_
  refine Go.icmp_ne (tgt := 102) dX9_isWordAt_31 (by decide) (fun g9 => ?_) (fun g9 => ?_)
  · -- 31 taken
    refine Go.iconst (v := nI 0) dX9_isWordAt_102 rfl ?_
    refine Go.ireturn .boolean dX9_isWordAt_103 rfl rfl ?_
    exact ⟨congrArg (fun z => some (vI z)) (bI_f (fun z => by first | exact g3 (congrArg nI z.2.2.2.2) | exact g2 (congrArg nI z.2.2.2.1) | exact g1 (congrArg nI z.2.2.1) | exact g0 (congrArg nI z.2.1) | exact g9 (by rw [show e - b = 4 by omega]))).symm, rfl⟩
  · -- 31 not
    have he4 : e = b + 4 := by rw [sI_eq, nT, nT] at g9; omega
    refine Go.aload_n dX9_isWordAt_34 rfl ?_
    refine Go.getR dX9_isWordAt_35 flX9_46 rfl ?_
    refine Go.aload_n dX9_isWordAt_38 rfl ?_
    refine Go.getI dX9_isWordAt_39 flX9_202 rfl ?_
    refine Go.topE (y := nI b) h15 ?_
    refine Go.iaload b dX9_isWordAt_42 rfl (by omega) rfl ?_
    refine Go.topE (y := nI (B (b + 0))) (hT.2.2 _ (by omega)).1 ?_
    refine Go.iload_n dX9_isWordAt_43 rfl ?_
    refine Go.at 44 rfl ?_
    refine Go.icmp_ne (tgt := 102) dX9_isWordAt_44 (by decide) (fun g0 => ?_) (fun g0 => ?_)
    · -- 44 taken
      refine Go.iconst (v := nI 0) dX9_isWordAt_102 rfl ?_
      refine Go.ireturn .boolean dX9_isWordAt_103 rfl rfl ?_
      exact ⟨congrArg (fun z => some (vI z)) (bI_f (fun z => by first | exact g3 (congrArg nI z.2.2.2.2) | exact g2 (congrArg nI z.2.2.2.1) | exact g1 (congrArg nI z.2.2.1) | exact g0 (congrArg nI z.2.1) | exact g9 (by rw [show e - b = 4 by omega]))).symm, rfl⟩
    · -- 44 not
      refine Go.aload_n dX9_isWordAt_47 rfl ?_
      refine Go.getR dX9_isWordAt_48 flX9_46 rfl ?_
      refine Go.aload_n dX9_isWordAt_51 rfl ?_
      refine Go.getI dX9_isWordAt_52 flX9_202 rfl ?_
      refine Go.topE (y := nI b) h15 ?_
      refine Go.iconst (v := nI 1) dX9_isWordAt_55 rfl ?_
      refine Go.iaddN dX9_isWordAt_56 ?_
      refine Go.at 57 rfl ?_
      refine Go.iaload (b + 1) dX9_isWordAt_57 rfl (by omega) rfl ?_
      refine Go.topE (y := nI (B (b + 1))) (hT.2.2 _ (by omega)).1 ?_
      refine Go.iload_n dX9_isWordAt_58 rfl ?_
      refine Go.icmp_ne (tgt := 102) dX9_isWordAt_59 (by decide) (fun g1 => ?_) (fun g1 => ?_)
      · -- 59 taken
        refine Go.iconst (v := nI 0) dX9_isWordAt_102 rfl ?_
        refine Go.ireturn .boolean dX9_isWordAt_103 rfl rfl ?_
        exact ⟨congrArg (fun z => some (vI z)) (bI_f (fun z => by first | exact g3 (congrArg nI z.2.2.2.2) | exact g2 (congrArg nI z.2.2.2.1) | exact g1 (congrArg nI z.2.2.1) | exact g0 (congrArg nI z.2.1) | exact g9 (by rw [show e - b = 4 by omega]))).symm, rfl⟩
      · -- 59 not
        refine Go.aload_n dX9_isWordAt_62 rfl ?_
        refine Go.getR dX9_isWordAt_63 flX9_46 rfl ?_
        refine Go.aload_n dX9_isWordAt_66 rfl ?_
        refine Go.getI dX9_isWordAt_67 flX9_202 rfl ?_
        refine Go.topE (y := nI b) h15 ?_
        refine Go.iconst (v := nI 2) dX9_isWordAt_70 rfl ?_
        refine Go.iaddN dX9_isWordAt_71 ?_
        refine Go.at 72 rfl ?_
        refine Go.iaload (b + 2) dX9_isWordAt_72 rfl (by omega) rfl ?_
        refine Go.topE (y := nI (B (b + 2))) (hT.2.2 _ (by omega)).1 ?_
        refine Go.iload_n dX9_isWordAt_73 rfl ?_
        refine Go.icmp_ne (tgt := 102) dX9_isWordAt_74 (by decide) (fun g2 => ?_) (fun g2 => ?_)
        · -- 74 taken
          refine Go.iconst (v := nI 0) dX9_isWordAt_102 rfl ?_
          refine Go.ireturn .boolean dX9_isWordAt_103 rfl rfl ?_
          exact ⟨congrArg (fun z => some (vI z)) (bI_f (fun z => by first | exact g3 (congrArg nI z.2.2.2.2) | exact g2 (congrArg nI z.2.2.2.1) | exact g1 (congrArg nI z.2.2.1) | exact g0 (congrArg nI z.2.1) | exact g9 (by rw [show e - b = 4 by omega]))).symm, rfl⟩
        · -- 74 not
          refine Go.iload dX9_isWordAt_77 rfl ?_
          refine Go.if_eq_f (tgt := 98) dX9_isWordAt_79 (by decide) (by decide) ?_
          refine Go.aload_n dX9_isWordAt_82 rfl ?_
          refine Go.getR dX9_isWordAt_83 flX9_46 rfl ?_
          refine Go.aload_n dX9_isWordAt_86 rfl ?_
          refine Go.getI dX9_isWordAt_87 flX9_202 rfl ?_
          refine Go.topE (y := nI b) h15 ?_
          refine Go.at 90 rfl ?_
          refine Go.iconst (v := nI 3) dX9_isWordAt_90 rfl ?_
          refine Go.iaddN dX9_isWordAt_91 ?_
          refine Go.iaload (b + 3) dX9_isWordAt_92 rfl (by omega) rfl ?_
          refine Go.topE (y := nI (B (b + 3))) (hT.2.2 _ (by omega)).1 ?_
          refine Go.iload dX9_isWordAt_93 rfl ?_
          refine Go.icmp_ne (tgt := 102) dX9_isWordAt_95 (by decide) (fun g3 => ?_) (fun g3 => ?_)
          · -- 95 taken
            refine Go.iconst (v := nI 0) dX9_isWordAt_102 rfl ?_
            refine Go.ireturn .boolean dX9_isWordAt_103 rfl rfl ?_
            exact ⟨congrArg (fun z => some (vI z)) (bI_f (fun z => by first | exact g3 (congrArg nI z.2.2.2.2) | exact g2 (congrArg nI z.2.2.2.1) | exact g1 (congrArg nI z.2.2.1) | exact g0 (congrArg nI z.2.1) | exact g9 (by rw [show e - b = 4 by omega]))).symm, rfl⟩
          · -- 95 not
            refine Go.iconst (v := nI 1) dX9_isWordAt_98 rfl ?_
            refine Go.goto (tgt := 103) dX9_isWordAt_99 (by decide) ?_
            refine Go.ireturn .boolean dX9_isWordAt_103 rfl rfl ?_
            exact ⟨congrArg (fun z => some (vI z)) (bI_t ⟨he4, nI_inj g0 (hT.2.2 _ (by omega)).2, nI_inj g1 (hT.2.2 _ (by omega)).2, nI_inj g2 (hT.2.2 _ (by omega)).2, nI_inj g3 (hT.2.2 _ (by omega)).2⟩).symm, rfl⟩
theorem m_isWordAt_n2 {V : VV} {d : Nat} {μ : Memo} (h17 : ¬ μ 76 17 = nI 1) : Ret V d mX9_isWordAt [vR 76, vI (nI 114), vI (nI 111), vI (nI 111), vI (nI 109)] μ (some (vI (nI 0))) μ := by
  show Go V d mX9_isWordAt 0 [some (vR 76), some (vI (nI 114)), some (vI (nI 111)), some (vI (nI 111)), some (vI (nI 109)), none] [] μ _
  refine Go.iload dX9_isWordAt_0 rfl ?_
  refine Go.if_ne_t (tgt := 9) dX9_isWordAt_2 (by decide) (by decide) ?_
  refine Go.iconst (v := nI 4) dX9_isWordAt_9 rfl ?_
  refine Go.istore (ls' := [some (vR 76), some (vI (nI 114)), some (vI (nI 111)), some (vI (nI 111)), some (vI (nI 109)), some (vI (nI 4))]) dX9_isWordAt_10 (by decide) rfl ?_
  refine Go.aload_n dX9_isWordAt_12 rfl ?_
  refine Go.getI dX9_isWordAt_13 flX9_199 rfl ?_
  refine Go.at 16 rfl ?_
  refine Go.iconst (v := nI 1) dX9_isWordAt_16 rfl ?_
  refine Go.icmp_ne_t (tgt := 102) dX9_isWordAt_17 (by decide) h17 ?_
  refine Go.iconst (v := nI 0) dX9_isWordAt_102 rfl ?_
  refine Go.ireturn .boolean dX9_isWordAt_103 rfl rfl ?_
  exact ⟨rfl, rfl⟩
theorem m_key_y {V : VV} {d : Nat} {μ : Memo} {N : Nat} {B : Nat → Nat} (hT : TpM μ N B) {b e : Nat} (hbe : b ≤ e) (heN : e ≤ N) (h15 : μ 76 15 = nI b) (h16 : μ 76 16 = nI e) (h17 : μ 76 17 = nI 1) : Ret V (d + 1) mX9_key [vR 76] μ (some (vI (oI (keyW B b e)))) μ := by
  show Go V (d + 1) mX9_key 0 [some (vR 76)] [] μ _
  refine Go.aload_n dX9_key_0 rfl ?_
  refine Go.bipush (v := nI 116) dX9_key_1 rfl ?_
  refine Go.bipush (v := nI 105) dX9_key_3 rfl ?_
  refine Go.bipush (v := nI 100) dX9_key_5 rfl ?_
  refine Go.bipush (v := nI 101) dX9_key_7 rfl ?_
  refine Go.callVi 76 [vI (nI 116), vI (nI 105), vI (nI 100), vI (nI 101)] [] dX9_key_9 lkX9_217 (Or.inl ⟨_, _, _, rfl, rfl, rfl⟩) rfl (Nat.le_of_ble_eq_true rfl) rfl (Nat.le_of_ble_eq_true rfl) (m_isWordAt_0 hT hbe heN h15 h16 h17) ?_
  refine Go.at 12 rfl ?_
  refine Go.if_eqb (tgt := 17) dX9_key_12 (by decide) (fun h12 => ?_) (fun h12 => ?_)
  · -- 12 taken
    refine Go.aload_n dX9_key_17 rfl ?_
    refine Go.bipush (v := nI 103) dX9_key_18 rfl ?_
    refine Go.bipush (v := nI 114) dX9_key_20 rfl ?_
    refine Go.bipush (v := nI 111) dX9_key_22 rfl ?_
    refine Go.bipush (v := nI 119) dX9_key_24 rfl ?_
    refine Go.callVi 76 [vI (nI 103), vI (nI 114), vI (nI 111), vI (nI 119)] [] dX9_key_26 lkX9_217 (Or.inl ⟨_, _, _, rfl, rfl, rfl⟩) rfl (Nat.le_of_ble_eq_true rfl) rfl (Nat.le_of_ble_eq_true rfl) (m_isWordAt_1 hT hbe heN h15 h16 h17) ?_
    refine Go.at 29 rfl ?_
    refine Go.if_eqb (tgt := 34) dX9_key_29 (by decide) (fun h29 => ?_) (fun h29 => ?_)
    · -- 29 taken
      refine Go.aload_n dX9_key_34 rfl ?_
      refine Go.bipush (v := nI 114) dX9_key_35 rfl ?_
      refine Go.bipush (v := nI 111) dX9_key_37 rfl ?_
      refine Go.bipush (v := nI 111) dX9_key_39 rfl ?_
      refine Go.bipush (v := nI 109) dX9_key_41 rfl ?_
      refine Go.callVi 76 [vI (nI 114), vI (nI 111), vI (nI 111), vI (nI 109)] [] dX9_key_43 lkX9_217 (Or.inl ⟨_, _, _, rfl, rfl, rfl⟩) rfl (Nat.le_of_ble_eq_true rfl) rfl (Nat.le_of_ble_eq_true rfl) (m_isWordAt_2 hT hbe heN h15 h16 h17) ?_
      refine Go.at 46 rfl ?_
      refine Go.if_eqb (tgt := 53) dX9_key_46 (by decide) (fun h46 => ?_) (fun h46 => ?_)
      · -- 46 taken
        refine Go.iconst (v := (-1)) dX9_key_53 rfl ?_
        refine Go.ireturn .int dX9_key_54 rfl rfl ?_
        exact ⟨congrArg (fun z => some (vI z)) (by unfold keyW; rw [if_neg h12, if_neg h29, if_neg h46]; rfl), rfl⟩
      · -- 46 not
        refine Go.iconst (v := nI 2) dX9_key_49 rfl ?_
        refine Go.goto (tgt := 54) dX9_key_50 (by decide) ?_
        refine Go.ireturn .int dX9_key_54 rfl rfl ?_
        exact ⟨congrArg (fun z => some (vI z)) (by unfold keyW; rw [if_neg h12, if_neg h29, if_pos h46]; rfl), rfl⟩
    · -- 29 not
      refine Go.iconst (v := nI 1) dX9_key_32 rfl ?_
      refine Go.ireturn .int dX9_key_33 rfl rfl ?_
      exact ⟨congrArg (fun z => some (vI z)) (by unfold keyW; rw [if_neg h12, if_pos h29]; rfl), rfl⟩
  · -- 12 not
    refine Go.iconst (v := nI 0) dX9_key_15 rfl ?_
    refine Go.ireturn .int dX9_key_16 rfl rfl ?_
    exact ⟨congrArg (fun z => some (vI z)) (by unfold keyW; rw [if_pos h12]; rfl), rfl⟩
theorem m_key_n {V : VV} {d : Nat} {μ : Memo} (h17 : ¬ μ 76 17 = nI 1) : Ret V (d + 1) mX9_key [vR 76] μ (some (vI (-1))) μ := by
  show Go V (d + 1) mX9_key 0 [some (vR 76)] [] μ _
  refine Go.aload_n dX9_key_0 rfl ?_
  refine Go.bipush (v := nI 116) dX9_key_1 rfl ?_
  refine Go.bipush (v := nI 105) dX9_key_3 rfl ?_
  refine Go.bipush (v := nI 100) dX9_key_5 rfl ?_
  refine Go.bipush (v := nI 101) dX9_key_7 rfl ?_
  refine Go.callVi 76 [vI (nI 116), vI (nI 105), vI (nI 100), vI (nI 101)] [] dX9_key_9 lkX9_217 (Or.inl ⟨_, _, _, rfl, rfl, rfl⟩) rfl (Nat.le_of_ble_eq_true rfl) rfl (Nat.le_of_ble_eq_true rfl) (m_isWordAt_n0 h17) ?_
  refine Go.at 12 rfl ?_
  refine Go.if_eq_t (tgt := 17) dX9_key_12 (by decide) (by decide) ?_
  refine Go.aload_n dX9_key_17 rfl ?_
  refine Go.bipush (v := nI 103) dX9_key_18 rfl ?_
  refine Go.bipush (v := nI 114) dX9_key_20 rfl ?_
  refine Go.bipush (v := nI 111) dX9_key_22 rfl ?_
  refine Go.bipush (v := nI 119) dX9_key_24 rfl ?_
  refine Go.at 26 rfl ?_
  refine Go.callVi 76 [vI (nI 103), vI (nI 114), vI (nI 111), vI (nI 119)] [] dX9_key_26 lkX9_217 (Or.inl ⟨_, _, _, rfl, rfl, rfl⟩) rfl (Nat.le_of_ble_eq_true rfl) rfl (Nat.le_of_ble_eq_true rfl) (m_isWordAt_n1 h17) ?_
  refine Go.if_eq_t (tgt := 34) dX9_key_29 (by decide) (by decide) ?_
  refine Go.aload_n dX9_key_34 rfl ?_
  refine Go.bipush (v := nI 114) dX9_key_35 rfl ?_
  refine Go.bipush (v := nI 111) dX9_key_37 rfl ?_
  refine Go.bipush (v := nI 111) dX9_key_39 rfl ?_
  refine Go.at 41 rfl ?_
  refine Go.bipush (v := nI 109) dX9_key_41 rfl ?_
  refine Go.callVi 76 [vI (nI 114), vI (nI 111), vI (nI 111), vI (nI 109)] [] dX9_key_43 lkX9_217 (Or.inl ⟨_, _, _, rfl, rfl, rfl⟩) rfl (Nat.le_of_ble_eq_true rfl) rfl (Nat.le_of_ble_eq_true rfl) (m_isWordAt_n2 h17) ?_
  refine Go.if_eq_t (tgt := 53) dX9_key_46 (by decide) (by decide) ?_
  refine Go.iconst (v := (-1)) dX9_key_53 rfl ?_
  refine Go.ireturn .int dX9_key_54 rfl rfl ?_
  exact ⟨rfl, rfl⟩
theorem m_isName_0 {V : VV} {d : Nat} {μ : Memo} {c : Nat} (hc : c < 256) : Ret V (d) mX9_isName [vI (nI 0), vI (nI c)] μ (some (vI (bI ((nmF 0 c).isSome = true)))) μ := by
  show Go V (d) mX9_isName 0 [some (vI (nI 0)), some (vI (nI c))] [] μ _
  refine Go.iload_n dX9_isName_0 rfl ?_
  refine Go.lswV (tgt := 28) (nI 0) rfl dX9_isName_1 (by decide) rfl (by decide) ?_
  refine Go.iload_n dX9_isName_28 rfl ?_
  refine Go.bipush (v := nI 104) dX9_isName_29 rfl ?_
  refine Go.icmp_eq (tgt := 46) dX9_isName_31 (by decide) (fun h31 => ?_) (fun h31 => ?_)
  · -- 31 taken
    refine Go.iconst (v := nI 1) dX9_isName_46 rfl ?_
    refine Go.goto (tgt := 51) dX9_isName_47 (by decide) ?_
    refine Go.ireturn .boolean dX9_isName_51 rfl rfl ?_
    exact ⟨congrArg (fun z => some (vI z)) (bI_t (by first | (rw [nI_inj h31 hc]; rfl) | (rw [nI_inj h37 hc]; rfl) | (rw [nI_inj h43 hc]; rfl))).symm, rfl⟩
  · -- 31 not
    refine Go.iload_n dX9_isName_34 rfl ?_
    refine Go.bipush (v := nI 100) dX9_isName_35 rfl ?_
    refine Go.icmp_eq (tgt := 46) dX9_isName_37 (by decide) (fun h37 => ?_) (fun h37 => ?_)
    · -- 37 taken
      refine Go.iconst (v := nI 1) dX9_isName_46 rfl ?_
      refine Go.goto (tgt := 51) dX9_isName_47 (by decide) ?_
      refine Go.ireturn .boolean dX9_isName_51 rfl rfl ?_
      exact ⟨congrArg (fun z => some (vI z)) (bI_t (by first | (rw [nI_inj h31 hc]; rfl) | (rw [nI_inj h37 hc]; rfl) | (rw [nI_inj h43 hc]; rfl))).symm, rfl⟩
    · -- 37 not
      refine Go.iload_n dX9_isName_40 rfl ?_
      refine Go.bipush (v := nI 115) dX9_isName_41 rfl ?_
      refine Go.icmp_ne (tgt := 50) dX9_isName_43 (by decide) (fun h43 => ?_) (fun h43 => ?_)
      · -- 43 taken
        refine Go.iconst (v := nI 0) dX9_isName_50 rfl ?_
        refine Go.ireturn .boolean dX9_isName_51 rfl rfl ?_
        exact ⟨congrArg (fun z => some (vI z)) (bI_f (fun z => by have a31 : ¬ c = 104 := fun y => h31 (by rw [y]); have a37 : ¬ c = 100 := fun y => h37 (by rw [y]); have a43 : ¬ c = 115 := fun y => h43 (by rw [y]); unfold nmF at z; simp [a31, a37, a43] at z)).symm, rfl⟩
      · -- 43 not
        refine Go.iconst (v := nI 1) dX9_isName_46 rfl ?_
        refine Go.goto (tgt := 51) dX9_isName_47 (by decide) ?_
        refine Go.ireturn .boolean dX9_isName_51 rfl rfl ?_
        exact ⟨congrArg (fun z => some (vI z)) (bI_t (by first | (rw [nI_inj h31 hc]; rfl) | (rw [nI_inj h37 hc]; rfl) | (rw [nI_inj h43 hc]; rfl))).symm, rfl⟩
theorem m_isName_1 {V : VV} {d : Nat} {μ : Memo} {c : Nat} (hc : c < 256) : Ret V (d) mX9_isName [vI (nI 1), vI (nI c)] μ (some (vI (bI ((nmF 1 c).isSome = true)))) μ := by
  show Go V (d) mX9_isName 0 [some (vI (nI 1)), some (vI (nI c))] [] μ _
  refine Go.iload_n dX9_isName_0 rfl ?_
  refine Go.lswV (tgt := 52) (nI 1) rfl dX9_isName_1 (by decide) rfl (by decide) ?_
  refine Go.iload_n dX9_isName_52 rfl ?_
  refine Go.bipush (v := nI 99) dX9_isName_53 rfl ?_
  refine Go.icmp_eq (tgt := 64) dX9_isName_55 (by decide) (fun h55 => ?_) (fun h55 => ?_)
  · -- 55 taken
    refine Go.iconst (v := nI 1) dX9_isName_64 rfl ?_
    refine Go.goto (tgt := 69) dX9_isName_65 (by decide) ?_
    refine Go.ireturn .boolean dX9_isName_69 rfl rfl ?_
    exact ⟨congrArg (fun z => some (vI z)) (bI_t (by first | (rw [nI_inj h55 hc]; rfl) | (rw [nI_inj h61 hc]; rfl))).symm, rfl⟩
  · -- 55 not
    refine Go.iload_n dX9_isName_58 rfl ?_
    refine Go.bipush (v := nI 104) dX9_isName_59 rfl ?_
    refine Go.icmp_ne (tgt := 68) dX9_isName_61 (by decide) (fun h61 => ?_) (fun h61 => ?_)
    · -- 61 taken
      refine Go.iconst (v := nI 0) dX9_isName_68 rfl ?_
      refine Go.ireturn .boolean dX9_isName_69 rfl rfl ?_
      exact ⟨congrArg (fun z => some (vI z)) (bI_f (fun z => by have a55 : ¬ c = 99 := fun y => h55 (by rw [y]); have a61 : ¬ c = 104 := fun y => h61 (by rw [y]); unfold nmF at z; simp [a55, a61] at z)).symm, rfl⟩
    · -- 61 not
      refine Go.iconst (v := nI 1) dX9_isName_64 rfl ?_
      refine Go.goto (tgt := 69) dX9_isName_65 (by decide) ?_
      refine Go.ireturn .boolean dX9_isName_69 rfl rfl ?_
      exact ⟨congrArg (fun z => some (vI z)) (bI_t (by first | (rw [nI_inj h55 hc]; rfl) | (rw [nI_inj h61 hc]; rfl))).symm, rfl⟩
theorem m_isName_2 {V : VV} {d : Nat} {μ : Memo} {c : Nat} (hc : c < 256) : Ret V (d) mX9_isName [vI (nI 2), vI (nI c)] μ (some (vI (bI ((nmF 2 c).isSome = true)))) μ := by
  show Go V (d) mX9_isName 0 [some (vI (nI 2)), some (vI (nI c))] [] μ _
  refine Go.iload_n dX9_isName_0 rfl ?_
  refine Go.lsw (tgt := 70) dX9_isName_1 (by decide) rfl (by decide) ?_
  refine Go.iload_n dX9_isName_70 rfl ?_
  refine Go.bipush (v := nI 116) dX9_isName_71 rfl ?_
  refine Go.icmp_eq (tgt := 82) dX9_isName_73 (by decide) (fun h73 => ?_) (fun h73 => ?_)
  · -- 73 taken
    refine Go.iconst (v := nI 1) dX9_isName_82 rfl ?_
    refine Go.goto (tgt := 87) dX9_isName_83 (by decide) ?_
    refine Go.ireturn .boolean dX9_isName_87 rfl rfl ?_
    exact ⟨congrArg (fun z => some (vI z)) (bI_t (by first | (rw [nI_inj h73 hc]; rfl) | (rw [nI_inj h79 hc]; rfl))).symm, rfl⟩
  · -- 73 not
    refine Go.iload_n dX9_isName_76 rfl ?_
    refine Go.bipush (v := nI 104) dX9_isName_77 rfl ?_
    refine Go.icmp_ne (tgt := 86) dX9_isName_79 (by decide) (fun h79 => ?_) (fun h79 => ?_)
    · -- 79 taken
      refine Go.iconst (v := nI 0) dX9_isName_86 rfl ?_
      refine Go.ireturn .boolean dX9_isName_87 rfl rfl ?_
      exact ⟨congrArg (fun z => some (vI z)) (bI_f (fun z => by have a73 : ¬ c = 116 := fun y => h73 (by rw [y]); have a79 : ¬ c = 104 := fun y => h79 (by rw [y]); unfold nmF at z; simp [a73, a79] at z)).symm, rfl⟩
    · -- 79 not
      refine Go.iconst (v := nI 1) dX9_isName_82 rfl ?_
      refine Go.goto (tgt := 87) dX9_isName_83 (by decide) ?_
      refine Go.ireturn .boolean dX9_isName_87 rfl rfl ?_
      exact ⟨congrArg (fun z => some (vI z)) (bI_t (by first | (rw [nI_inj h73 hc]; rfl) | (rw [nI_inj h79 hc]; rfl))).symm, rfl⟩
theorem m_isNm {V : VV} {d : Nat} {μ : Memo} {key c : Nat} (hk : key < 3) (hc : c < 256) : Ret V d mX9_isName [vI (nI key), vI (nI c)] μ (some (vI (bI ((nmF key c).isSome = true)))) μ := by
  have : key = 0 ∨ key = 1 ∨ key = 2 := by omega
  rcases this with rfl | rfl | rfl
  · exact m_isName_0 hc
  · exact m_isName_1 hc
  · exact m_isName_2 hc
/-! the model's parser: steps X (last at the head) lie behind laidAt L; p the place where the search for the present token began -/
def ArX (s : Nat → Int32) (L : Nat) : List (Int32 × Int32) → Prop
  | [] => True
  | q :: X => s (L + 2 * X.length) = q.1 ∧ s (L + 2 * X.length + 1) = q.2 ∧ ArX s L X
/-- the state of the model's parser over a row s0: only what lies in [L, L + 196) differs -/
def Ms (μ0 μ : Memo) (N : Nat) (B : Nat → Nat) (L p : Nat) (X : List (Int32 × Int32)) (ok dp tn : Nat) : Prop :=
  TpM μ N B ∧ TkP μ N B p ∧ p ≤ N ∧ L + 196 ≤ 3147 ∧ X.length ≤ p ∧ μ 76 20 = nI dp ∧ μ 76 21 = nI tn ∧ μ 76 22 = nI X.length ∧ μ 76 23 = nI L ∧ μ 76 24 = nI ok ∧ ArX (μ 77) L X ∧
  (∀ j, j < L ∨ L + 196 ≤ j → μ 77 j = μ0 77 j) ∧ (∀ o, o ≠ 76 → o ≠ 77 → μ o = μ0 o) ∧ (∀ k, k < 14 ∨ 25 ≤ k → μ 76 k = μ0 76 k)
