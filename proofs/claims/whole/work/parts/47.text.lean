def PsF (μ0 μ1 : Memo) (L : Nat) : Prop := Mfr μ0 μ1 L ∧ μ1 76 14 = nI 0
def PsQ (μ0 : Memo) (N : Nat) (B : Nat → Nat) (L : Nat) (r : Option AVal) (μ1 : Memo) : Prop := PsF μ0 μ1 L ∧ ((∃ x, r = some (vI (-1)) ∧ ffAll N B = .inl x ∧ μ1 76 15 = nI x) ∨ (∃ Y ok key, r = some (vI (nI key)) ∧ key < 3 ∧ ffAll N B = .inr (encX key Y [], ok) ∧ ffKey N B = key ∧ Y.length ≤ 96 ∧ okX key Y ∧ vdp Y = 1 ∧ ArX (μ1 77) L Y ∧ μ1 76 22 = nI Y.length ∧ μ1 76 24 = nI ok))
theorem Mfr.z14 {μ0 μ1 : Memo} {L : Nat} (h : Mfr μ0 μ1 L) : PsF μ0 (ms μ1 76 14 (nI 0)) L := by
  obtain ⟨h1, h2, h3, h4⟩ := h
  refine ⟨⟨fun j hj => ?_, fun o a b => ?_, fun k hk => ?_, h4⟩, ?_⟩
  · simp (disch := omega) only [ms_self, ms_ne, upd_self, upd_ne]; exact h1 j hj
  · simp (disch := omega) only [ms_self, ms_ne, upd_self, upd_ne]; exact h2 o a b
  · simp (disch := omega) only [ms_self, ms_ne, upd_self, upd_ne]; exact h3 k hk
  · simp (disch := omega) only [ms_self, ms_ne, upd_self, upd_ne]
theorem not_lt0 {n : Nat} (h : n < 2147483648) : ¬ nI n < nI 0 := by rw [sI_lt, nT, nT]; omega
theorem m_parse_at {V : VV} {d : Nat} {μ0 μ : Memo} {N : Nat} {B : Nat → Nat} {L : Nat} (hT : TpM μ N B) (hL : L + 196 ≤ 3147) (h16 : μ 76 16 = nI 0) (h17 : μ 76 17 = nI 3) (h20 : μ 76 20 = nI 0) (h21 : μ 76 21 = nI 0) (h22 : μ 76 22 = nI 0) (h23 : μ 76 23 = nI L) (h24 : μ 76 24 = nI 0) (hf : Mfr μ0 μ L) : Go V (d + 66) mX9_parse 63 [some (vR 76), none, none] [] μ (PsQ μ0 N B L) := by
  have hN := hT.1
  have hB : ∀ j, j < N → B j < 256 := fun j hj => (hT.2.2 j hj).2
  have hPv : Pv N B 0 (μ 76 17) := Or.inr ⟨h17, Or.inl rfl⟩
  refine Go.aload_n dX9_parse_63 rfl ?_
  refine Go.callVu 76 [] [] dX9_parse_64 lkX9_233 (Or.inl ⟨_, _, _, rfl, rfl, rfl⟩) rfl (Nat.le_of_ble_eq_true rfl) rfl (Nat.le_of_ble_eq_true rfl) (m_nextToken hT (Nat.zero_le _) h16 hPv) (fun μ1 h1 => ?_)
  refine Go.aload_n dX9_parse_67 rfl ?_
  skip
  obtain ⟨hTk, k1, k2⟩ := h1
  have hM : Mt μ0 μ1 N B L 0 [] 0 0 0 := by
    obtain ⟨f1, f2, f3, f4⟩ := hf
    refine ⟨hT.tk ⟨k1, k2⟩, hTk, Nat.zero_le _, hL, ?_, ?_, ?_, ?_, ?_, trivial, fun j hj => ?_, fun o a1 a2 => ?_, fun q hq => ?_⟩
    · rw [k1 20 (by decide) (by decide) (by decide) (by decide) (by decide)]; exact h20
    · rw [k1 21 (by decide) (by decide) (by decide) (by decide) (by decide)]; exact h21
    · rw [k1 22 (by decide) (by decide) (by decide) (by decide) (by decide)]; exact h22
    · rw [k1 23 (by decide) (by decide) (by decide) (by decide) (by decide)]; exact h23
    · rw [k1 24 (by decide) (by decide) (by decide) (by decide) (by decide)]; exact h24
    · rw [k2 77 (by decide)]; exact f1 j hj
    · rw [k2 o a1]; exact f2 o a1 a2
    · rw [k1 q (by omega) (by omega) (by omega) (by omega) (by omega)]; exact f3 q hq
  have hble := bg_le (N := N) (B := B) (p := 0) (Nat.zero_le _)
  have hele := en_le (N := N) (B := B) hble
  have hbe : bg N B 0 ≤ en N B (bg N B 0) := by
    by_cases z : bg N B 0 < N
    · exact Nat.le_of_lt (en_gt z)
    · unfold en; rw [if_neg z]; exact Nat.le_refl _
  by_cases t1 : μ1 76 17 = nI 1
  · cases hk : keyW B (bg N B 0) (en N B (bg N B 0)) with
    | none =>
      have hky := m_key_y (V := V) (d := d + 64) hM.1 hbe hele hTk.1 hTk.2.1 t1
      rw [hk] at hky
      refine Go.callVi 76 [] [] dX9_parse_68 lkX9_270 (Or.inl ⟨_, _, _, rfl, rfl, rfl⟩) rfl (Nat.le_of_ble_eq_true rfl) rfl (Nat.le_of_ble_eq_true rfl) hky ?_
      refine Go.istore_n (ls' := [some (vR 76), some (vI (-1)), none]) dX9_parse_71 (by decide) rfl ?_
      refine Go.iload_n dX9_parse_72 rfl ?_
      refine Go.if_lt_t (tgt := 80) dX9_parse_73 (by decide) (by decide) ?_
      refine Go.iconst (v := nI 0) dX9_parse_80 rfl ?_
      refine Go.istore_n (ls' := [some (vR 76), some (vI (-1)), some (vI (nI 0))]) dX9_parse_81 (by decide) rfl ?_
      refine Go.at 82 rfl ?_
      refine Go.iload_n dX9_parse_82 rfl ?_
      refine Go.if_eq_t (tgt := 111) dX9_parse_83 (by decide) (by decide) ?_
      refine Go.aload_n dX9_parse_111 rfl ?_
      refine Go.iconst (v := nI 0) dX9_parse_112 rfl ?_
      refine Go.put dX9_parse_113 flX9_184 rfl rfl rfl rfl ?_
      refine Go.iload_n dX9_parse_116 rfl ?_
      refine Go.at 117 rfl ?_
      refine Go.if_eq_t (tgt := 124) dX9_parse_117 (by decide) (by decide) ?_
      refine Go.iconst (v := (-1)) dX9_parse_124 rfl ?_
      refine Go.ireturn .int dX9_parse_125 rfl rfl ?_
      exact ⟨hM.fr.z14, Or.inl ⟨_, rfl, ff_no hk, by simp (disch := omega) only [ms_self, ms_ne, upd_self, upd_ne]; exact hTk.1⟩⟩
    | some key =>
      obtain ⟨-, hb, hk3⟩ := key_word hN hTk hk
      have hky := m_key_y (V := V) (d := d + 64) hM.1 hbe hele hTk.1 hTk.2.1 t1
      rw [hk] at hky
      have hPv2 := hTk.pv hb (Or.inl t1) hN
      have hgt := en_gt (B := B) hb
      refine Go.callVi 76 [] [] dX9_parse_68 lkX9_270 (Or.inl ⟨_, _, _, rfl, rfl, rfl⟩) rfl (Nat.le_of_ble_eq_true rfl) rfl (Nat.le_of_ble_eq_true rfl) hky ?_
      refine Go.istore_n (ls' := [some (vR 76), some (vI (nI key)), none]) dX9_parse_71 (by decide) rfl ?_
      refine Go.iload_n dX9_parse_72 rfl ?_
      refine Go.if_lt_f (tgt := 80) dX9_parse_73 (by decide) (not_lt0 (by omega)) ?_
      refine Go.iconst (v := nI 1) dX9_parse_76 rfl ?_
      refine Go.goto (tgt := 81) dX9_parse_77 (by decide) ?_
      refine Go.at 81 rfl ?_
      refine Go.istore_n (ls' := [some (vR 76), some (vI (nI key)), some (vI (nI 1))]) dX9_parse_81 (by decide) rfl ?_
      refine Go.iload_n dX9_parse_82 rfl ?_
      refine Go.if_eq_f (tgt := 111) dX9_parse_83 (by decide) (by decide) ?_
      refine Go.aload_n dX9_parse_86 rfl ?_
      refine Go.callVu 76 [] [] dX9_parse_87 lkX9_233 (Or.inl ⟨_, _, _, rfl, rfl, rfl⟩) rfl (Nat.le_of_ble_eq_true rfl) rfl (Nat.le_of_ble_eq_true rfl) (m_next hM hPv2) (fun μ2 h2 => ?_)
      refine Go.aload_n dX9_parse_90 rfl ?_
      refine Go.at 91 rfl ?_
      refine Go.iload_n dX9_parse_91 rfl ?_
      refine Go.callVd 76 [vI (nI key)] [] dX9_parse_92 lkX9_264 (Or.inl ⟨_, _, _, rfl, rfl, rfl⟩) rfl (Nat.le_of_ble_eq_true rfl) rfl (Nat.le_of_ble_eq_true rfl) ((m_levels hk3 hN hB (N - en N B (bg N B 0) + 1) (en N B (bg N B 0)) hele (by omega)).2.1 μ0 μ2 [] [] [] 0 0 0 0 (d + 65) h2 ⟨hele, Nat.zero_le _, Nat.zero_le _, Nat.zero_le _, Or.inr ⟨rfl, trivial⟩⟩ rfl rfl (Or.inl rfl) (Nat.zero_le _) trivial (by omega)) (fun μ3 g => ?_) (fun μ3 g => ?_)
      · obtain ⟨p', Y, ok', Q, R', g⟩ := g
        have hM3 := g.1
        have hp3 := hM3.2.2.1
        have hYX : Y ++ [] = Y := List.append_nil Y
        by_cases t0 : μ3 76 17 = nI 0
        · have he : ¬ bg N B p' < N := by
            rcases tok_srt hM3.2.1 hN with ⟨z, q, e⟩ | ⟨z, ⟨q, f⟩ | ⟨q, f⟩⟩ | ⟨z, q | ⟨q, f⟩⟩ | ⟨z, q, -⟩
            · exact e
            all_goals (rw [t0] at q; exact absurd q (by decide))
          have hlen := g.2.1
          rw [hYX] at hlen
          refine Go.if_eq_f (tgt := 109) dX9_parse_95 (by decide) (by decide) ?_
          refine Go.aload_n dX9_parse_98 rfl ?_
          refine Go.getI dX9_parse_99 flX9_199 rfl ?_
          refine Go.if_ne_f (tgt := 109) dX9_parse_102 (by decide) t0 ?_
          refine Go.iconst (v := nI 1) dX9_parse_105 rfl ?_
          refine Go.goto (tgt := 110) dX9_parse_106 (by decide) ?_
          refine Go.at 110 rfl ?_
          refine Go.istore_n (ls' := [some (vR 76), some (vI (nI key)), some (vI (nI 1))]) dX9_parse_110 (by decide) rfl ?_
          refine Go.aload_n dX9_parse_111 rfl ?_
          refine Go.iconst (v := nI 0) dX9_parse_112 rfl ?_
          refine Go.put dX9_parse_113 flX9_184 rfl rfl rfl rfl ?_
          refine Go.iload_n dX9_parse_116 rfl ?_
          refine Go.if_eq_f (tgt := 124) dX9_parse_117 (by decide) (by decide) ?_
          refine Go.at 120 rfl ?_
          refine Go.iload_n dX9_parse_120 rfl ?_
          refine Go.goto (tgt := 125) dX9_parse_121 (by decide) ?_
          refine Go.ireturn .int dX9_parse_125 rfl rfl ?_
          exact ⟨hM3.fr.z14, Or.inr ⟨Y, ok', key, rfl, hk3, ff_ok hN hk g he, by unfold ffKey; rw [hk]; rfl, by omega, by have := g.2.2.2.1; rw [hYX] at this; exact this, by have := g.2.2.2.2.1; rw [hYX] at this; exact this, by simp (disch := omega) only [ms_self, ms_ne, upd_self, upd_ne]; have := hM3.2.2.2.2.2.2.2.2.2.1; rw [hYX] at this; exact this, by simp (disch := omega) only [ms_self, ms_ne, upd_self, upd_ne]; have := hM3.2.2.2.2.2.2.1; rw [hYX] at this; exact this, by simp (disch := omega) only [ms_self, ms_ne, upd_self, upd_ne]; exact hM3.2.2.2.2.2.2.2.2.1⟩⟩
        · have hb3 : bg N B p' < N := by
            rcases tok_srt hM3.2.1 hN with ⟨z, q, e⟩ | ⟨z, q⟩ | ⟨z, q⟩ | ⟨z, q⟩
            · exact absurd q t0
            all_goals exact srt_pos (B := B) (by omega)
          refine Go.if_eq_f (tgt := 109) dX9_parse_95 (by decide) (by decide) ?_
          refine Go.aload_n dX9_parse_98 rfl ?_
          refine Go.getI dX9_parse_99 flX9_199 rfl ?_
          refine Go.if_ne_t (tgt := 109) dX9_parse_102 (by decide) t0 ?_
          refine Go.iconst (v := nI 0) dX9_parse_109 rfl ?_
          refine Go.istore_n (ls' := [some (vR 76), some (vI (nI key)), some (vI (nI 0))]) dX9_parse_110 (by decide) rfl ?_
          refine Go.at 111 rfl ?_
          refine Go.aload_n dX9_parse_111 rfl ?_
          refine Go.iconst (v := nI 0) dX9_parse_112 rfl ?_
          refine Go.put dX9_parse_113 flX9_184 rfl rfl rfl rfl ?_
          refine Go.iload_n dX9_parse_116 rfl ?_
          refine Go.if_eq_t (tgt := 124) dX9_parse_117 (by decide) (by decide) ?_
          refine Go.iconst (v := (-1)) dX9_parse_124 rfl ?_
          refine Go.at 125 rfl ?_
          refine Go.ireturn .int dX9_parse_125 rfl rfl ?_
          exact ⟨hM3.fr.z14, Or.inl ⟨_, rfl, ff_bad hN hk g hb3, by simp (disch := omega) only [ms_self, ms_ne, upd_self, upd_ne]; exact hM3.2.1.1⟩⟩
      · obtain ⟨pf, q1, q2, q3, q4⟩ := g
        refine Go.if_eq_t (tgt := 109) dX9_parse_95 (by decide) (by decide) ?_
        refine Go.iconst (v := nI 0) dX9_parse_109 rfl ?_
        refine Go.istore_n (ls' := [some (vR 76), some (vI (nI key)), some (vI (nI 0))]) dX9_parse_110 (by decide) rfl ?_
        refine Go.aload_n dX9_parse_111 rfl ?_
        refine Go.iconst (v := nI 0) dX9_parse_112 rfl ?_
        refine Go.put dX9_parse_113 flX9_184 rfl rfl rfl rfl ?_
        refine Go.at 116 rfl ?_
        refine Go.iload_n dX9_parse_116 rfl ?_
        refine Go.if_eq_t (tgt := 124) dX9_parse_117 (by decide) (by decide) ?_
        refine Go.iconst (v := (-1)) dX9_parse_124 rfl ?_
        refine Go.ireturn .int dX9_parse_125 rfl rfl ?_
        exact ⟨q3.z14, Or.inl ⟨_, rfl, ff_flt hN hk q4, by simp (disch := omega) only [ms_self, ms_ne, upd_self, upd_ne]; exact q1.1⟩⟩
  · have hk := key_none hN hTk t1
    refine Go.callVi 76 [] [] dX9_parse_68 lkX9_270 (Or.inl ⟨_, _, _, rfl, rfl, rfl⟩) rfl (Nat.le_of_ble_eq_true rfl) rfl (Nat.le_of_ble_eq_true rfl) (m_key_n t1) ?_
    refine Go.istore_n (ls' := [some (vR 76), some (vI (-1)), none]) dX9_parse_71 (by decide) rfl ?_
    refine Go.iload_n dX9_parse_72 rfl ?_
    refine Go.if_lt_t (tgt := 80) dX9_parse_73 (by decide) (by decide) ?_
    refine Go.iconst (v := nI 0) dX9_parse_80 rfl ?_
    refine Go.istore_n (ls' := [some (vR 76), some (vI (-1)), some (vI (nI 0))]) dX9_parse_81 (by decide) rfl ?_
    refine Go.at 82 rfl ?_
    refine Go.iload_n dX9_parse_82 rfl ?_
    refine Go.if_eq_t (tgt := 111) dX9_parse_83 (by decide) (by decide) ?_
    refine Go.aload_n dX9_parse_111 rfl ?_
    refine Go.iconst (v := nI 0) dX9_parse_112 rfl ?_
    refine Go.put dX9_parse_113 flX9_184 rfl rfl rfl rfl ?_
    refine Go.iload_n dX9_parse_116 rfl ?_
    refine Go.at 117 rfl ?_
    refine Go.if_eq_t (tgt := 124) dX9_parse_117 (by decide) (by decide) ?_
    refine Go.iconst (v := (-1)) dX9_parse_124 rfl ?_
    refine Go.ireturn .int dX9_parse_125 rfl rfl ?_
    exact ⟨hM.fr.z14, Or.inl ⟨_, rfl, ff_no hk, by simp (disch := omega) only [ms_self, ms_ne, upd_self, upd_ne]; exact hTk.1⟩⟩
def atL (n : Nat) : Nat := if n < 14 then 147 + 200 * n + 4 else 2947
theorem m_parse {V : VV} {d : Nat} {μ : Memo} {N : Nat} {B : Nat → Nat} {n : Nat} (hT : TpM μ N B) (hn : n ≤ 14) (h1 : μ 77 1 = nI n) : Go V (d + 66) mX9_parse 0 (entF mX9_parse [vR 76]) [] μ (PsQ μ N B (atL n)) := by
  show Go V (d + 66) mX9_parse 0 [some (vR 76), none, none] [] μ _
  by_cases hn14 : n < 14
  · rw [show atL n = 147 + 200 * n + 4 by unfold atL; rw [if_pos hn14]]
    refine Go.aload_n dX9_parse_0 rfl ?_
    refine Go.iconst (v := nI 0) dX9_parse_1 rfl ?_
    refine Go.put dX9_parse_2 flX9_196 rfl rfl rfl rfl ?_
    refine Go.aload_n dX9_parse_5 rfl ?_
    refine Go.iconst (v := nI 3) dX9_parse_6 rfl ?_
    refine Go.put dX9_parse_7 flX9_199 rfl rfl rfl rfl ?_
    refine Go.at 10 rfl ?_
    refine Go.aload_n dX9_parse_10 rfl ?_
    refine Go.iconst (v := nI 0) dX9_parse_11 rfl ?_
    refine Go.put dX9_parse_12 flX9_261 rfl rfl rfl rfl ?_
    refine Go.aload_n dX9_parse_15 rfl ?_
    refine Go.iconst (v := nI 0) dX9_parse_16 rfl ?_
    refine Go.put dX9_parse_17 flX9_258 rfl rfl rfl rfl ?_
    refine Go.at 20 rfl ?_
    refine Go.aload_n dX9_parse_20 rfl ?_
    refine Go.iconst (v := nI 0) dX9_parse_21 rfl ?_
    refine Go.put dX9_parse_22 flX9_224 rfl rfl rfl rfl ?_
    refine Go.aload_n dX9_parse_25 rfl ?_
    refine Go.iconst (v := nI 0) dX9_parse_26 rfl ?_
    refine Go.put dX9_parse_27 flX9_252 rfl rfl rfl rfl ?_
    refine Go.at 30 rfl ?_
    refine Go.aload_n dX9_parse_30 rfl ?_
    refine Go.aload_n dX9_parse_31 rfl ?_
    refine Go.getR dX9_parse_32 flX9_7 rfl ?_
    refine Go.iconst (v := nI 1) dX9_parse_35 rfl ?_
    refine Go.iaload 1 dX9_parse_36 rfl (by decide) rfl ?_
    refine Go.topE (y := nI n) (by simp (disch := omega) only [ms_self, ms_ne, upd_self, upd_ne]; exact h1) ?_
    refine Go.bipush (v := nI 14) dX9_parse_37 rfl ?_
    refine Go.at 39 rfl ?_
    refine Go.icmp_ge_f (tgt := 57) dX9_parse_39 (by decide) (by rw [sI_le, nT, nT]; omega) ?_
    refine Go.aload_n dX9_parse_42 rfl ?_
    refine Go.aload_n dX9_parse_43 rfl ?_
    refine Go.getR dX9_parse_44 flX9_7 rfl ?_
    refine Go.iconst (v := nI 1) dX9_parse_47 rfl ?_
    refine Go.iaload 1 dX9_parse_48 rfl (by decide) rfl ?_
    refine Go.topE (y := nI n) (by simp (disch := omega) only [ms_self, ms_ne, upd_self, upd_ne]; exact h1) ?_
    refine Go.at 49 rfl ?_
    refine Go.callVi 76 [vI (nI n)] [vR 76] dX9_parse_49 lkX9_267 (Or.inl ⟨_, _, _, rfl, rfl, rfl⟩) rfl (Nat.le_of_ble_eq_true rfl) rfl (Nat.le_of_ble_eq_true rfl) (m_textAt n) ?_
    refine Go.iconst (v := nI 4) dX9_parse_52 rfl ?_
    refine Go.iaddN dX9_parse_53 ?_
    refine Go.goto (tgt := 60) dX9_parse_54 (by decide) ?_
    refine Go.put dX9_parse_60 flX9_221 rfl rfl rfl rfl ?_
    have hfr : Mfr μ (ms (ms (ms (ms (ms (ms (ms μ 76 16 (nI 0)) 76 17 (nI 3)) 76 20 (nI 0)) 76 21 (nI 0)) 76 22 (nI 0)) 76 24 (nI 0)) 76 23 (nI ((147 + (200 * n)) + 4))) (147 + 200 * n + 4) := ⟨fun j _ => by simp (disch := omega) only [ms_self, ms_ne, upd_self, upd_ne], fun o a b => by simp (disch := omega) only [ms_self, ms_ne, upd_self, upd_ne], fun k hk => by simp (disch := omega) only [ms_self, ms_ne, upd_self, upd_ne], by omega⟩
    have hTT : TpM (ms (ms (ms (ms (ms (ms (ms μ 76 16 (nI 0)) 76 17 (nI 3)) 76 20 (nI 0)) 76 21 (nI 0)) 76 22 (nI 0)) 76 24 (nI 0)) 76 23 (nI ((147 + (200 * n)) + 4))) N B := ⟨hT.1, by simp (disch := omega) only [ms_self, ms_ne, upd_self, upd_ne]; exact hT.2.1, fun j hj => by simp (disch := omega) only [ms_self, ms_ne, upd_self, upd_ne]; exact hT.2.2 j hj⟩
    have := m_parse_at (V := V) (d := d) hTT (L := 147 + 200 * n + 4) (by omega) (by simp (disch := omega) only [ms_self, ms_ne, upd_self, upd_ne]) (by simp (disch := omega) only [ms_self, ms_ne, upd_self, upd_ne]) (by simp (disch := omega) only [ms_self, ms_ne, upd_self, upd_ne]) (by simp (disch := omega) only [ms_self, ms_ne, upd_self, upd_ne]) (by simp (disch := omega) only [ms_self, ms_ne, upd_self, upd_ne]) (by simp (disch := omega) only [ms_self, ms_ne, upd_self, upd_ne]) (by simp (disch := omega) only [ms_self, ms_ne, upd_self, upd_ne]) hfr
    exact this
  · rw [show atL n = 2947 by unfold atL; rw [if_neg hn14]]
    refine Go.aload_n dX9_parse_0 rfl ?_
    refine Go.iconst (v := nI 0) dX9_parse_1 rfl ?_
    refine Go.put dX9_parse_2 flX9_196 rfl rfl rfl rfl ?_
    refine Go.aload_n dX9_parse_5 rfl ?_
    refine Go.iconst (v := nI 3) dX9_parse_6 rfl ?_
    refine Go.put dX9_parse_7 flX9_199 rfl rfl rfl rfl ?_
    refine Go.at 10 rfl ?_
    refine Go.aload_n dX9_parse_10 rfl ?_
    refine Go.iconst (v := nI 0) dX9_parse_11 rfl ?_
    refine Go.put dX9_parse_12 flX9_261 rfl rfl rfl rfl ?_
    refine Go.aload_n dX9_parse_15 rfl ?_
    refine Go.iconst (v := nI 0) dX9_parse_16 rfl ?_
    refine Go.put dX9_parse_17 flX9_258 rfl rfl rfl rfl ?_
    refine Go.at 20 rfl ?_
    refine Go.aload_n dX9_parse_20 rfl ?_
    refine Go.iconst (v := nI 0) dX9_parse_21 rfl ?_
    refine Go.put dX9_parse_22 flX9_224 rfl rfl rfl rfl ?_
    refine Go.aload_n dX9_parse_25 rfl ?_
    refine Go.iconst (v := nI 0) dX9_parse_26 rfl ?_
    refine Go.put dX9_parse_27 flX9_252 rfl rfl rfl rfl ?_
    refine Go.at 30 rfl ?_
    refine Go.aload_n dX9_parse_30 rfl ?_
    refine Go.aload_n dX9_parse_31 rfl ?_
    refine Go.getR dX9_parse_32 flX9_7 rfl ?_
    refine Go.iconst (v := nI 1) dX9_parse_35 rfl ?_
    refine Go.iaload 1 dX9_parse_36 rfl (by decide) rfl ?_
    refine Go.topE (y := nI n) (by simp (disch := omega) only [ms_self, ms_ne, upd_self, upd_ne]; exact h1) ?_
    refine Go.bipush (v := nI 14) dX9_parse_37 rfl ?_
    refine Go.at 39 rfl ?_
    refine Go.icmp_ge_t (tgt := 57) dX9_parse_39 (by decide) (by rw [sI_le, nT, nT]; omega) ?_
    refine Go.sipush (v := nI 2947) dX9_parse_57 rfl ?_
    refine Go.put dX9_parse_60 flX9_221 rfl rfl rfl rfl ?_
    have hfr : Mfr μ (ms (ms (ms (ms (ms (ms (ms μ 76 16 (nI 0)) 76 17 (nI 3)) 76 20 (nI 0)) 76 21 (nI 0)) 76 22 (nI 0)) 76 24 (nI 0)) 76 23 (nI 2947)) (2947) := ⟨fun j _ => by simp (disch := omega) only [ms_self, ms_ne, upd_self, upd_ne], fun o a b => by simp (disch := omega) only [ms_self, ms_ne, upd_self, upd_ne], fun k hk => by simp (disch := omega) only [ms_self, ms_ne, upd_self, upd_ne], by omega⟩
    have hTT : TpM (ms (ms (ms (ms (ms (ms (ms μ 76 16 (nI 0)) 76 17 (nI 3)) 76 20 (nI 0)) 76 21 (nI 0)) 76 22 (nI 0)) 76 24 (nI 0)) 76 23 (nI 2947)) N B := ⟨hT.1, by simp (disch := omega) only [ms_self, ms_ne, upd_self, upd_ne]; exact hT.2.1, fun j hj => by simp (disch := omega) only [ms_self, ms_ne, upd_self, upd_ne]; exact hT.2.2 j hj⟩
    have := m_parse_at (V := V) (d := d) hTT (L := 2947) (by omega) (by simp (disch := omega) only [ms_self, ms_ne, upd_self, upd_ne]) (by simp (disch := omega) only [ms_self, ms_ne, upd_self, upd_ne]) (by simp (disch := omega) only [ms_self, ms_ne, upd_self, upd_ne]) (by simp (disch := omega) only [ms_self, ms_ne, upd_self, upd_ne]) (by simp (disch := omega) only [ms_self, ms_ne, upd_self, upd_ne]) (by simp (disch := omega) only [ms_self, ms_ne, upd_self, upd_ne]) (by simp (disch := omega) only [ms_self, ms_ne, upd_self, upd_ne]) hfr
    exact this
/-- the model's text -/
def ansT (n : Nat) (o : Nat ⊕ (List Int32 × Nat)) : Int32 := match o with | .inl x => (-100) - nI x | .inr _ => if n = 14 then (-1000000003) else nI n
def TxF (μ0 μ1 : Memo) (n : Nat) : Prop := (∀ o, o ≠ 76 → o ≠ 77 → μ1 o = μ0 o) ∧ (∀ k, k < 14 ∨ 25 ≤ k → μ1 76 k = μ0 76 k) ∧ μ1 76 14 = nI 0 ∧ (∀ j, j ≠ 1 → j < 147 + 200 * n → μ1 77 j = μ0 77 j)
def TxQ (μ0 μ1 : Memo) (N : Nat) (B : Nat → Nat) (n : Nat) : Prop := TxF μ0 μ1 n ∧ (((∃ x, ffAll N B = .inl x ∨ n = 14) ∧ μ1 77 1 = μ0 77 1) ∨ (n ≠ 14 ∧ μ1 77 1 = nI (n + 1) ∧ ∃ Y ok key, key < 3 ∧ ffAll N B = .inr (encX key Y [], ok) ∧ ffKey N B = key ∧ Y.length ≤ 96 ∧ okX key Y ∧ vdp Y = 1 ∧ ArX (μ1 77) (147 + 200 * n + 4) Y ∧ μ1 77 (147 + 200 * n) = nI key ∧ μ1 77 (147 + 200 * n + 1) = nI ok ∧ μ1 77 (147 + 200 * n + 2) = nI Y.length))
theorem m_text {V : VV} {d : Nat} {μ : Memo} {N : Nat} {B : Nat → Nat} {n : Nat} (hT : TpM μ N B) (hn : n ≤ 14) (h1 : μ 77 1 = nI n) : RetI V (d + 67) mX9_text [vR 76] μ (ansT n (ffAll N B)) (fun μ1 => TxQ μ μ1 N B n) := by
  show Go V (d + 67) mX9_text 0 [some (vR 76), none, none] [] μ _
  refine Go.aload_n dX9_text_0 rfl ?_
  refine Go.callV 76 [] [] dX9_text_1 lkX9_273.1 lkX9_273.2.1 lkX9_273.2.2.1 lkX9_273.2.2.2 (Or.inl ⟨_, _, _, rfl, rfl, rfl⟩) rfl (Nat.le_of_ble_eq_true rfl) rfl (Nat.le_of_ble_eq_true rfl) (Go.mono (m_parse hT hn h1) ?_)
  have hL : 147 + 200 * n ≤ atL n := by unfold atL; split <;> omega
  rintro r μ1 ⟨⟨⟨f1, f2, f3, f4⟩, f5⟩, ⟨x, rfl, hff, h15⟩ | ⟨Y, ok, key, rfl, hk3, hff, hfk, hY, hoY, hvY, hA, h22, h24⟩⟩
  · show Go V (d + 67) mX9_text 4 [some (vR 76), none, none] [vI (-1)] μ1 _
    have e1 : μ1 77 1 = μ 77 1 := f1 1 (Or.inl (by omega))
    refine Go.istore_n (ls' := [some (vR 76), some (vI (-1)), none]) dX9_text_4 (by decide) rfl ?_
    refine Go.iload_n dX9_text_5 rfl ?_
    refine Go.if_ge_f (tgt := 17) dX9_text_6 (by decide) (by decide) ?_
    refine Go.bipush (v := (-100)) dX9_text_9 rfl ?_
    refine Go.aload_n dX9_text_11 rfl ?_
    refine Go.getI dX9_text_12 flX9_202 rfl ?_
    refine Go.topE (y := nI x) h15 ?_
    refine Go.at 15 rfl ?_
    refine Go.isub dX9_text_15 ?_
    refine Go.ireturn .int dX9_text_16 rfl rfl ?_
    exact ⟨by rw [hff]; rfl, ⟨f2, f3, f5, fun j _ hj => f1 j (Or.inl (by omega))⟩, Or.inl ⟨⟨x, Or.inl hff⟩, e1⟩⟩
  · show Go V (d + 67) mX9_text 4 [some (vR 76), none, none] [vI (nI key)] μ1 _
    have e1 : μ1 77 1 = nI n := by rw [f1 1 (Or.inl (by omega))]; exact h1
    have hge : nI 0 ≤ nI key := by rw [sI_le, nT, nT]; omega
    by_cases hn14 : n = 14
    · skip
      refine Go.istore_n (ls' := [some (vR 76), some (vI (nI key)), none]) dX9_text_4 (by decide) rfl ?_
      refine Go.iload_n dX9_text_5 rfl ?_
      refine Go.if_ge_t (tgt := 17) dX9_text_6 (by decide) hge ?_
      refine Go.aload_n dX9_text_17 rfl ?_
      refine Go.getR dX9_text_18 flX9_7 rfl ?_
      refine Go.iconst (v := nI 1) dX9_text_21 rfl ?_
      refine Go.at 22 rfl ?_
      refine Go.iaload 1 dX9_text_22 rfl (by decide) rfl ?_
      refine Go.topE (y := nI n) e1 ?_
      refine Go.bipush (v := nI 14) dX9_text_23 rfl ?_
      refine Go.icmp_ne_f (tgt := 31) dX9_text_25 (by decide) (by rw [hn14]) ?_
      refine Go.ldc dX9_text_28 cnX9_164 ?_
      refine Go.ireturn .int dX9_text_30 rfl rfl ?_
      exact ⟨by rw [hff]; show _ = some (vI (if n = 14 then _ else _)); rw [if_pos hn14], ⟨f2, f3, f5, fun j _ hj => f1 j (Or.inl (by omega))⟩, Or.inl ⟨⟨0, Or.inr hn14⟩, by rw [e1, h1]⟩⟩
    · have eL : atL n = 147 + 200 * n + 4 := by unfold atL; rw [if_pos (by omega)]
      rw [eL] at f1 hA f4
      refine Go.istore_n (ls' := [some (vR 76), some (vI (nI key)), none]) dX9_text_4 (by decide) rfl ?_
      refine Go.iload_n dX9_text_5 rfl ?_
      refine Go.if_ge_t (tgt := 17) dX9_text_6 (by decide) hge ?_
      refine Go.aload_n dX9_text_17 rfl ?_
      refine Go.getR dX9_text_18 flX9_7 rfl ?_
      refine Go.iconst (v := nI 1) dX9_text_21 rfl ?_
      refine Go.at 22 rfl ?_
      refine Go.iaload 1 dX9_text_22 rfl (by decide) rfl ?_
      refine Go.topE (y := nI n) e1 ?_
      refine Go.bipush (v := nI 14) dX9_text_23 rfl ?_
      refine Go.icmp_ne_t (tgt := 31) dX9_text_25 (by decide) (nI_neq (by omega) (by omega) (by omega)) ?_
      refine Go.aload_n dX9_text_31 rfl ?_
      refine Go.aload_n dX9_text_32 rfl ?_
      refine Go.getR dX9_text_33 flX9_7 rfl ?_
      refine Go.at 36 rfl ?_
      refine Go.iconst (v := nI 1) dX9_text_36 rfl ?_
      refine Go.iaload 1 dX9_text_37 rfl (by decide) rfl ?_
      refine Go.topE (y := nI n) e1 ?_
      refine Go.callVi 76 [vI (nI n)] [] dX9_text_38 lkX9_267 (Or.inl ⟨_, _, _, rfl, rfl, rfl⟩) rfl (Nat.le_of_ble_eq_true rfl) rfl (Nat.le_of_ble_eq_true rfl) (m_textAt n) ?_
      refine Go.istore_n (ls' := [some (vR 76), some (vI (nI key)), some (vI (nI (147 + (200 * n))))]) dX9_text_41 (by decide) rfl ?_
      refine Go.aload_n dX9_text_42 rfl ?_
      refine Go.getR dX9_text_43 flX9_7 rfl ?_
      refine Go.at 46 rfl ?_
      refine Go.iload_n dX9_text_46 rfl ?_
      refine Go.iconst (v := nI 0) dX9_text_47 rfl ?_
      refine Go.iaddN dX9_text_48 ?_
      refine Go.iload_n dX9_text_49 rfl ?_
      refine Go.iastore ((147 + (200 * n)) + 0) dX9_text_50 rfl (by omega) rfl ?_
      refine Go.aload_n dX9_text_51 rfl ?_
      refine Go.at 52 rfl ?_
      refine Go.getR dX9_text_52 flX9_7 rfl ?_
      refine Go.iload_n dX9_text_55 rfl ?_
      refine Go.iconst (v := nI 1) dX9_text_56 rfl ?_
      refine Go.iaddN dX9_text_57 ?_
      refine Go.aload_n dX9_text_58 rfl ?_
      refine Go.getI dX9_text_59 flX9_252 rfl ?_
      refine Go.topE (y := nI ok) (by simp (disch := omega) only [ms_self, ms_ne, upd_self, upd_ne]; exact h24) ?_
      refine Go.at 62 rfl ?_
      refine Go.iastore ((147 + (200 * n)) + 1) dX9_text_62 rfl (by omega) rfl ?_
      refine Go.aload_n dX9_text_63 rfl ?_
      refine Go.getR dX9_text_64 flX9_7 rfl ?_
      refine Go.iload_n dX9_text_67 rfl ?_
      refine Go.iconst (v := nI 2) dX9_text_68 rfl ?_
      refine Go.iaddN dX9_text_69 ?_
      refine Go.at 70 rfl ?_
      refine Go.aload_n dX9_text_70 rfl ?_
      refine Go.getI dX9_text_71 flX9_224 rfl ?_
      refine Go.topE (y := nI Y.length) (by simp (disch := omega) only [ms_self, ms_ne, upd_self, upd_ne]; exact h22) ?_
      refine Go.iastore ((147 + (200 * n)) + 2) dX9_text_74 rfl (by omega) rfl ?_
      refine Go.aload_n dX9_text_75 rfl ?_
      refine Go.getR dX9_text_76 flX9_7 rfl ?_
      refine Go.iconst (v := nI 1) dX9_text_79 rfl ?_
      refine Go.at 80 rfl ?_
      refine Go.dup2 dX9_text_80 ?_
      refine Go.iaload 1 dX9_text_81 rfl (by decide) rfl ?_
      refine Go.topE (y := nI n) (by simp (disch := omega) only [ms_self, ms_ne, upd_self, upd_ne]; exact e1) ?_
      refine Go.iconst (v := nI 1) dX9_text_82 rfl ?_
      refine Go.iaddN dX9_text_83 ?_
      refine Go.iastore 1 dX9_text_84 rfl (by decide) rfl ?_
      refine Go.aload_n dX9_text_85 rfl ?_
      refine Go.at 86 rfl ?_
      refine Go.getR dX9_text_86 flX9_7 rfl ?_
      refine Go.iconst (v := nI 1) dX9_text_89 rfl ?_
      refine Go.iaload 1 dX9_text_90 rfl (by decide) rfl ?_
      refine Go.topE (y := nI (n + 1)) (by simp (disch := omega) only [ms_self, ms_ne, upd_self, upd_ne]) ?_
      refine Go.iconst (v := nI 1) dX9_text_91 rfl ?_
      refine Go.isubN dX9_text_92 (by omega) ?_
      refine Go.topE (y := nI n) (by rw [Nat.add_sub_cancel]) ?_
      refine Go.ireturn .int dX9_text_93 rfl rfl ?_
      refine ⟨by rw [hff]; show _ = some (vI (if n = 14 then _ else _)); rw [if_neg hn14], ⟨fun o a b => ?_, fun k hk => ?_, ?_, fun j a b => ?_⟩, Or.inr ⟨hn14, ?_, Y, ok, key, hk3, hff, hfk, hY, hoY, hvY, ?_, ?_, ?_, ?_⟩⟩
      · simp (disch := omega) only [ms_self, ms_ne, upd_self, upd_ne]; exact f2 o a b
      · simp (disch := omega) only [ms_self, ms_ne, upd_self, upd_ne]; exact f3 k hk
      · simp (disch := omega) only [ms_self, ms_ne, upd_self, upd_ne]; exact f5
      · simp (disch := omega) only [ms_self, ms_ne, upd_self, upd_ne]; exact f1 j (Or.inl (by omega))
      · simp (disch := omega) only [ms_self, ms_ne, upd_self, upd_ne]
      · simp (disch := omega) only [ms_self, ms_ne, upd_self, upd_ne]; exact ArX.same hA (fun j a b => by simp (disch := omega) only [ms_self, ms_ne, upd_self, upd_ne])
      · simp (disch := omega) only [ms_self, ms_ne, upd_self, upd_ne]; rw [Nat.add_zero, upd_self]
      · simp (disch := omega) only [ms_self, ms_ne, upd_self, upd_ne]
      · simp (disch := omega) only [ms_self, ms_ne, upd_self, upd_ne]
theorem c_ff_fail {V : VV} {d : Nat} {μ : Memo} {N : Nat} {B : Nat → Nat} (hT : TpC μ N B) {x : Nat} (h : ffAll N B = .inl x) : RetI V (d + 7) mX4_findFault [vR 33] μ (nI x) (fun μ1 => ∀ o, o ≠ 33 → o ≠ 34 → o ≠ 35 → μ1 o = μ o) := by
  refine Go.mono (c_findFault hT) ?_
  rintro r μ1 ⟨h1, h2⟩
  rw [h] at h2
  exact ⟨h2, h1⟩
theorem c_ff_good {V : VV} {d : Nat} {μ : Memo} {N : Nat} {B : Nat → Nat} (hT : TpC μ N B) {R : List Int32} {ok : Nat} (h : ffAll N B = .inr (R, ok)) : RetI V (d + 7) mX4_findFault [vR 33] μ (-1000000005) (fun μ1 => (∀ o, o ≠ 33 → o ≠ 34 → o ≠ 35 → μ1 o = μ o) ∧ μ1 33 3 = nI R.length ∧ ArS (μ1 34) R ∧ μ1 33 1 = nI ok ∧ μ1 33 0 = nI (ffKey N B)) := by
  refine Go.mono (c_findFault hT) ?_
  rintro r μ1 ⟨h1, h2⟩
  rw [h] at h2
  exact ⟨h2.1, h1, h2.2⟩
def PutQ (μ μ1 : Memo) (n : Nat) (key ok len : Nat) (f : Nat → Int32) : Prop := (∀ o, o ≠ 2 → o ≠ 3 → o ≠ 4 → o ≠ 39 + n → μ1 o = μ o) ∧ μ1 2 = upd (μ 2) n (nI key) ∧ μ1 3 = upd (μ 3) n (nI ok) ∧ μ1 4 = upd (μ 4) n (nI len) ∧ ∀ q, q < len → μ1 (39 + n) q = f q
theorem c_put {V : VV} {d : Nat} {μ : Memo} {n key ok len : Nat} (hn : n < 14) (hl : len ≤ 96) (h0 : μ 33 0 = nI key) (h1 : μ 33 1 = nI ok) (h3 : μ 33 3 = nI len) : RetU V (d + 1) mX3_put [vR 1, vI (nI n), vR 33] μ (fun μ1 => PutQ μ μ1 n key ok len (μ 34)) := by
  show Go V (d + 1) mX3_put 0 [some (vR 1), some (vI (nI n)), some (vR 33)] [] μ _
  have ea : aref 5 n = some (39 + n) := by
    have : n = 0 ∨ n = 1 ∨ n = 2 ∨ n = 3 ∨ n = 4 ∨ n = 5 ∨ n = 6 ∨ n = 7 ∨ n = 8 ∨ n = 9 ∨ n = 10 ∨ n = 11 ∨ n = 12 ∨ n = 13 := by omega
    rcases this with rfl | rfl | rfl | rfl | rfl | rfl | rfl | rfl | rfl | rfl | rfl | rfl | rfl | rfl <;> rfl
  have el : alen (39 + n) = some 96 := by
    have : n = 0 ∨ n = 1 ∨ n = 2 ∨ n = 3 ∨ n = 4 ∨ n = 5 ∨ n = 6 ∨ n = 7 ∨ n = 8 ∨ n = 9 ∨ n = 10 ∨ n = 11 ∨ n = 12 ∨ n = 13 := by omega
    rcases this with rfl | rfl | rfl | rfl | rfl | rfl | rfl | rfl | rfl | rfl | rfl | rfl | rfl | rfl <;> rfl
  refine Go.aload_n dX3_put_0 rfl ?_
  refine Go.getR dX3_put_1 flX3_9 rfl ?_
  refine Go.iload_n dX3_put_4 rfl ?_
  refine Go.aload_n dX3_put_5 rfl ?_
  refine Go.getI dX3_put_6 flX3_29 rfl ?_
  refine Go.topE (y := nI key) h0 ?_
  refine Go.iastore n dX3_put_9 rfl (by omega) rfl ?_
  refine Go.at 10 rfl ?_
  refine Go.aload_n dX3_put_10 rfl ?_
  refine Go.getR dX3_put_11 flX3_15 rfl ?_
  refine Go.iload_n dX3_put_14 rfl ?_
  refine Go.aload_n dX3_put_15 rfl ?_
  refine Go.getI dX3_put_16 flX3_35 rfl ?_
  refine Go.topE (y := nI ok) (by simp (disch := omega) only [ms_self, ms_ne, upd_self, upd_ne]; exact h1) ?_
  refine Go.iastore n dX3_put_19 rfl (by omega) rfl ?_
  refine Go.at 20 rfl ?_
  refine Go.aload_n dX3_put_20 rfl ?_
  refine Go.getR dX3_put_21 flX3_18 rfl ?_
  refine Go.iload_n dX3_put_24 rfl ?_
  refine Go.aload_n dX3_put_25 rfl ?_
  refine Go.getI dX3_put_26 flX3_37 rfl ?_
  refine Go.topE (y := nI len) (by simp (disch := omega) only [ms_self, ms_ne, upd_self, upd_ne]; exact h3) ?_
  refine Go.iastore n dX3_put_29 rfl (by omega) rfl ?_
  refine Go.at 30 rfl ?_
  refine Go.aload_n dX3_put_30 rfl ?_
  refine Go.getR dX3_put_31 flX3_40 rfl ?_
  refine Go.iconst (v := nI 0) dX3_put_34 rfl ?_
  refine Go.aload_n dX3_put_35 rfl ?_
  refine Go.getR dX3_put_36 flX3_23 rfl ?_
  refine Go.iload_n dX3_put_39 rfl ?_
  refine Go.at 40 rfl ?_
  refine Go.aaload (r := (39 + n)) n dX3_put_40 ea rfl ?_
  refine Go.iconst (v := nI 0) dX3_put_41 rfl ?_
  refine Go.aload_n dX3_put_42 rfl ?_
  refine Go.getI dX3_put_43 flX3_37 rfl ?_
  refine Go.topE (y := nI len) (by simp (disch := omega) only [ms_self, ms_ne, upd_self, upd_ne]; exact h3) ?_
  refine Go.copyi 0 0 len dX3_put_46 acX3 rfl el rfl rfl rfl (by omega) (by omega) (by exact Nat.le_of_ble_eq_true rfl) ?_
  refine Go.vreturn dX3_put_49 rfl ?_
  refine ⟨rfl, fun o a1 a2 a3 a4 => ?_, ?_, ?_, ?_, fun q hq => ?_⟩
  · rw [mw_ne _ _ a4]; simp (disch := omega) only [ms_self, ms_ne, upd_self, upd_ne]
  · rw [mw_ne _ _ (by omega)]; simp (disch := omega) only [ms_self, ms_ne, upd_self, upd_ne]
  · rw [mw_ne _ _ (by omega)]; simp (disch := omega) only [ms_self, ms_ne, upd_self, upd_ne]
  · rw [mw_ne _ _ (by omega)]; simp (disch := omega) only [ms_self, ms_ne, upd_self, upd_ne]
  · rw [mw_self, va_cpy, if_pos ⟨Nat.zero_le _, by omega⟩]; simp (disch := omega) only [ms_self, ms_ne, upd_self, upd_ne]; congr 1; omega
theorem c_text_f {V : VV} {d : Nat} {μ : Memo} {N : Nat} {B : Nat → Nat} (hT : TpC μ N B) {x : Nat} (hff : ffAll N B = .inl x) (hx : x ≤ 96) : RetI V (d + 67) mX8_text [vR 0] μ ((-100) - nI x) (fun μ1 => (∀ o, o ≠ 31 → o ≠ 33 → o ≠ 34 → o ≠ 35 → μ1 o = μ o) ∧ μ1 31 0 = nI 0) := by
  show Go V (d + 67) mX8_text 0 [some (vR 0), none, none] [] μ _
  refine Go.aload_n dX8_text_0 rfl ?_
  refine Go.getR dX8_text_1 flX8_43 rfl ?_
  refine Go.callVx 33 [] [] dX8_text_4 lkX8_208 (Or.inl ⟨_, _, _, rfl, rfl, rfl⟩) rfl (Nat.le_of_ble_eq_true rfl) rfl (Nat.le_of_ble_eq_true rfl) (c_ff_fail hT hff) (fun μ1 h1 => ?_)
  refine Go.istore_n (ls' := [some (vR 0), some (vI (nI x)), none]) dX8_text_7 (by decide) rfl ?_
  refine Go.aload_n dX8_text_8 rfl ?_
  refine Go.getR dX8_text_9 flX8_34 rfl ?_
  refine Go.at 12 rfl ?_
  refine Go.iconst (v := nI 0) dX8_text_12 rfl ?_
  refine Go.put dX8_text_13 flX8_201 rfl rfl rfl rfl ?_
  refine Go.iload_n dX8_text_16 rfl ?_
  refine Go.ldc dX8_text_17 cnX8_118 ?_
  refine Go.icmp_eq_f (tgt := 27) dX8_text_19 (by decide) (by intro z; have := congrArg Int32.toInt z; rw [nT] at this; have e : (-1000000005 : Int32).toInt = -1000000005 := rfl; omega) ?_
  refine Go.bipush (v := (-100)) dX8_text_22 rfl ?_
  refine Go.at 24 rfl ?_
  refine Go.iload_n dX8_text_24 rfl ?_
  refine Go.isub dX8_text_25 ?_
  refine Go.ireturn .int dX8_text_26 rfl rfl ?_
  exact ⟨rfl, fun o a b c e => by simp (disch := omega) only [ms_self, ms_ne, upd_self, upd_ne]; exact h1 o b c e, by simp (disch := omega) only [ms_self, ms_ne, upd_self, upd_ne]⟩
theorem c_text_full {V : VV} {d : Nat} {μ : Memo} {N : Nat} {B : Nat → Nat} (hT : TpC μ N B) {R : List Int32} {ok : Nat} (hff : ffAll N B = .inr (R, ok)) (hn : μ 7 11 = nI 14) : RetI V (d + 67) mX8_text [vR 0] μ (-1000000003) (fun μ1 => (∀ o, o ≠ 31 → o ≠ 33 → o ≠ 34 → o ≠ 35 → μ1 o = μ o) ∧ μ1 31 0 = nI 0) := by
  show Go V (d + 67) mX8_text 0 [some (vR 0), none, none] [] μ _
  refine Go.aload_n dX8_text_0 rfl ?_
  refine Go.getR dX8_text_1 flX8_43 rfl ?_
  refine Go.callVx 33 [] [] dX8_text_4 lkX8_208 (Or.inl ⟨_, _, _, rfl, rfl, rfl⟩) rfl (Nat.le_of_ble_eq_true rfl) rfl (Nat.le_of_ble_eq_true rfl) (c_ff_good hT hff) (fun μ1 h1 => ?_)
  obtain ⟨k1, h3, hA, hok, hke⟩ := h1
  refine Go.istore_n (ls' := [some (vR 0), some (vI (-1000000005)), none]) dX8_text_7 (by decide) rfl ?_
  refine Go.aload_n dX8_text_8 rfl ?_
  refine Go.getR dX8_text_9 flX8_34 rfl ?_
  refine Go.at 12 rfl ?_
  refine Go.iconst (v := nI 0) dX8_text_12 rfl ?_
  refine Go.put dX8_text_13 flX8_201 rfl rfl rfl rfl ?_
  refine Go.iload_n dX8_text_16 rfl ?_
  refine Go.ldc dX8_text_17 cnX8_118 ?_
  refine Go.icmp_eq_t (tgt := 27) dX8_text_19 (by decide) (by decide) ?_
  refine Go.aload_n dX8_text_27 rfl ?_
  refine Go.at 28 rfl ?_
  refine Go.getR dX8_text_28 flX8_21 rfl ?_
  refine Go.getI dX8_text_31 flX8_211 rfl ?_
  refine Go.topE (y := nI 14) (by simp (disch := omega) only [ms_self, ms_ne, upd_self, upd_ne]; rw [k1 7 (by decide) (by decide) (by decide)]; exact hn) ?_
  refine Go.bipush (v := nI 14) dX8_text_34 rfl ?_
  refine Go.icmp_lt_f (tgt := 42) dX8_text_36 (by decide) (by decide) ?_
  refine Go.ldc dX8_text_39 cnX8_172 ?_
  refine Go.ireturn .int dX8_text_41 rfl rfl ?_
  exact ⟨rfl, fun o a b c e => by simp (disch := omega) only [ms_self, ms_ne, upd_self, upd_ne]; exact k1 o b c e, by simp (disch := omega) only [ms_self, ms_ne, upd_self, upd_ne]⟩
theorem c_text_ok {V : VV} {d : Nat} {μ : Memo} {N : Nat} {B : Nat → Nat} (hT : TpC μ N B) {R : List Int32} {ok : Nat} (hff : ffAll N B = .inr (R, ok)) (hR : R.length ≤ 96) {n : Nat} (hn14 : n < 14) (hn : μ 7 11 = nI n) : RetI V (d + 67) mX8_text [vR 0] μ (nI n) (fun μ1 => (∀ o, o ≠ 31 → o ≠ 33 → o ≠ 34 → o ≠ 35 → o ≠ 2 → o ≠ 3 → o ≠ 4 → o ≠ 7 → o ≠ 39 + n → μ1 o = μ o) ∧ μ1 31 0 = nI 0 ∧ μ1 2 = upd (μ 2) n (nI (ffKey N B)) ∧ μ1 3 = upd (μ 3) n (nI ok) ∧ μ1 4 = upd (μ 4) n (nI R.length) ∧ μ1 7 = upd (μ 7) 11 (nI (n + 1)) ∧ ∃ f, ArS f R ∧ ∀ q, q < R.length → μ1 (39 + n) q = f q) := by
  show Go V (d + 67) mX8_text 0 [some (vR 0), none, none] [] μ _
  refine Go.aload_n dX8_text_0 rfl ?_
  refine Go.getR dX8_text_1 flX8_43 rfl ?_
  refine Go.callVx 33 [] [] dX8_text_4 lkX8_208 (Or.inl ⟨_, _, _, rfl, rfl, rfl⟩) rfl (Nat.le_of_ble_eq_true rfl) rfl (Nat.le_of_ble_eq_true rfl) (c_ff_good hT hff) (fun μ1 h1 => ?_)
  obtain ⟨k1, h3, hA, hok, hke⟩ := h1
  refine Go.istore_n (ls' := [some (vR 0), some (vI (-1000000005)), none]) dX8_text_7 (by decide) rfl ?_
  refine Go.aload_n dX8_text_8 rfl ?_
  refine Go.getR dX8_text_9 flX8_34 rfl ?_
  refine Go.at 12 rfl ?_
  refine Go.iconst (v := nI 0) dX8_text_12 rfl ?_
  refine Go.put dX8_text_13 flX8_201 rfl rfl rfl rfl ?_
  refine Go.iload_n dX8_text_16 rfl ?_
  refine Go.ldc dX8_text_17 cnX8_118 ?_
  refine Go.icmp_eq_t (tgt := 27) dX8_text_19 (by decide) (by decide) ?_
  refine Go.aload_n dX8_text_27 rfl ?_
  refine Go.at 28 rfl ?_
  refine Go.getR dX8_text_28 flX8_21 rfl ?_
  refine Go.getI dX8_text_31 flX8_211 rfl ?_
  refine Go.topE (y := nI n) (by simp (disch := omega) only [ms_self, ms_ne, upd_self, upd_ne]; rw [k1 7 (by decide) (by decide) (by decide)]; exact hn) ?_
  refine Go.bipush (v := nI 14) dX8_text_34 rfl ?_
  refine Go.icmp_lt_t (tgt := 42) dX8_text_36 (by decide) (by rw [sI_lt, nT, nT]; omega) ?_
  refine Go.aload_n dX8_text_42 rfl ?_
  refine Go.getR dX8_text_43 flX8_21 rfl ?_
  refine Go.at 46 rfl ?_
  refine Go.getI dX8_text_46 flX8_211 rfl ?_
  refine Go.topE (y := nI n) (by simp (disch := omega) only [ms_self, ms_ne, upd_self, upd_ne]; rw [k1 7 (by decide) (by decide) (by decide)]; exact hn) ?_
  refine Go.istore_n (ls' := [some (vR 0), some (vI (-1000000005)), some (vI (nI n))]) dX8_text_49 (by decide) rfl ?_
  refine Go.aload_n dX8_text_50 rfl ?_
  refine Go.getR dX8_text_51 flX8_10 rfl ?_
  refine Go.iload_n dX8_text_54 rfl ?_
  refine Go.aload_n dX8_text_55 rfl ?_
  refine Go.at 56 rfl ?_
  refine Go.getR dX8_text_56 flX8_43 rfl ?_
  refine Go.callVu 1 [vI (nI n), vR 33] [] dX8_text_59 lkX8_214 (Or.inl ⟨_, _, _, rfl, rfl, rfl⟩) rfl (Nat.le_of_ble_eq_true rfl) rfl (Nat.le_of_ble_eq_true rfl) (c_put (key := ffKey N B) (ok := ok) (len := R.length) hn14 hR (by simp (disch := omega) only [ms_self, ms_ne, upd_self, upd_ne]; exact hke) (by simp (disch := omega) only [ms_self, ms_ne, upd_self, upd_ne]; exact hok) (by simp (disch := omega) only [ms_self, ms_ne, upd_self, upd_ne]; exact h3)) (fun μ2 h2 => ?_)
  refine Go.aload_n dX8_text_62 rfl ?_
  refine Go.getR dX8_text_63 flX8_21 rfl ?_
  refine Go.iload_n dX8_text_66 rfl ?_
  refine Go.iconst (v := nI 1) dX8_text_67 rfl ?_
  refine Go.at 68 rfl ?_
  refine Go.iaddN dX8_text_68 ?_
  refine Go.put dX8_text_69 flX8_211 rfl rfl rfl rfl ?_
  refine Go.iload_n dX8_text_72 rfl ?_
  refine Go.ireturn .int dX8_text_73 rfl rfl ?_
  obtain ⟨p1, p2, p3, p4, p5⟩ := h2
  refine ⟨rfl, fun o a1 a2 a3 a4 a5 a6 a7 a8 a9 => ?_, ?_, ?_, ?_, ?_, ?_, μ1 34, hA, fun q hq => ?_⟩
  · simp (disch := omega) only [ms_self, ms_ne, upd_self, upd_ne]; rw [p1 o a5 a6 a7 a9]; simp (disch := omega) only [ms_self, ms_ne, upd_self, upd_ne]; exact k1 o a2 a3 a4
  · simp (disch := omega) only [ms_self, ms_ne, upd_self, upd_ne]; rw [p1 31 (by decide) (by decide) (by decide) (by omega)]; simp (disch := omega) only [ms_self, ms_ne, upd_self, upd_ne]
  · simp (disch := omega) only [ms_self, ms_ne, upd_self, upd_ne]; rw [p2]; simp (disch := omega) only [ms_self, ms_ne, upd_self, upd_ne]; rw [k1 2 (by decide) (by decide) (by decide)]
  · simp (disch := omega) only [ms_self, ms_ne, upd_self, upd_ne]; rw [p3]; simp (disch := omega) only [ms_self, ms_ne, upd_self, upd_ne]; rw [k1 3 (by decide) (by decide) (by decide)]
  · simp (disch := omega) only [ms_self, ms_ne, upd_self, upd_ne]; rw [p4]; simp (disch := omega) only [ms_self, ms_ne, upd_self, upd_ne]; rw [k1 4 (by decide) (by decide) (by decide)]
  · simp (disch := omega) only [ms_self, ms_ne, upd_self, upd_ne]; rw [p1 7 (by decide) (by decide) (by decide) (by omega)]; simp (disch := omega) only [ms_self, ms_ne, upd_self, upd_ne]; rw [k1 7 (by decide) (by decide) (by decide)]
  · simp (disch := omega) only [ms_self, ms_ne, upd_self, upd_ne]; rw [p5 q hq]; simp (disch := omega) only [ms_self, ms_ne, upd_self, upd_ne]
theorem op_text {V : VV} {d : Nat} {μ : Memo} (h : Sim μ) : OpOK V (d + 67) mX8_text mX9_text [] μ := by
  obtain ⟨N, hN, t1, t2, t3⟩ := h.2.2.2.2.2.2.1
  have hB : ∃ B : Nat → Nat, ∀ j, j < N → μ 32 j = nI (B j) ∧ B j < 256 := by
    refine ⟨fun j => (μ 32 j).toNatClampNeg, fun j hj => ?_⟩
    obtain ⟨-, b, hb, e⟩ := t3 j hj
    have : (μ 32 j).toNatClampNeg = b := by rw [e]; exact clN (by omega)
    show _ = nI (μ 32 j).toNatClampNeg ∧ (μ 32 j).toNatClampNeg < 256
    rw [this]; exact ⟨e, hb⟩
  obtain ⟨B, hB⟩ := hB
  have hTC : TpC μ N B := ⟨hN, t1, hB⟩
  have hTM : TpM μ N B := ⟨hN, t2, fun j hj => ⟨by rw [← (t3 j hj).1]; exact (hB j hj).1, (hB j hj).2⟩⟩
  have hn14 := h.1.1.1
  have hs1 := h.1.1.2.1
  have h711 : μ 7 11 = nI (nX (μ 77)) := by rw [← hs1]; exact h.2.1.2.2.2.2.2.2.2
  have tm : ∀ μ1 : Memo, μ1 76 = μ 76 → μ1 89 = μ 89 → TpM μ1 N B := fun μ1 e1 e2 => ⟨hTM.1, by rw [e1]; exact hTM.2.1, fun j hj => by rw [e2]; exact hTM.2.2 j hj⟩
  have neg : ∀ μ1 μ2 : Memo, (∀ o, o ≠ 31 → o ≠ 33 → o ≠ 34 → o ≠ 35 → μ1 o = μ o) → μ1 31 0 = nI 0 → TxF μ1 μ2 (nX (μ 77)) → μ2 77 1 = μ1 77 1 → Sim μ2 := by
    rintro μ1 μ2 k1 k2 ⟨x1, x2, x3, x4⟩ e1
    have e77 : μ1 77 = μ 77 := k1 77 (by decide) (by decide) (by decide) (by decide)
    have e76 : μ1 76 = μ 76 := k1 76 (by decide) (by decide) (by decide) (by decide)
    refine h.nochg (fun o a1 a2 a3 a4 a5 a6 => by rw [x1 o a5 a6, k1 o a1 a2 a3 a4]) (by rw [x1 31 (by decide) (by decide)]; exact k2) x3 (fun q hq => by rw [x2 q hq, e76]) (fun j hj => ?_)
    by_cases z : j = 1
    · rw [z, e1, e77]
    · rw [x4 j z hj, e77]
  cases hff : ffAll N B with
  | inl x =>
    have hx : x ≤ 96 := by have := ff_le hN hff; omega
    refine OpOK.of (c_text_f hTC hff hx) ?_
    rintro μ1 ⟨k1, k2⟩
    have e77 : μ1 77 = μ 77 := k1 77 (by decide) (by decide) (by decide) (by decide)
    have := m_text (V := V) (d := d) (tm μ1 (k1 76 (by decide) (by decide) (by decide) (by decide)) (k1 89 (by decide) (by decide) (by decide) (by decide))) hn14 (by rw [e77]; exact hs1)
    rw [hff] at this
    refine this.mono ?_
    rintro μ2 ⟨xf, ⟨-, e1⟩ | ⟨-, -, Y, ok, key, -, q, -⟩⟩
    · exact neg μ1 μ2 k1 k2 xf e1
    · rw [hff] at q; contradiction
  | inr o =>
    obtain ⟨R, ok⟩ := o
    by_cases hf : nX (μ 77) = 14
    · refine OpOK.of (c_text_full hTC hff (by rw [h711, hf])) ?_
      rintro μ1 ⟨k1, k2⟩
      have e77 : μ1 77 = μ 77 := k1 77 (by decide) (by decide) (by decide) (by decide)
      have := m_text (V := V) (d := d) (tm μ1 (k1 76 (by decide) (by decide) (by decide) (by decide)) (k1 89 (by decide) (by decide) (by decide) (by decide))) hn14 (by rw [e77]; exact hs1)
      rw [hff] at this
      have ea : ansT (nX (μ 77)) (.inr (R, ok)) = (-1000000003) := by show (if nX (μ 77) = 14 then _ else _) = _; rw [if_pos hf]
      rw [ea] at this
      refine this.mono ?_
      rintro μ2 ⟨xf, ⟨-, e1⟩ | ⟨q, -⟩⟩
      · exact neg μ1 μ2 k1 k2 xf e1
      · exact absurd hf q
    · have hR : R.length ≤ 96 := by have := ff_len hN hff; omega
      refine OpOK.of (c_text_ok hTC hff hR (n := nX (μ 77)) (by omega) h711) ?_
      rintro μ1 ⟨k1, k31, k2, k3, k4, k7, f, hf1, hf2⟩
      have e77 : μ1 77 = μ 77 := k1 77 (by decide) (by decide) (by decide) (by decide) (by decide) (by decide) (by decide) (by decide) (by omega)
      have e76 : μ1 76 = μ 76 := k1 76 (by decide) (by decide) (by decide) (by decide) (by decide) (by decide) (by decide) (by decide) (by omega)
      have e89 : μ1 89 = μ 89 := k1 89 (by decide) (by decide) (by decide) (by decide) (by decide) (by decide) (by decide) (by decide) (by omega)
      have := m_text (V := V) (d := d) (tm μ1 e76 e89) hn14 (by rw [e77]; exact hs1)
      rw [hff] at this
      have ea : ansT (nX (μ 77)) (.inr (R, ok)) = nI (nX (μ 77)) := by show (if nX (μ 77) = 14 then _ else _) = _; rw [if_neg hf]
      rw [ea] at this
      refine this.mono ?_
      rintro μ2 ⟨⟨x1, x2, x3, x4⟩, ⟨⟨x, q | q⟩, e1⟩ | ⟨-, e1, Y, ok2, key, hk3, q, hfk, hY, hoY, hvY, rA, r0, r1, r2⟩⟩
      · rw [hff] at q; contradiction
      · exact absurd q hf
      · rw [hff] at q
        injection q with q
        injection q with qR qo
        subst qR; subst qo
        rw [hfk] at k2
        rw [encX_len] at k4 hf2
        exact h.newtext (n := nX (μ 77)) rfl (by omega) hk3 hY hoY hvY (fun o a1 a2 a3 a4 a5 a6 a7 a8 a9 a10 a11 => by rw [x1 o a5 a6, k1 o a1 a2 a3 a4 a7 a8 a9 a10 a11]) (by rw [x1 31 (by decide) (by decide)]; exact k31) x3 (fun q hq => by rw [x2 q hq, e76]) (fun j a b => by rw [x4 j a b, e77]) e1 (by rw [x1 2 (by decide) (by decide)]; exact k2) (by rw [x1 3 (by decide) (by decide)]; exact k3) (by rw [x1 4 (by decide) (by decide)]; exact k4) (by rw [x1 7 (by decide) (by decide)]; exact k7) (fun q hq => by rw [x1 _ (by omega) (by omega)]; exact hf2 q hq) hf1 r0 r1 r2 rA
