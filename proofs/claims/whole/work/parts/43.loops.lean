theorem rank_inv {b : Nat} (hb : b < 256) : (rankI (nI b) = 1 → b = 124) ∧ (rankI (nI b) = 2 → b = 38) ∧ (rankI (nI b) = 3 → b = 60 ∨ b = 61 ∨ b = 62) ∧ (rankI (nI b) = 4 → b = 43 ∨ b = 45) ∧ (rankI (nI b) = 5 → b = 42 ∨ b = 47) := by
  unfold rankI
  refine ⟨?_, ?_, ?_, ?_, ?_⟩ <;> intro h <;> revert h <;> (repeat' split) <;> intro h <;> first | omega | skip
  all_goals first
    | exact nI_inj (by assumption) hb
    | (rename_i q; rcases q with q | q | q; exact Or.inl (nI_inj q hb); exact Or.inr (Or.inl (nI_inj q hb)); exact Or.inr (Or.inr (nI_inj q hb)))
    | (rename_i q; rcases q with q | q; exact Or.inl (nI_inj q hb); exact Or.inr (nI_inj q hb))
theorem tok_sign {μ : Memo} {N : Nat} {B : Nat → Nat} {p : Nat} (h : TkP μ N B p) (hN : N ≤ 96) (hB : ∀ j, j < N → B j < 256) {c : Nat} (hc : c < 256) (hs : μ 76 17 = nI 3 ∧ μ 76 19 = nI c) : bg N B p < N ∧ B (bg N B p) = c := by
  obtain ⟨z, e⟩ := (h.sgn hN hB hc).mp hs
  exact ⟨srt_pos (B := B) (by rw [z]; decide), e⟩
theorem tok_no {μ : Memo} {N : Nat} {B : Nat → Nat} {p : Nat} (h : TkP μ N B p) (hN : N ≤ 96) (hB : ∀ j, j < N → B j < 256) {c : Nat} (hc : c < 256) (h1 : c ≠ 32) (h2 : ¬ (97 ≤ c ∧ c ≤ 122)) (h3 : ¬ (48 ≤ c ∧ c ≤ 57)) (hs : ¬ (μ 76 17 = nI 3 ∧ μ 76 19 = nI c)) : ¬ (bg N B p < N ∧ B (bg N B p) = c) := by
  rintro ⟨a, b⟩
  exact hs ((h.sgn hN hB hc).mpr ⟨srt_sign a (by omega) (by rw [b]; exact h2) (by rw [b]; exact h3), b⟩)
theorem m_either_lp {V : VV} {N : Nat} {B : Nat → Nat} {key L p : Nat} {μ0 : Memo} {P R : List Int32} {X : List (Int32 × Int32)} {ok k dp tn : Nat} (hN : N ≤ 96) (hB : ∀ j, j < N → B j < 256) (hin : ∀ q, p < q → q ≤ N → CL V mX9_both 8 N B key L 2 q) (h40 : cntL (nI 40) P = dp) (h33 : cntL (nI 33) P = tn) (hP : P = [] ∨ ¬ topS P = nI 33 ∧ rankI (topS P) < 1) {D : Nat} (hD : 6 * (8 - dp) + (8 - tn) + 9 ≤ D + 9) :
    ∀ (n p1 : Nat) (Y : List (Int32 × Int32)) (ok1 : Nat) (Q R1 : List Int32) (μ : Memo), N - p1 < n → LvG μ0 μ N B key L p P R X ok k dp tn 1 2 p1 Y ok1 Q R1 → Go V (D + 9) mX9_either 10 [some (vR 76), some (vI (nI key))] [] μ (dor (fun μ1 => LvS μ0 μ1 N B key L p P R X ok k dp tn 1) (fun μ1 => FlS μ0 μ1 N B key L p P R ok))
  | 0, p1, _, _, _, _, _, hn, _ => absurd hn (by omega)
  | n + 1, p1, Y, ok1, Q, R1, μ, hn, h => by
    have hM := h.1
    have hTk := hM.2.1
    have hp1 := hM.2.2.1
    have hpp := h.2.2.1
    have hlen := h.2.1
    by_cases s1 : μ 76 17 = nI 3 ∧ μ 76 19 = nI 124
    · skip
      obtain ⟨hb, eb⟩ := tok_sign hTk hN hB (by decide) s1
      have hrk : rankI (nI (B (bg N B p1))) = 1 := by rw [eb]; decide
      obtain ⟨hR, hMk⟩ := h.sign (by decide) (by decide) hP hb hrk (hB _ hb)
      have hq := en_gt (B := B) hb
      have hq2 := bg_ge (N := N) (B := B) p1
      have hqN := en_le (N := N) (B := B) (Nat.le_of_lt hb)
      have hPv := hTk.pv hb (Or.inr (Or.inr s1.1)) hN
      rw [eb] at hR hMk
      refine Go.aload_n dX9_either_10 rfl ?_
      refine Go.bipush (v := nI 124) dX9_either_11 rfl ?_
      refine Go.callVi 76 [vI (nI 124)] [] dX9_either_13 lkX9_230 (Or.inl ⟨_, _, _, rfl, rfl, rfl⟩) rfl (Nat.le_of_ble_eq_true rfl) rfl (Nat.le_of_ble_eq_true rfl) (m_isSign (nI 124)) ?_
      refine Go.if_eqb_f (tgt := 43) dX9_either_16 (by decide) s1 ?_
      refine Go.aload_n dX9_either_19 rfl ?_
      refine Go.callVu 76 [] [] dX9_either_20 lkX9_233 (Or.inl ⟨_, _, _, rfl, rfl, rfl⟩) rfl (Nat.le_of_ble_eq_true rfl) rfl (Nat.le_of_ble_eq_true rfl) (m_next hM hPv) (fun μ2 h2 => ?_)
      refine Go.at 23 rfl ?_
      refine Go.aload_n dX9_either_23 rfl ?_
      refine Go.iload_n dX9_either_24 rfl ?_
      refine Go.callVd 76 [vI (nI key)] [] dX9_either_25 lkX9_227 (Or.inl ⟨_, _, _, rfl, rfl, rfl⟩) rfl (Nat.le_of_ble_eq_true rfl) rfl (Nat.le_of_ble_eq_true rfl) (hin _ (by omega) hqN μ0 μ2 (nI 124 :: P) (encX key Y R) (Y ++ X) ok1 (k + 1) dp tn (D + 8) h2 hMk (by rw [cntL, if_neg (by decide)]; exact h40) (by rw [cntL, if_neg (by decide)]; exact h33) (Or.inr ⟨by show ¬ nI 124 = nI 33; decide, by show rankI (nI 124) < 2; decide⟩) (by omega) h.2.2.2.1 (by omega)) (fun μ3 g => ?_) (fun μ3 g => ?_)
      · obtain ⟨p2, Y2, ok2, Q2, R2, g⟩ := g
        have hl2 := g.2.1
        have hM2 := g.1
        have hp2 := g.2.2.1
        have hp3 := hM2.2.2.1
        refine Go.if_ne_t (tgt := 33) dX9_either_28 (by decide) (by decide) ?_
        refine Go.aload_n dX9_either_33 rfl ?_
        refine Go.iconst (v := nI 2) dX9_either_34 rfl ?_
        refine Go.bipush (v := nI 124) dX9_either_35 rfl ?_
        refine Go.callVv 76 [vI (nI 2), vI (nI 124)] [] dX9_either_37 lkX9_236 (Or.inl ⟨_, _, _, rfl, rfl, rfl⟩) rfl (Nat.le_of_ble_eq_true rfl) rfl (Nat.le_of_ble_eq_true rfl) (m_step (L := L) (n := (Y2 ++ (Y ++ X)).length) hM2.2.2.2.2.2.2.2.1 hM2.2.2.2.2.2.2.1 (by have := hM2.2.2.2.1; omega) (nI 2) (nI 124)) ?_
        refine Go.goto (tgt := 10) dX9_either_40 (by decide) ?_
        refine Go.at 10 rfl ?_
        exact m_either_lp hN hB hin h40 h33 hP hD n p2 _ ok2 _ R2 _ (by omega) (h.join hR (by omega) (by decide) (by decide) (by decide) g (hM2.step (by omega) _ _))
      · skip
        refine Go.if_ne_f (tgt := 33) dX9_either_28 (by decide) (by decide) ?_
        refine Go.iconst (v := nI 0) dX9_either_31 rfl ?_
        refine Go.ireturn .boolean dX9_either_32 rfl rfl ?_
        exact Or.inr ⟨rfl, by obtain ⟨pf, q1, q2, q3, q4⟩ := g; exact ⟨pf, q1, q2, q3, hR.flt q4⟩⟩
    · skip
      have hne : tkr N B p1 ≠ 1 := by
        intro z
        unfold tkr at z
        split at z
        · rename_i hb
          have ri := (rank_inv (hB _ hb)).1 z
          exact tok_no hTk hN hB (by decide) (by decide) (by decide) (by decide) s1 ⟨hb, ri⟩
        · omega
      refine Go.aload_n dX9_either_10 rfl ?_
      refine Go.bipush (v := nI 124) dX9_either_11 rfl ?_
      refine Go.callVi 76 [vI (nI 124)] [] dX9_either_13 lkX9_230 (Or.inl ⟨_, _, _, rfl, rfl, rfl⟩) rfl (Nat.le_of_ble_eq_true rfl) rfl (Nat.le_of_ble_eq_true rfl) (m_isSign (nI 124)) ?_
      refine Go.if_eqb_t (tgt := 43) dX9_either_16 (by decide) s1 ?_
      refine Go.iconst (v := nI 1) dX9_either_43 rfl ?_
      refine Go.ireturn .boolean dX9_either_44 rfl rfl ?_
      exact Or.inl ⟨rfl, h.exit hne⟩
theorem m_both_lp {V : VV} {N : Nat} {B : Nat → Nat} {key L p : Nat} {μ0 : Memo} {P R : List Int32} {X : List (Int32 × Int32)} {ok k dp tn : Nat} (hN : N ≤ 96) (hB : ∀ j, j < N → B j < 256) (hin : ∀ q, p < q → q ≤ N → CL V mX9_test 7 N B key L 3 q) (h40 : cntL (nI 40) P = dp) (h33 : cntL (nI 33) P = tn) (hP : P = [] ∨ ¬ topS P = nI 33 ∧ rankI (topS P) < 2) {D : Nat} (hD : 6 * (8 - dp) + (8 - tn) + 8 ≤ D + 8) :
    ∀ (n p1 : Nat) (Y : List (Int32 × Int32)) (ok1 : Nat) (Q R1 : List Int32) (μ : Memo), N - p1 < n → LvG μ0 μ N B key L p P R X ok k dp tn 2 3 p1 Y ok1 Q R1 → Go V (D + 8) mX9_both 10 [some (vR 76), some (vI (nI key))] [] μ (dor (fun μ1 => LvS μ0 μ1 N B key L p P R X ok k dp tn 2) (fun μ1 => FlS μ0 μ1 N B key L p P R ok))
  | 0, p1, _, _, _, _, _, hn, _ => absurd hn (by omega)
  | n + 1, p1, Y, ok1, Q, R1, μ, hn, h => by
    have hM := h.1
    have hTk := hM.2.1
    have hp1 := hM.2.2.1
    have hpp := h.2.2.1
    have hlen := h.2.1
    by_cases s1 : μ 76 17 = nI 3 ∧ μ 76 19 = nI 38
    · skip
      obtain ⟨hb, eb⟩ := tok_sign hTk hN hB (by decide) s1
      have hrk : rankI (nI (B (bg N B p1))) = 2 := by rw [eb]; decide
      obtain ⟨hR, hMk⟩ := h.sign (by decide) (by decide) hP hb hrk (hB _ hb)
      have hq := en_gt (B := B) hb
      have hq2 := bg_ge (N := N) (B := B) p1
      have hqN := en_le (N := N) (B := B) (Nat.le_of_lt hb)
      have hPv := hTk.pv hb (Or.inr (Or.inr s1.1)) hN
      rw [eb] at hR hMk
      refine Go.aload_n dX9_both_10 rfl ?_
      refine Go.bipush (v := nI 38) dX9_both_11 rfl ?_
      refine Go.callVi 76 [vI (nI 38)] [] dX9_both_13 lkX9_230 (Or.inl ⟨_, _, _, rfl, rfl, rfl⟩) rfl (Nat.le_of_ble_eq_true rfl) rfl (Nat.le_of_ble_eq_true rfl) (m_isSign (nI 38)) ?_
      refine Go.if_eqb_f (tgt := 43) dX9_both_16 (by decide) s1 ?_
      refine Go.aload_n dX9_both_19 rfl ?_
      refine Go.callVu 76 [] [] dX9_both_20 lkX9_233 (Or.inl ⟨_, _, _, rfl, rfl, rfl⟩) rfl (Nat.le_of_ble_eq_true rfl) rfl (Nat.le_of_ble_eq_true rfl) (m_next hM hPv) (fun μ2 h2 => ?_)
      refine Go.at 23 rfl ?_
      refine Go.aload_n dX9_both_23 rfl ?_
      refine Go.iload_n dX9_both_24 rfl ?_
      refine Go.callVd 76 [vI (nI key)] [] dX9_both_25 lkX9_240 (Or.inl ⟨_, _, _, rfl, rfl, rfl⟩) rfl (Nat.le_of_ble_eq_true rfl) rfl (Nat.le_of_ble_eq_true rfl) (hin _ (by omega) hqN μ0 μ2 (nI 38 :: P) (encX key Y R) (Y ++ X) ok1 (k + 1) dp tn (D + 7) h2 hMk (by rw [cntL, if_neg (by decide)]; exact h40) (by rw [cntL, if_neg (by decide)]; exact h33) (Or.inr ⟨by show ¬ nI 38 = nI 33; decide, by show rankI (nI 38) < 3; decide⟩) (by omega) h.2.2.2.1 (by omega)) (fun μ3 g => ?_) (fun μ3 g => ?_)
      · obtain ⟨p2, Y2, ok2, Q2, R2, g⟩ := g
        have hl2 := g.2.1
        have hM2 := g.1
        have hp2 := g.2.2.1
        have hp3 := hM2.2.2.1
        refine Go.if_ne_t (tgt := 33) dX9_both_28 (by decide) (by decide) ?_
        refine Go.aload_n dX9_both_33 rfl ?_
        refine Go.iconst (v := nI 2) dX9_both_34 rfl ?_
        refine Go.bipush (v := nI 38) dX9_both_35 rfl ?_
        refine Go.callVv 76 [vI (nI 2), vI (nI 38)] [] dX9_both_37 lkX9_236 (Or.inl ⟨_, _, _, rfl, rfl, rfl⟩) rfl (Nat.le_of_ble_eq_true rfl) rfl (Nat.le_of_ble_eq_true rfl) (m_step (L := L) (n := (Y2 ++ (Y ++ X)).length) hM2.2.2.2.2.2.2.2.1 hM2.2.2.2.2.2.2.1 (by have := hM2.2.2.2.1; omega) (nI 2) (nI 38)) ?_
        refine Go.goto (tgt := 10) dX9_both_40 (by decide) ?_
        refine Go.at 10 rfl ?_
        exact m_both_lp hN hB hin h40 h33 hP hD n p2 _ ok2 _ R2 _ (by omega) (h.join hR (by omega) (by decide) (by decide) (by decide) g (hM2.step (by omega) _ _))
      · skip
        refine Go.if_ne_f (tgt := 33) dX9_both_28 (by decide) (by decide) ?_
        refine Go.iconst (v := nI 0) dX9_both_31 rfl ?_
        refine Go.ireturn .boolean dX9_both_32 rfl rfl ?_
        exact Or.inr ⟨rfl, by obtain ⟨pf, q1, q2, q3, q4⟩ := g; exact ⟨pf, q1, q2, q3, hR.flt q4⟩⟩
    · skip
      have hne : tkr N B p1 ≠ 2 := by
        intro z
        unfold tkr at z
        split at z
        · rename_i hb
          have ri := (rank_inv (hB _ hb)).2.1 z
          exact tok_no hTk hN hB (by decide) (by decide) (by decide) (by decide) s1 ⟨hb, ri⟩
        · omega
      refine Go.aload_n dX9_both_10 rfl ?_
      refine Go.bipush (v := nI 38) dX9_both_11 rfl ?_
      refine Go.callVi 76 [vI (nI 38)] [] dX9_both_13 lkX9_230 (Or.inl ⟨_, _, _, rfl, rfl, rfl⟩) rfl (Nat.le_of_ble_eq_true rfl) rfl (Nat.le_of_ble_eq_true rfl) (m_isSign (nI 38)) ?_
      refine Go.if_eqb_t (tgt := 43) dX9_both_16 (by decide) s1 ?_
      refine Go.iconst (v := nI 1) dX9_both_43 rfl ?_
      refine Go.ireturn .boolean dX9_both_44 rfl rfl ?_
      exact Or.inl ⟨rfl, h.exit hne⟩
theorem m_sum_lp {V : VV} {N : Nat} {B : Nat → Nat} {key L p : Nat} {μ0 : Memo} {P R : List Int32} {X : List (Int32 × Int32)} {ok k dp tn : Nat} (hN : N ≤ 96) (hB : ∀ j, j < N → B j < 256) (hin : ∀ q, p < q → q ≤ N → CL V mX9_term 5 N B key L 5 q) (h40 : cntL (nI 40) P = dp) (h33 : cntL (nI 33) P = tn) (hP : P = [] ∨ ¬ topS P = nI 33 ∧ rankI (topS P) < 4) {D : Nat} (hD : 6 * (8 - dp) + (8 - tn) + 6 ≤ D + 6) :
    ∀ (n p1 : Nat) (Y : List (Int32 × Int32)) (ok1 : Nat) (Q R1 : List Int32) (μ : Memo), N - p1 < n → LvG μ0 μ N B key L p P R X ok k dp tn 4 5 p1 Y ok1 Q R1 → Go V (D + 6) mX9_sum 10 [some (vR 76), some (vI (nI key)), none] [] μ (dor (fun μ1 => LvS μ0 μ1 N B key L p P R X ok k dp tn 4) (fun μ1 => FlS μ0 μ1 N B key L p P R ok))
  | 0, p1, _, _, _, _, _, hn, _ => absurd hn (by omega)
  | n + 1, p1, Y, ok1, Q, R1, μ, hn, h => by
    have hM := h.1
    have hTk := hM.2.1
    have hp1 := hM.2.2.1
    have hpp := h.2.2.1
    have hlen := h.2.1
    by_cases s1 : μ 76 17 = nI 3 ∧ μ 76 19 = nI 43
    · skip
      obtain ⟨hb, eb⟩ := tok_sign hTk hN hB (by decide) s1
      have hrk : rankI (nI (B (bg N B p1))) = 4 := by rw [eb]; decide
      obtain ⟨hR, hMk⟩ := h.sign (by decide) (by decide) hP hb hrk (hB _ hb)
      have hq := en_gt (B := B) hb
      have hq2 := bg_ge (N := N) (B := B) p1
      have hqN := en_le (N := N) (B := B) (Nat.le_of_lt hb)
      have hPv := hTk.pv hb (Or.inr (Or.inr s1.1)) hN
      rw [eb] at hR hMk
      refine Go.aload_n dX9_sum_10 rfl ?_
      refine Go.bipush (v := nI 43) dX9_sum_11 rfl ?_
      refine Go.callVi 76 [vI (nI 43)] [] dX9_sum_13 lkX9_230 (Or.inl ⟨_, _, _, rfl, rfl, rfl⟩) rfl (Nat.le_of_ble_eq_true rfl) rfl (Nat.le_of_ble_eq_true rfl) (m_isSign (nI 43)) ?_
      refine Go.if_neb_t (tgt := 28) dX9_sum_16 (by decide) s1 ?_
      refine Go.aload_n dX9_sum_28 rfl ?_
      refine Go.getI dX9_sum_29 flX9_208 rfl ?_
      refine Go.topE (y := nI 43) s1.2 ?_
      refine Go.at 32 rfl ?_
      refine Go.istore_n (ls' := [some (vR 76), some (vI (nI key)), some (vI (nI 43))]) dX9_sum_32 (by decide) rfl ?_
      refine Go.aload_n dX9_sum_33 rfl ?_
      refine Go.callVu 76 [] [] dX9_sum_34 lkX9_233 (Or.inl ⟨_, _, _, rfl, rfl, rfl⟩) rfl (Nat.le_of_ble_eq_true rfl) rfl (Nat.le_of_ble_eq_true rfl) (m_next hM hPv) (fun μ2 h2 => ?_)
      refine Go.aload_n dX9_sum_37 rfl ?_
      refine Go.iload_n dX9_sum_38 rfl ?_
      refine Go.callVd 76 [vI (nI key)] [] dX9_sum_39 lkX9_246 (Or.inl ⟨_, _, _, rfl, rfl, rfl⟩) rfl (Nat.le_of_ble_eq_true rfl) rfl (Nat.le_of_ble_eq_true rfl) (hin _ (by omega) hqN μ0 μ2 (nI 43 :: P) (encX key Y R) (Y ++ X) ok1 (k + 1) dp tn (D + 5) h2 hMk (by rw [cntL, if_neg (by decide)]; exact h40) (by rw [cntL, if_neg (by decide)]; exact h33) (Or.inr ⟨by show ¬ nI 43 = nI 33; decide, by show rankI (nI 43) < 5; decide⟩) (by omega) h.2.2.2.1 (by omega)) (fun μ3 g => ?_) (fun μ3 g => ?_)
      · obtain ⟨p2, Y2, ok2, Q2, R2, g⟩ := g
        have hl2 := g.2.1
        have hM2 := g.1
        have hp2 := g.2.2.1
        have hp3 := hM2.2.2.1
        refine Go.if_ne_t (tgt := 47) dX9_sum_42 (by decide) (by decide) ?_
        refine Go.aload_n dX9_sum_47 rfl ?_
        refine Go.iconst (v := nI 2) dX9_sum_48 rfl ?_
        refine Go.iload_n dX9_sum_49 rfl ?_
        refine Go.callVv 76 [vI (nI 2), vI (nI 43)] [] dX9_sum_50 lkX9_236 (Or.inl ⟨_, _, _, rfl, rfl, rfl⟩) rfl (Nat.le_of_ble_eq_true rfl) rfl (Nat.le_of_ble_eq_true rfl) (m_step (L := L) (n := (Y2 ++ (Y ++ X)).length) hM2.2.2.2.2.2.2.2.1 hM2.2.2.2.2.2.2.1 (by have := hM2.2.2.2.1; omega) (nI 2) (nI 43)) ?_
        refine Go.goto (tgt := 10) dX9_sum_53 (by decide) ?_
        refine Go.at 10 rfl ?_
        refine Go.mask [true, true, false] rfl ?_
        exact m_sum_lp hN hB hin h40 h33 hP hD n p2 _ ok2 _ R2 _ (by omega) (h.join hR (by omega) (by decide) (by decide) (by decide) g (hM2.step (by omega) _ _))
      · skip
        refine Go.if_ne_f (tgt := 47) dX9_sum_42 (by decide) (by decide) ?_
        refine Go.iconst (v := nI 0) dX9_sum_45 rfl ?_
        refine Go.ireturn .boolean dX9_sum_46 rfl rfl ?_
        exact Or.inr ⟨rfl, by obtain ⟨pf, q1, q2, q3, q4⟩ := g; exact ⟨pf, q1, q2, q3, hR.flt q4⟩⟩
    · by_cases s2 : μ 76 17 = nI 3 ∧ μ 76 19 = nI 45
      · skip
        obtain ⟨hb, eb⟩ := tok_sign hTk hN hB (by decide) s2
        have hrk : rankI (nI (B (bg N B p1))) = 4 := by rw [eb]; decide
        obtain ⟨hR, hMk⟩ := h.sign (by decide) (by decide) hP hb hrk (hB _ hb)
        have hq := en_gt (B := B) hb
        have hq2 := bg_ge (N := N) (B := B) p1
        have hqN := en_le (N := N) (B := B) (Nat.le_of_lt hb)
        have hPv := hTk.pv hb (Or.inr (Or.inr s2.1)) hN
        rw [eb] at hR hMk
        refine Go.aload_n dX9_sum_10 rfl ?_
        refine Go.bipush (v := nI 43) dX9_sum_11 rfl ?_
        refine Go.callVi 76 [vI (nI 43)] [] dX9_sum_13 lkX9_230 (Or.inl ⟨_, _, _, rfl, rfl, rfl⟩) rfl (Nat.le_of_ble_eq_true rfl) rfl (Nat.le_of_ble_eq_true rfl) (m_isSign (nI 43)) ?_
        refine Go.if_neb_f (tgt := 28) dX9_sum_16 (by decide) s1 ?_
        refine Go.aload_n dX9_sum_19 rfl ?_
        refine Go.bipush (v := nI 45) dX9_sum_20 rfl ?_
        refine Go.at 22 rfl ?_
        refine Go.callVi 76 [vI (nI 45)] [] dX9_sum_22 lkX9_230 (Or.inl ⟨_, _, _, rfl, rfl, rfl⟩) rfl (Nat.le_of_ble_eq_true rfl) rfl (Nat.le_of_ble_eq_true rfl) (m_isSign (nI 45)) ?_
        refine Go.if_eqb_f (tgt := 56) dX9_sum_25 (by decide) s2 ?_
        refine Go.aload_n dX9_sum_28 rfl ?_
        refine Go.getI dX9_sum_29 flX9_208 rfl ?_
        refine Go.topE (y := nI 45) s2.2 ?_
        refine Go.istore_n (ls' := [some (vR 76), some (vI (nI key)), some (vI (nI 45))]) dX9_sum_32 (by decide) rfl ?_
        refine Go.aload_n dX9_sum_33 rfl ?_
        refine Go.at 34 rfl ?_
        refine Go.callVu 76 [] [] dX9_sum_34 lkX9_233 (Or.inl ⟨_, _, _, rfl, rfl, rfl⟩) rfl (Nat.le_of_ble_eq_true rfl) rfl (Nat.le_of_ble_eq_true rfl) (m_next hM hPv) (fun μ2 h2 => ?_)
        refine Go.aload_n dX9_sum_37 rfl ?_
        refine Go.iload_n dX9_sum_38 rfl ?_
        refine Go.callVd 76 [vI (nI key)] [] dX9_sum_39 lkX9_246 (Or.inl ⟨_, _, _, rfl, rfl, rfl⟩) rfl (Nat.le_of_ble_eq_true rfl) rfl (Nat.le_of_ble_eq_true rfl) (hin _ (by omega) hqN μ0 μ2 (nI 45 :: P) (encX key Y R) (Y ++ X) ok1 (k + 1) dp tn (D + 5) h2 hMk (by rw [cntL, if_neg (by decide)]; exact h40) (by rw [cntL, if_neg (by decide)]; exact h33) (Or.inr ⟨by show ¬ nI 45 = nI 33; decide, by show rankI (nI 45) < 5; decide⟩) (by omega) h.2.2.2.1 (by omega)) (fun μ3 g => ?_) (fun μ3 g => ?_)
        · obtain ⟨p2, Y2, ok2, Q2, R2, g⟩ := g
          have hl2 := g.2.1
          have hM2 := g.1
          have hp2 := g.2.2.1
          have hp3 := hM2.2.2.1
          refine Go.if_ne_t (tgt := 47) dX9_sum_42 (by decide) (by decide) ?_
          refine Go.aload_n dX9_sum_47 rfl ?_
          refine Go.iconst (v := nI 2) dX9_sum_48 rfl ?_
          refine Go.iload_n dX9_sum_49 rfl ?_
          refine Go.callVv 76 [vI (nI 2), vI (nI 45)] [] dX9_sum_50 lkX9_236 (Or.inl ⟨_, _, _, rfl, rfl, rfl⟩) rfl (Nat.le_of_ble_eq_true rfl) rfl (Nat.le_of_ble_eq_true rfl) (m_step (L := L) (n := (Y2 ++ (Y ++ X)).length) hM2.2.2.2.2.2.2.2.1 hM2.2.2.2.2.2.2.1 (by have := hM2.2.2.2.1; omega) (nI 2) (nI 45)) ?_
          refine Go.goto (tgt := 10) dX9_sum_53 (by decide) ?_
          refine Go.at 10 rfl ?_
          refine Go.mask [true, true, false] rfl ?_
          exact m_sum_lp hN hB hin h40 h33 hP hD n p2 _ ok2 _ R2 _ (by omega) (h.join hR (by omega) (by decide) (by decide) (by decide) g (hM2.step (by omega) _ _))
        · skip
          refine Go.if_ne_f (tgt := 47) dX9_sum_42 (by decide) (by decide) ?_
          refine Go.iconst (v := nI 0) dX9_sum_45 rfl ?_
          refine Go.ireturn .boolean dX9_sum_46 rfl rfl ?_
          exact Or.inr ⟨rfl, by obtain ⟨pf, q1, q2, q3, q4⟩ := g; exact ⟨pf, q1, q2, q3, hR.flt q4⟩⟩
      · skip
        have hne : tkr N B p1 ≠ 4 := by
          intro z
          unfold tkr at z
          split at z
          · rename_i hb
            have ri := (rank_inv (hB _ hb)).2.2.2.1 z
            rcases ri with ri | ri
            · exact tok_no hTk hN hB (by decide) (by decide) (by decide) (by decide) s1 ⟨hb, ri⟩
            · exact tok_no hTk hN hB (by decide) (by decide) (by decide) (by decide) s2 ⟨hb, ri⟩
          · omega
        refine Go.aload_n dX9_sum_10 rfl ?_
        refine Go.bipush (v := nI 43) dX9_sum_11 rfl ?_
        refine Go.callVi 76 [vI (nI 43)] [] dX9_sum_13 lkX9_230 (Or.inl ⟨_, _, _, rfl, rfl, rfl⟩) rfl (Nat.le_of_ble_eq_true rfl) rfl (Nat.le_of_ble_eq_true rfl) (m_isSign (nI 43)) ?_
        refine Go.if_neb_f (tgt := 28) dX9_sum_16 (by decide) s1 ?_
        refine Go.aload_n dX9_sum_19 rfl ?_
        refine Go.bipush (v := nI 45) dX9_sum_20 rfl ?_
        refine Go.at 22 rfl ?_
        refine Go.callVi 76 [vI (nI 45)] [] dX9_sum_22 lkX9_230 (Or.inl ⟨_, _, _, rfl, rfl, rfl⟩) rfl (Nat.le_of_ble_eq_true rfl) rfl (Nat.le_of_ble_eq_true rfl) (m_isSign (nI 45)) ?_
        refine Go.if_eqb_t (tgt := 56) dX9_sum_25 (by decide) s2 ?_
        refine Go.iconst (v := nI 1) dX9_sum_56 rfl ?_
        refine Go.ireturn .boolean dX9_sum_57 rfl rfl ?_
        exact Or.inl ⟨rfl, h.exit hne⟩
theorem m_term_lp {V : VV} {N : Nat} {B : Nat → Nat} {key L p : Nat} {μ0 : Memo} {P R : List Int32} {X : List (Int32 × Int32)} {ok k dp tn : Nat} (hN : N ≤ 96) (hB : ∀ j, j < N → B j < 256) (hin : ∀ q, p < q → q ≤ N → CP0 V N B key L q) (h40 : cntL (nI 40) P = dp) (h33 : cntL (nI 33) P = tn) (hP : P = [] ∨ ¬ topS P = nI 33 ∧ rankI (topS P) < 5) {D : Nat} (hD : 6 * (8 - dp) + (8 - tn) + 5 ≤ D + 5) :
    ∀ (n p1 : Nat) (Y : List (Int32 × Int32)) (ok1 : Nat) (Q R1 : List Int32) (μ : Memo), N - p1 < n → LvG μ0 μ N B key L p P R X ok k dp tn 5 6 p1 Y ok1 Q R1 → Go V (D + 5) mX9_term 10 [some (vR 76), some (vI (nI key)), none] [] μ (dor (fun μ1 => LvS μ0 μ1 N B key L p P R X ok k dp tn 5) (fun μ1 => FlS μ0 μ1 N B key L p P R ok))
  | 0, p1, _, _, _, _, _, hn, _ => absurd hn (by omega)
  | n + 1, p1, Y, ok1, Q, R1, μ, hn, h => by
    have hM := h.1
    have hTk := hM.2.1
    have hp1 := hM.2.2.1
    have hpp := h.2.2.1
    have hlen := h.2.1
    by_cases s1 : μ 76 17 = nI 3 ∧ μ 76 19 = nI 42
    · skip
      obtain ⟨hb, eb⟩ := tok_sign hTk hN hB (by decide) s1
      have hrk : rankI (nI (B (bg N B p1))) = 5 := by rw [eb]; decide
      obtain ⟨hR, hMk⟩ := h.sign (by decide) (by decide) hP hb hrk (hB _ hb)
      have hq := en_gt (B := B) hb
      have hq2 := bg_ge (N := N) (B := B) p1
      have hqN := en_le (N := N) (B := B) (Nat.le_of_lt hb)
      have hPv := hTk.pv hb (Or.inr (Or.inr s1.1)) hN
      rw [eb] at hR hMk
      refine Go.aload_n dX9_term_10 rfl ?_
      refine Go.bipush (v := nI 42) dX9_term_11 rfl ?_
      refine Go.callVi 76 [vI (nI 42)] [] dX9_term_13 lkX9_230 (Or.inl ⟨_, _, _, rfl, rfl, rfl⟩) rfl (Nat.le_of_ble_eq_true rfl) rfl (Nat.le_of_ble_eq_true rfl) (m_isSign (nI 42)) ?_
      refine Go.if_neb_t (tgt := 28) dX9_term_16 (by decide) s1 ?_
      refine Go.aload_n dX9_term_28 rfl ?_
      refine Go.getI dX9_term_29 flX9_208 rfl ?_
      refine Go.topE (y := nI 42) s1.2 ?_
      refine Go.at 32 rfl ?_
      refine Go.istore_n (ls' := [some (vR 76), some (vI (nI key)), some (vI (nI 42))]) dX9_term_32 (by decide) rfl ?_
      refine Go.aload_n dX9_term_33 rfl ?_
      refine Go.callVu 76 [] [] dX9_term_34 lkX9_233 (Or.inl ⟨_, _, _, rfl, rfl, rfl⟩) rfl (Nat.le_of_ble_eq_true rfl) rfl (Nat.le_of_ble_eq_true rfl) (m_next hM hPv) (fun μ2 h2 => ?_)
      refine Go.aload_n dX9_term_37 rfl ?_
      refine Go.iload_n dX9_term_38 rfl ?_
      refine Go.callVd 76 [vI (nI key)] [] dX9_term_39 lkX9_249 (Or.inl ⟨_, _, _, rfl, rfl, rfl⟩) rfl (Nat.le_of_ble_eq_true rfl) rfl (Nat.le_of_ble_eq_true rfl) (hin _ (by omega) hqN μ0 μ2 (nI 42 :: P) (encX key Y R) (Y ++ X) ok1 (k + 1) dp tn (D + 4) h2 hMk (by rw [cntL, if_neg (by decide)]; exact h40) (by rw [cntL, if_neg (by decide)]; exact h33) (by omega) h.2.2.2.1 (by omega)) (fun μ3 g => ?_) (fun μ3 g => ?_)
      · obtain ⟨p2, Y2, ok2, Q2, R2, g⟩ := g.lv (Or.inr (by show ¬ nI 42 = nI 33; decide))
        have hl2 := g.2.1
        have hM2 := g.1
        have hp2 := g.2.2.1
        have hp3 := hM2.2.2.1
        refine Go.if_ne_t (tgt := 47) dX9_term_42 (by decide) (by decide) ?_
        refine Go.aload_n dX9_term_47 rfl ?_
        refine Go.iconst (v := nI 2) dX9_term_48 rfl ?_
        refine Go.iload_n dX9_term_49 rfl ?_
        refine Go.callVv 76 [vI (nI 2), vI (nI 42)] [] dX9_term_50 lkX9_236 (Or.inl ⟨_, _, _, rfl, rfl, rfl⟩) rfl (Nat.le_of_ble_eq_true rfl) rfl (Nat.le_of_ble_eq_true rfl) (m_step (L := L) (n := (Y2 ++ (Y ++ X)).length) hM2.2.2.2.2.2.2.2.1 hM2.2.2.2.2.2.2.1 (by have := hM2.2.2.2.1; omega) (nI 2) (nI 42)) ?_
        refine Go.goto (tgt := 10) dX9_term_53 (by decide) ?_
        refine Go.at 10 rfl ?_
        refine Go.mask [true, true, false] rfl ?_
        exact m_term_lp hN hB hin h40 h33 hP hD n p2 _ ok2 _ R2 _ (by omega) (h.join hR (by omega) (by decide) (by decide) (by decide) g (hM2.step (by omega) _ _))
      · skip
        refine Go.if_ne_f (tgt := 47) dX9_term_42 (by decide) (by decide) ?_
        refine Go.iconst (v := nI 0) dX9_term_45 rfl ?_
        refine Go.ireturn .boolean dX9_term_46 rfl rfl ?_
        exact Or.inr ⟨rfl, by obtain ⟨pf, q1, q2, q3, q4⟩ := g; exact ⟨pf, q1, q2, q3, hR.flt q4⟩⟩
    · by_cases s2 : μ 76 17 = nI 3 ∧ μ 76 19 = nI 47
      · skip
        obtain ⟨hb, eb⟩ := tok_sign hTk hN hB (by decide) s2
        have hrk : rankI (nI (B (bg N B p1))) = 5 := by rw [eb]; decide
        obtain ⟨hR, hMk⟩ := h.sign (by decide) (by decide) hP hb hrk (hB _ hb)
        have hq := en_gt (B := B) hb
        have hq2 := bg_ge (N := N) (B := B) p1
        have hqN := en_le (N := N) (B := B) (Nat.le_of_lt hb)
        have hPv := hTk.pv hb (Or.inr (Or.inr s2.1)) hN
        rw [eb] at hR hMk
        refine Go.aload_n dX9_term_10 rfl ?_
        refine Go.bipush (v := nI 42) dX9_term_11 rfl ?_
        refine Go.callVi 76 [vI (nI 42)] [] dX9_term_13 lkX9_230 (Or.inl ⟨_, _, _, rfl, rfl, rfl⟩) rfl (Nat.le_of_ble_eq_true rfl) rfl (Nat.le_of_ble_eq_true rfl) (m_isSign (nI 42)) ?_
        refine Go.if_neb_f (tgt := 28) dX9_term_16 (by decide) s1 ?_
        refine Go.aload_n dX9_term_19 rfl ?_
        refine Go.bipush (v := nI 47) dX9_term_20 rfl ?_
        refine Go.at 22 rfl ?_
        refine Go.callVi 76 [vI (nI 47)] [] dX9_term_22 lkX9_230 (Or.inl ⟨_, _, _, rfl, rfl, rfl⟩) rfl (Nat.le_of_ble_eq_true rfl) rfl (Nat.le_of_ble_eq_true rfl) (m_isSign (nI 47)) ?_
        refine Go.if_eqb_f (tgt := 56) dX9_term_25 (by decide) s2 ?_
        refine Go.aload_n dX9_term_28 rfl ?_
        refine Go.getI dX9_term_29 flX9_208 rfl ?_
        refine Go.topE (y := nI 47) s2.2 ?_
        refine Go.istore_n (ls' := [some (vR 76), some (vI (nI key)), some (vI (nI 47))]) dX9_term_32 (by decide) rfl ?_
        refine Go.aload_n dX9_term_33 rfl ?_
        refine Go.at 34 rfl ?_
        refine Go.callVu 76 [] [] dX9_term_34 lkX9_233 (Or.inl ⟨_, _, _, rfl, rfl, rfl⟩) rfl (Nat.le_of_ble_eq_true rfl) rfl (Nat.le_of_ble_eq_true rfl) (m_next hM hPv) (fun μ2 h2 => ?_)
        refine Go.aload_n dX9_term_37 rfl ?_
        refine Go.iload_n dX9_term_38 rfl ?_
        refine Go.callVd 76 [vI (nI key)] [] dX9_term_39 lkX9_249 (Or.inl ⟨_, _, _, rfl, rfl, rfl⟩) rfl (Nat.le_of_ble_eq_true rfl) rfl (Nat.le_of_ble_eq_true rfl) (hin _ (by omega) hqN μ0 μ2 (nI 47 :: P) (encX key Y R) (Y ++ X) ok1 (k + 1) dp tn (D + 4) h2 hMk (by rw [cntL, if_neg (by decide)]; exact h40) (by rw [cntL, if_neg (by decide)]; exact h33) (by omega) h.2.2.2.1 (by omega)) (fun μ3 g => ?_) (fun μ3 g => ?_)
        · obtain ⟨p2, Y2, ok2, Q2, R2, g⟩ := g.lv (Or.inr (by show ¬ nI 47 = nI 33; decide))
          have hl2 := g.2.1
          have hM2 := g.1
          have hp2 := g.2.2.1
          have hp3 := hM2.2.2.1
          refine Go.if_ne_t (tgt := 47) dX9_term_42 (by decide) (by decide) ?_
          refine Go.aload_n dX9_term_47 rfl ?_
          refine Go.iconst (v := nI 2) dX9_term_48 rfl ?_
          refine Go.iload_n dX9_term_49 rfl ?_
          refine Go.callVv 76 [vI (nI 2), vI (nI 47)] [] dX9_term_50 lkX9_236 (Or.inl ⟨_, _, _, rfl, rfl, rfl⟩) rfl (Nat.le_of_ble_eq_true rfl) rfl (Nat.le_of_ble_eq_true rfl) (m_step (L := L) (n := (Y2 ++ (Y ++ X)).length) hM2.2.2.2.2.2.2.2.1 hM2.2.2.2.2.2.2.1 (by have := hM2.2.2.2.1; omega) (nI 2) (nI 47)) ?_
          refine Go.goto (tgt := 10) dX9_term_53 (by decide) ?_
          refine Go.at 10 rfl ?_
          refine Go.mask [true, true, false] rfl ?_
          exact m_term_lp hN hB hin h40 h33 hP hD n p2 _ ok2 _ R2 _ (by omega) (h.join hR (by omega) (by decide) (by decide) (by decide) g (hM2.step (by omega) _ _))
        · skip
          refine Go.if_ne_f (tgt := 47) dX9_term_42 (by decide) (by decide) ?_
          refine Go.iconst (v := nI 0) dX9_term_45 rfl ?_
          refine Go.ireturn .boolean dX9_term_46 rfl rfl ?_
          exact Or.inr ⟨rfl, by obtain ⟨pf, q1, q2, q3, q4⟩ := g; exact ⟨pf, q1, q2, q3, hR.flt q4⟩⟩
      · skip
        have hne : tkr N B p1 ≠ 5 := by
          intro z
          unfold tkr at z
          split at z
          · rename_i hb
            have ri := (rank_inv (hB _ hb)).2.2.2.2 z
            rcases ri with ri | ri
            · exact tok_no hTk hN hB (by decide) (by decide) (by decide) (by decide) s1 ⟨hb, ri⟩
            · exact tok_no hTk hN hB (by decide) (by decide) (by decide) (by decide) s2 ⟨hb, ri⟩
          · omega
        refine Go.aload_n dX9_term_10 rfl ?_
        refine Go.bipush (v := nI 42) dX9_term_11 rfl ?_
        refine Go.callVi 76 [vI (nI 42)] [] dX9_term_13 lkX9_230 (Or.inl ⟨_, _, _, rfl, rfl, rfl⟩) rfl (Nat.le_of_ble_eq_true rfl) rfl (Nat.le_of_ble_eq_true rfl) (m_isSign (nI 42)) ?_
        refine Go.if_neb_f (tgt := 28) dX9_term_16 (by decide) s1 ?_
        refine Go.aload_n dX9_term_19 rfl ?_
        refine Go.bipush (v := nI 47) dX9_term_20 rfl ?_
        refine Go.at 22 rfl ?_
        refine Go.callVi 76 [vI (nI 47)] [] dX9_term_22 lkX9_230 (Or.inl ⟨_, _, _, rfl, rfl, rfl⟩) rfl (Nat.le_of_ble_eq_true rfl) rfl (Nat.le_of_ble_eq_true rfl) (m_isSign (nI 47)) ?_
        refine Go.if_eqb_t (tgt := 56) dX9_term_25 (by decide) s2 ?_
        refine Go.iconst (v := nI 1) dX9_term_56 rfl ?_
        refine Go.ireturn .boolean dX9_term_57 rfl rfl ?_
        exact Or.inl ⟨rfl, h.exit hne⟩
theorem m_either_at {V : VV} {N : Nat} {B : Nat → Nat} {key L p : Nat} (hN : N ≤ 96) (hB : ∀ j, j < N → B j < 256) (hin0 : CL V mX9_both 8 N B key L 2 p) (hin : ∀ q, p < q → q ≤ N → CL V mX9_both 8 N B key L 2 q) : CL V mX9_either 9 N B key L 1 p := by
  intro μ0 μ P R X ok k dp tn D hM hMk h40 h33 hP hX hoX hD0
  obtain ⟨D, rfl⟩ : ∃ D', D = D' + 9 := ⟨D - 9, by omega⟩
  have hp := hM.2.2.1
  show Go V (D + 9) mX9_either 0 [some (vR 76), some (vI (nI key))] [] μ _
  refine Go.aload_n dX9_either_0 rfl ?_
  refine Go.iload_n dX9_either_1 rfl ?_
  refine Go.callVd 76 [vI (nI key)] [] dX9_either_2 lkX9_227 (Or.inl ⟨_, _, _, rfl, rfl, rfl⟩) rfl (Nat.le_of_ble_eq_true rfl) rfl (Nat.le_of_ble_eq_true rfl) (hin0 μ0 μ P R X ok k dp tn (D + 8) hM hMk h40 h33 (by rcases hP with z | z; exact Or.inl z; exact Or.inr ⟨z.1, by omega⟩) hX hoX (by omega)) (fun μ3 g => ?_) (fun μ3 g => ?_)
  · obtain ⟨p2, Y2, ok2, Q2, R2, g⟩ := g
    have hp3 := g.1.2.2.1
    refine Go.if_ne_t (tgt := 10) dX9_either_5 (by decide) (by decide) ?_
    exact m_either_lp hN hB hin h40 h33 hP (by omega) (N - p2 + 1) p2 Y2 ok2 Q2 R2 _ (by omega) (g.lower (by decide))
  · skip
    refine Go.if_ne_f (tgt := 10) dX9_either_5 (by decide) (by decide) ?_
    refine Go.iconst (v := nI 0) dX9_either_8 rfl ?_
    refine Go.ireturn .boolean dX9_either_9 rfl rfl ?_
    exact Or.inr ⟨rfl, g⟩
theorem m_both_at {V : VV} {N : Nat} {B : Nat → Nat} {key L p : Nat} (hN : N ≤ 96) (hB : ∀ j, j < N → B j < 256) (hin0 : CL V mX9_test 7 N B key L 3 p) (hin : ∀ q, p < q → q ≤ N → CL V mX9_test 7 N B key L 3 q) : CL V mX9_both 8 N B key L 2 p := by
  intro μ0 μ P R X ok k dp tn D hM hMk h40 h33 hP hX hoX hD0
  obtain ⟨D, rfl⟩ : ∃ D', D = D' + 8 := ⟨D - 8, by omega⟩
  have hp := hM.2.2.1
  show Go V (D + 8) mX9_both 0 [some (vR 76), some (vI (nI key))] [] μ _
  refine Go.aload_n dX9_both_0 rfl ?_
  refine Go.iload_n dX9_both_1 rfl ?_
  refine Go.callVd 76 [vI (nI key)] [] dX9_both_2 lkX9_240 (Or.inl ⟨_, _, _, rfl, rfl, rfl⟩) rfl (Nat.le_of_ble_eq_true rfl) rfl (Nat.le_of_ble_eq_true rfl) (hin0 μ0 μ P R X ok k dp tn (D + 7) hM hMk h40 h33 (by rcases hP with z | z; exact Or.inl z; exact Or.inr ⟨z.1, by omega⟩) hX hoX (by omega)) (fun μ3 g => ?_) (fun μ3 g => ?_)
  · obtain ⟨p2, Y2, ok2, Q2, R2, g⟩ := g
    have hp3 := g.1.2.2.1
    refine Go.if_ne_t (tgt := 10) dX9_both_5 (by decide) (by decide) ?_
    exact m_both_lp hN hB hin h40 h33 hP (by omega) (N - p2 + 1) p2 Y2 ok2 Q2 R2 _ (by omega) (g.lower (by decide))
  · skip
    refine Go.if_ne_f (tgt := 10) dX9_both_5 (by decide) (by decide) ?_
    refine Go.iconst (v := nI 0) dX9_both_8 rfl ?_
    refine Go.ireturn .boolean dX9_both_9 rfl rfl ?_
    exact Or.inr ⟨rfl, g⟩
theorem m_sum_at {V : VV} {N : Nat} {B : Nat → Nat} {key L p : Nat} (hN : N ≤ 96) (hB : ∀ j, j < N → B j < 256) (hin0 : CL V mX9_term 5 N B key L 5 p) (hin : ∀ q, p < q → q ≤ N → CL V mX9_term 5 N B key L 5 q) : CL V mX9_sum 6 N B key L 4 p := by
  intro μ0 μ P R X ok k dp tn D hM hMk h40 h33 hP hX hoX hD0
  obtain ⟨D, rfl⟩ : ∃ D', D = D' + 6 := ⟨D - 6, by omega⟩
  have hp := hM.2.2.1
  show Go V (D + 6) mX9_sum 0 [some (vR 76), some (vI (nI key)), none] [] μ _
  refine Go.aload_n dX9_sum_0 rfl ?_
  refine Go.iload_n dX9_sum_1 rfl ?_
  refine Go.callVd 76 [vI (nI key)] [] dX9_sum_2 lkX9_246 (Or.inl ⟨_, _, _, rfl, rfl, rfl⟩) rfl (Nat.le_of_ble_eq_true rfl) rfl (Nat.le_of_ble_eq_true rfl) (hin0 μ0 μ P R X ok k dp tn (D + 5) hM hMk h40 h33 (by rcases hP with z | z; exact Or.inl z; exact Or.inr ⟨z.1, by omega⟩) hX hoX (by omega)) (fun μ3 g => ?_) (fun μ3 g => ?_)
  · obtain ⟨p2, Y2, ok2, Q2, R2, g⟩ := g
    have hp3 := g.1.2.2.1
    refine Go.if_ne_t (tgt := 10) dX9_sum_5 (by decide) (by decide) ?_
    exact m_sum_lp hN hB hin h40 h33 hP (by omega) (N - p2 + 1) p2 Y2 ok2 Q2 R2 _ (by omega) (g.lower (by decide))
  · skip
    refine Go.if_ne_f (tgt := 10) dX9_sum_5 (by decide) (by decide) ?_
    refine Go.iconst (v := nI 0) dX9_sum_8 rfl ?_
    refine Go.ireturn .boolean dX9_sum_9 rfl rfl ?_
    exact Or.inr ⟨rfl, g⟩
theorem m_term_at {V : VV} {N : Nat} {B : Nat → Nat} {key L p : Nat} (hN : N ≤ 96) (hB : ∀ j, j < N → B j < 256) (hin0 : CP0 V N B key L p) (hin : ∀ q, p < q → q ≤ N → CP0 V N B key L q) : CL V mX9_term 5 N B key L 5 p := by
  intro μ0 μ P R X ok k dp tn D hM hMk h40 h33 hP hX hoX hD0
  obtain ⟨D, rfl⟩ : ∃ D', D = D' + 5 := ⟨D - 5, by omega⟩
  have hp := hM.2.2.1
  show Go V (D + 5) mX9_term 0 [some (vR 76), some (vI (nI key)), none] [] μ _
  refine Go.aload_n dX9_term_0 rfl ?_
  refine Go.iload_n dX9_term_1 rfl ?_
  refine Go.callVd 76 [vI (nI key)] [] dX9_term_2 lkX9_249 (Or.inl ⟨_, _, _, rfl, rfl, rfl⟩) rfl (Nat.le_of_ble_eq_true rfl) rfl (Nat.le_of_ble_eq_true rfl) (hin0 μ0 μ P R X ok k dp tn (D + 4) hM hMk h40 h33 hX hoX (by omega)) (fun μ3 g => ?_) (fun μ3 g => ?_)
  · obtain ⟨p2, Y2, ok2, Q2, R2, g⟩ := g.lv (by rcases hP with z | z; exact Or.inl z; exact Or.inr z.1)
    have hp3 := g.1.2.2.1
    refine Go.if_ne_t (tgt := 10) dX9_term_5 (by decide) (by decide) ?_
    exact m_term_lp hN hB hin h40 h33 hP (by omega) (N - p2 + 1) p2 Y2 ok2 Q2 R2 _ (by omega) (g.lower (by decide))
  · skip
    refine Go.if_ne_f (tgt := 10) dX9_term_5 (by decide) (by decide) ?_
    refine Go.iconst (v := nI 0) dX9_term_8 rfl ?_
    refine Go.ireturn .boolean dX9_term_9 rfl rfl ?_
    exact Or.inr ⟨rfl, g⟩
