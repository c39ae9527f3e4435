theorem m_test_at {V : VV} {N : Nat} {B : Nat → Nat} {key L p : Nat} (hN : N ≤ 96) (hB : ∀ j, j < N → B j < 256) (hin0 : CL V mX9_sum 6 N B key L 4 p) (hin : ∀ q, p < q → q ≤ N → CL V mX9_sum 6 N B key L 4 q) : CL V mX9_test 7 N B key L 3 p := by
  intro μ0 μ P R X ok k dp tn D hM hMk h40 h33 hP hX hoX hD0
  obtain ⟨D, rfl⟩ : ∃ D', D = D' + 7 := ⟨D - 7, by omega⟩
  have hp := hM.2.2.1
  show Go V (D + 7) mX9_test 0 [some (vR 76), some (vI (nI key)), none] [] μ _
  refine Go.aload_n dX9_test_0 rfl ?_
  refine Go.iload_n dX9_test_1 rfl ?_
  refine Go.callVd 76 [vI (nI key)] [] dX9_test_2 lkX9_243 (Or.inl ⟨_, _, _, rfl, rfl, rfl⟩) rfl (Nat.le_of_ble_eq_true rfl) rfl (Nat.le_of_ble_eq_true rfl) (hin0 μ0 μ P R X ok k dp tn (D + 6) hM hMk h40 h33 (by rcases hP with z | z; exact Or.inl z; exact Or.inr ⟨z.1, by omega⟩) hX hoX (by omega)) (fun μ3 g => ?_) (fun μ3 g => ?_)
  · obtain ⟨p1, Y, ok1, Q, R1, h⟩ := g
    have hM1 := h.1
    have hTk := hM1.2.1
    have hp1 := hM1.2.2.1
    have hpp := h.2.2.1
    have hlen := h.2.1
    by_cases s1 : μ3 76 17 = nI 3 ∧ μ3 76 19 = nI 60
    · skip
      obtain ⟨hb, eb⟩ := tok_sign hTk hN hB (by decide) s1
      have hrk : rankI (nI (B (bg N B p1))) = 3 := by rw [eb]; decide
      obtain ⟨hR, hMk2⟩ := h.sign3 hP hb hrk
      have hq := en_gt (B := B) hb
      have hq2 := bg_ge (N := N) (B := B) p1
      have hqN := en_le (N := N) (B := B) (Nat.le_of_lt hb)
      have hPv := hTk.pv hb (Or.inr (Or.inr s1.1)) hN
      rw [eb] at hR hMk2
      refine Go.if_ne_t (tgt := 10) dX9_test_5 (by decide) (by decide) ?_
      refine Go.aload_n dX9_test_10 rfl ?_
      refine Go.bipush (v := nI 60) dX9_test_11 rfl ?_
      refine Go.callVi 76 [vI (nI 60)] [] dX9_test_13 lkX9_230 (Or.inl ⟨_, _, _, rfl, rfl, rfl⟩) rfl (Nat.le_of_ble_eq_true rfl) rfl (Nat.le_of_ble_eq_true rfl) (m_isSign (nI 60)) ?_
      refine Go.if_neb_t (tgt := 37) dX9_test_16 (by decide) s1 ?_
      refine Go.aload_n dX9_test_37 rfl ?_
      refine Go.at 38 rfl ?_
      refine Go.getI dX9_test_38 flX9_208 rfl ?_
      refine Go.topE (y := nI 60) s1.2 ?_
      refine Go.istore_n (ls' := [some (vR 76), some (vI (nI key)), some (vI (nI 60))]) dX9_test_41 (by decide) rfl ?_
      refine Go.aload_n dX9_test_42 rfl ?_
      refine Go.callVu 76 [] [] dX9_test_43 lkX9_233 (Or.inl ⟨_, _, _, rfl, rfl, rfl⟩) rfl (Nat.le_of_ble_eq_true rfl) rfl (Nat.le_of_ble_eq_true rfl) (m_next hM1 hPv) (fun μ2 h2 => ?_)
      refine Go.aload_n dX9_test_46 rfl ?_
      refine Go.iload_n dX9_test_47 rfl ?_
      refine Go.at 48 rfl ?_
      refine Go.callVd 76 [vI (nI key)] [] dX9_test_48 lkX9_243 (Or.inl ⟨_, _, _, rfl, rfl, rfl⟩) rfl (Nat.le_of_ble_eq_true rfl) rfl (Nat.le_of_ble_eq_true rfl) (hin _ (by omega) hqN μ0 μ2 (nI 60 :: P) (encX key Y R) (Y ++ X) ok1 (k + 1) dp tn (D + 6) h2 hMk2 (by rw [cntL, if_neg (by decide)]; exact h40) (by rw [cntL, if_neg (by decide)]; exact h33) (Or.inr ⟨by show ¬ nI 60 = nI 33; decide, by show rankI (nI 60) < 4; decide⟩) (by omega) h.2.2.2.1 (by omega)) (fun μ4 g => ?_) (fun μ4 g => ?_)
      · obtain ⟨p2, Y2, ok2, Q2, R2, g⟩ := g
        have hl2 := g.2.1
        have hM2 := g.1
        have hp2 := g.2.2.1
        have hp3 := hM2.2.2.1
        refine Go.if_ne_t (tgt := 56) dX9_test_51 (by decide) (by decide) ?_
        refine Go.aload_n dX9_test_56 rfl ?_
        refine Go.iconst (v := nI 2) dX9_test_57 rfl ?_
        refine Go.iload_n dX9_test_58 rfl ?_
        refine Go.callVv 76 [vI (nI 2), vI (nI 60)] [] dX9_test_59 lkX9_236 (Or.inl ⟨_, _, _, rfl, rfl, rfl⟩) rfl (Nat.le_of_ble_eq_true rfl) rfl (Nat.le_of_ble_eq_true rfl) (m_step (L := L) (n := (Y2 ++ (Y ++ X)).length) hM2.2.2.2.2.2.2.2.1 hM2.2.2.2.2.2.2.1 (by have := hM2.2.2.2.1; omega) (nI 2) (nI 60)) ?_
        refine Go.iconst (v := nI 1) dX9_test_62 rfl ?_
        refine Go.at 63 rfl ?_
        refine Go.ireturn .boolean dX9_test_63 rfl rfl ?_
        exact Or.inl ⟨rfl, ((h.lower (r2 := 3) (by decide)).join hR (by omega) (by decide) (by decide) (by decide) g (hM2.step (by omega) _ _)).end3 g.2.2.2.2.2.2.1 (by decide)⟩
      · skip
        refine Go.if_ne_f (tgt := 56) dX9_test_51 (by decide) (by decide) ?_
        refine Go.iconst (v := nI 0) dX9_test_54 rfl ?_
        refine Go.ireturn .boolean dX9_test_55 rfl rfl ?_
        exact Or.inr ⟨rfl, by obtain ⟨pf, q1, q2, q3, q4⟩ := g; exact ⟨pf, q1, q2, q3, hR.flt q4⟩⟩
    · by_cases s2 : μ3 76 17 = nI 3 ∧ μ3 76 19 = nI 61
      · skip
        obtain ⟨hb, eb⟩ := tok_sign hTk hN hB (by decide) s2
        have hrk : rankI (nI (B (bg N B p1))) = 3 := by rw [eb]; decide
        obtain ⟨hR, hMk2⟩ := h.sign3 hP hb hrk
        have hq := en_gt (B := B) hb
        have hq2 := bg_ge (N := N) (B := B) p1
        have hqN := en_le (N := N) (B := B) (Nat.le_of_lt hb)
        have hPv := hTk.pv hb (Or.inr (Or.inr s2.1)) hN
        rw [eb] at hR hMk2
        refine Go.if_ne_t (tgt := 10) dX9_test_5 (by decide) (by decide) ?_
        refine Go.aload_n dX9_test_10 rfl ?_
        refine Go.bipush (v := nI 60) dX9_test_11 rfl ?_
        refine Go.callVi 76 [vI (nI 60)] [] dX9_test_13 lkX9_230 (Or.inl ⟨_, _, _, rfl, rfl, rfl⟩) rfl (Nat.le_of_ble_eq_true rfl) rfl (Nat.le_of_ble_eq_true rfl) (m_isSign (nI 60)) ?_
        refine Go.if_neb_f (tgt := 37) dX9_test_16 (by decide) s1 ?_
        refine Go.aload_n dX9_test_19 rfl ?_
        refine Go.at 20 rfl ?_
        refine Go.bipush (v := nI 61) dX9_test_20 rfl ?_
        refine Go.callVi 76 [vI (nI 61)] [] dX9_test_22 lkX9_230 (Or.inl ⟨_, _, _, rfl, rfl, rfl⟩) rfl (Nat.le_of_ble_eq_true rfl) rfl (Nat.le_of_ble_eq_true rfl) (m_isSign (nI 61)) ?_
        refine Go.if_neb_t (tgt := 37) dX9_test_25 (by decide) s2 ?_
        refine Go.aload_n dX9_test_37 rfl ?_
        refine Go.getI dX9_test_38 flX9_208 rfl ?_
        refine Go.topE (y := nI 61) s2.2 ?_
        refine Go.istore_n (ls' := [some (vR 76), some (vI (nI key)), some (vI (nI 61))]) dX9_test_41 (by decide) rfl ?_
        refine Go.at 42 rfl ?_
        refine Go.aload_n dX9_test_42 rfl ?_
        refine Go.callVu 76 [] [] dX9_test_43 lkX9_233 (Or.inl ⟨_, _, _, rfl, rfl, rfl⟩) rfl (Nat.le_of_ble_eq_true rfl) rfl (Nat.le_of_ble_eq_true rfl) (m_next hM1 hPv) (fun μ2 h2 => ?_)
        refine Go.aload_n dX9_test_46 rfl ?_
        refine Go.iload_n dX9_test_47 rfl ?_
        refine Go.callVd 76 [vI (nI key)] [] dX9_test_48 lkX9_243 (Or.inl ⟨_, _, _, rfl, rfl, rfl⟩) rfl (Nat.le_of_ble_eq_true rfl) rfl (Nat.le_of_ble_eq_true rfl) (hin _ (by omega) hqN μ0 μ2 (nI 61 :: P) (encX key Y R) (Y ++ X) ok1 (k + 1) dp tn (D + 6) h2 hMk2 (by rw [cntL, if_neg (by decide)]; exact h40) (by rw [cntL, if_neg (by decide)]; exact h33) (Or.inr ⟨by show ¬ nI 61 = nI 33; decide, by show rankI (nI 61) < 4; decide⟩) (by omega) h.2.2.2.1 (by omega)) (fun μ4 g => ?_) (fun μ4 g => ?_)
        · obtain ⟨p2, Y2, ok2, Q2, R2, g⟩ := g
          have hl2 := g.2.1
          have hM2 := g.1
          have hp2 := g.2.2.1
          have hp3 := hM2.2.2.1
          refine Go.if_ne_t (tgt := 56) dX9_test_51 (by decide) (by decide) ?_
          refine Go.aload_n dX9_test_56 rfl ?_
          refine Go.iconst (v := nI 2) dX9_test_57 rfl ?_
          refine Go.iload_n dX9_test_58 rfl ?_
          refine Go.callVv 76 [vI (nI 2), vI (nI 61)] [] dX9_test_59 lkX9_236 (Or.inl ⟨_, _, _, rfl, rfl, rfl⟩) rfl (Nat.le_of_ble_eq_true rfl) rfl (Nat.le_of_ble_eq_true rfl) (m_step (L := L) (n := (Y2 ++ (Y ++ X)).length) hM2.2.2.2.2.2.2.2.1 hM2.2.2.2.2.2.2.1 (by have := hM2.2.2.2.1; omega) (nI 2) (nI 61)) ?_
          refine Go.iconst (v := nI 1) dX9_test_62 rfl ?_
          refine Go.at 63 rfl ?_
          refine Go.ireturn .boolean dX9_test_63 rfl rfl ?_
          exact Or.inl ⟨rfl, ((h.lower (r2 := 3) (by decide)).join hR (by omega) (by decide) (by decide) (by decide) g (hM2.step (by omega) _ _)).end3 g.2.2.2.2.2.2.1 (by decide)⟩
        · skip
          refine Go.if_ne_f (tgt := 56) dX9_test_51 (by decide) (by decide) ?_
          refine Go.iconst (v := nI 0) dX9_test_54 rfl ?_
          refine Go.ireturn .boolean dX9_test_55 rfl rfl ?_
          exact Or.inr ⟨rfl, by obtain ⟨pf, q1, q2, q3, q4⟩ := g; exact ⟨pf, q1, q2, q3, hR.flt q4⟩⟩
      · by_cases s3 : μ3 76 17 = nI 3 ∧ μ3 76 19 = nI 62
        · skip
          obtain ⟨hb, eb⟩ := tok_sign hTk hN hB (by decide) s3
          have hrk : rankI (nI (B (bg N B p1))) = 3 := by rw [eb]; decide
          obtain ⟨hR, hMk2⟩ := h.sign3 hP hb hrk
          have hq := en_gt (B := B) hb
          have hq2 := bg_ge (N := N) (B := B) p1
          have hqN := en_le (N := N) (B := B) (Nat.le_of_lt hb)
          have hPv := hTk.pv hb (Or.inr (Or.inr s3.1)) hN
          rw [eb] at hR hMk2
          refine Go.if_ne_t (tgt := 10) dX9_test_5 (by decide) (by decide) ?_
          refine Go.aload_n dX9_test_10 rfl ?_
          refine Go.bipush (v := nI 60) dX9_test_11 rfl ?_
          refine Go.callVi 76 [vI (nI 60)] [] dX9_test_13 lkX9_230 (Or.inl ⟨_, _, _, rfl, rfl, rfl⟩) rfl (Nat.le_of_ble_eq_true rfl) rfl (Nat.le_of_ble_eq_true rfl) (m_isSign (nI 60)) ?_
          refine Go.if_neb_f (tgt := 37) dX9_test_16 (by decide) s1 ?_
          refine Go.aload_n dX9_test_19 rfl ?_
          refine Go.at 20 rfl ?_
          refine Go.bipush (v := nI 61) dX9_test_20 rfl ?_
          refine Go.callVi 76 [vI (nI 61)] [] dX9_test_22 lkX9_230 (Or.inl ⟨_, _, _, rfl, rfl, rfl⟩) rfl (Nat.le_of_ble_eq_true rfl) rfl (Nat.le_of_ble_eq_true rfl) (m_isSign (nI 61)) ?_
          refine Go.if_neb_f (tgt := 37) dX9_test_25 (by decide) s2 ?_
          refine Go.aload_n dX9_test_28 rfl ?_
          refine Go.bipush (v := nI 62) dX9_test_29 rfl ?_
          refine Go.callVi 76 [vI (nI 62)] [] dX9_test_31 lkX9_230 (Or.inl ⟨_, _, _, rfl, rfl, rfl⟩) rfl (Nat.le_of_ble_eq_true rfl) rfl (Nat.le_of_ble_eq_true rfl) (m_isSign (nI 62)) ?_
          refine Go.at 34 rfl ?_
          refine Go.if_eqb_f (tgt := 62) dX9_test_34 (by decide) s3 ?_
          refine Go.aload_n dX9_test_37 rfl ?_
          refine Go.getI dX9_test_38 flX9_208 rfl ?_
          refine Go.topE (y := nI 62) s3.2 ?_
          refine Go.istore_n (ls' := [some (vR 76), some (vI (nI key)), some (vI (nI 62))]) dX9_test_41 (by decide) rfl ?_
          refine Go.aload_n dX9_test_42 rfl ?_
          refine Go.callVu 76 [] [] dX9_test_43 lkX9_233 (Or.inl ⟨_, _, _, rfl, rfl, rfl⟩) rfl (Nat.le_of_ble_eq_true rfl) rfl (Nat.le_of_ble_eq_true rfl) (m_next hM1 hPv) (fun μ2 h2 => ?_)
          refine Go.at 46 rfl ?_
          refine Go.aload_n dX9_test_46 rfl ?_
          refine Go.iload_n dX9_test_47 rfl ?_
          refine Go.callVd 76 [vI (nI key)] [] dX9_test_48 lkX9_243 (Or.inl ⟨_, _, _, rfl, rfl, rfl⟩) rfl (Nat.le_of_ble_eq_true rfl) rfl (Nat.le_of_ble_eq_true rfl) (hin _ (by omega) hqN μ0 μ2 (nI 62 :: P) (encX key Y R) (Y ++ X) ok1 (k + 1) dp tn (D + 6) h2 hMk2 (by rw [cntL, if_neg (by decide)]; exact h40) (by rw [cntL, if_neg (by decide)]; exact h33) (Or.inr ⟨by show ¬ nI 62 = nI 33; decide, by show rankI (nI 62) < 4; decide⟩) (by omega) h.2.2.2.1 (by omega)) (fun μ4 g => ?_) (fun μ4 g => ?_)
          · obtain ⟨p2, Y2, ok2, Q2, R2, g⟩ := g
            have hl2 := g.2.1
            have hM2 := g.1
            have hp2 := g.2.2.1
            have hp3 := hM2.2.2.1
            refine Go.if_ne_t (tgt := 56) dX9_test_51 (by decide) (by decide) ?_
            refine Go.aload_n dX9_test_56 rfl ?_
            refine Go.iconst (v := nI 2) dX9_test_57 rfl ?_
            refine Go.iload_n dX9_test_58 rfl ?_
            refine Go.callVv 76 [vI (nI 2), vI (nI 62)] [] dX9_test_59 lkX9_236 (Or.inl ⟨_, _, _, rfl, rfl, rfl⟩) rfl (Nat.le_of_ble_eq_true rfl) rfl (Nat.le_of_ble_eq_true rfl) (m_step (L := L) (n := (Y2 ++ (Y ++ X)).length) hM2.2.2.2.2.2.2.2.1 hM2.2.2.2.2.2.2.1 (by have := hM2.2.2.2.1; omega) (nI 2) (nI 62)) ?_
            refine Go.iconst (v := nI 1) dX9_test_62 rfl ?_
            refine Go.at 63 rfl ?_
            refine Go.ireturn .boolean dX9_test_63 rfl rfl ?_
            exact Or.inl ⟨rfl, ((h.lower (r2 := 3) (by decide)).join hR (by omega) (by decide) (by decide) (by decide) g (hM2.step (by omega) _ _)).end3 g.2.2.2.2.2.2.1 (by decide)⟩
          · skip
            refine Go.if_ne_f (tgt := 56) dX9_test_51 (by decide) (by decide) ?_
            refine Go.iconst (v := nI 0) dX9_test_54 rfl ?_
            refine Go.ireturn .boolean dX9_test_55 rfl rfl ?_
            exact Or.inr ⟨rfl, by obtain ⟨pf, q1, q2, q3, q4⟩ := g; exact ⟨pf, q1, q2, q3, hR.flt q4⟩⟩
        · have hne : tkr N B p1 ≠ 3 := by
            intro z
            unfold tkr at z
            split at z
            · rename_i hb
              rcases (rank_inv (hB _ hb)).2.2.1 z with ri | ri | ri
              · exact tok_no hTk hN hB (by decide) (by decide) (by decide) (by decide) s1 ⟨hb, ri⟩
              · exact tok_no hTk hN hB (by decide) (by decide) (by decide) (by decide) s2 ⟨hb, ri⟩
              · exact tok_no hTk hN hB (by decide) (by decide) (by decide) (by decide) s3 ⟨hb, ri⟩
            · omega
          refine Go.if_ne_t (tgt := 10) dX9_test_5 (by decide) (by decide) ?_
          refine Go.aload_n dX9_test_10 rfl ?_
          refine Go.bipush (v := nI 60) dX9_test_11 rfl ?_
          refine Go.callVi 76 [vI (nI 60)] [] dX9_test_13 lkX9_230 (Or.inl ⟨_, _, _, rfl, rfl, rfl⟩) rfl (Nat.le_of_ble_eq_true rfl) rfl (Nat.le_of_ble_eq_true rfl) (m_isSign (nI 60)) ?_
          refine Go.if_neb_f (tgt := 37) dX9_test_16 (by decide) s1 ?_
          refine Go.aload_n dX9_test_19 rfl ?_
          refine Go.at 20 rfl ?_
          refine Go.bipush (v := nI 61) dX9_test_20 rfl ?_
          refine Go.callVi 76 [vI (nI 61)] [] dX9_test_22 lkX9_230 (Or.inl ⟨_, _, _, rfl, rfl, rfl⟩) rfl (Nat.le_of_ble_eq_true rfl) rfl (Nat.le_of_ble_eq_true rfl) (m_isSign (nI 61)) ?_
          refine Go.if_neb_f (tgt := 37) dX9_test_25 (by decide) s2 ?_
          refine Go.aload_n dX9_test_28 rfl ?_
          refine Go.bipush (v := nI 62) dX9_test_29 rfl ?_
          refine Go.callVi 76 [vI (nI 62)] [] dX9_test_31 lkX9_230 (Or.inl ⟨_, _, _, rfl, rfl, rfl⟩) rfl (Nat.le_of_ble_eq_true rfl) rfl (Nat.le_of_ble_eq_true rfl) (m_isSign (nI 62)) ?_
          refine Go.at 34 rfl ?_
          refine Go.if_eqb_t (tgt := 62) dX9_test_34 (by decide) s3 ?_
          refine Go.iconst (v := nI 1) dX9_test_62 rfl ?_
          refine Go.ireturn .boolean dX9_test_63 rfl rfl ?_
          exact Or.inl ⟨rfl, (h.lower (r2 := 3) (by decide)).exit hne⟩
  · skip
    refine Go.if_ne_f (tgt := 10) dX9_test_5 (by decide) (by decide) ?_
    refine Go.iconst (v := nI 0) dX9_test_8 rfl ?_
    refine Go.ireturn .boolean dX9_test_9 rfl rfl ?_
    exact Or.inr ⟨rfl, g⟩
theorem m_part0_at {V : VV} {N : Nat} {B : Nat → Nat} {key L p : Nat} (hk3 : key < 3) (hN : N ≤ 96) (hB : ∀ j, j < N → B j < 256) (hin : ∀ q, p < q → q ≤ N → CP0 V N B key L q) (hei : ∀ q, p < q → q ≤ N → CL V mX9_either 9 N B key L 1 q) : CP0 V N B key L p := by
  intro μ0 μ P R X ok k dp tn D hM hMk h40 h33 hX hoX hD0
  obtain ⟨D, rfl⟩ : ∃ D', D = D' + 4 := ⟨D - 4, by omega⟩
  have hp := hM.2.2.1
  have hTk := hM.2.1
  have hd8 : dp ≤ 8 := by rw [← h40]; exact hMk.2.2.1
  have ht8 : tn ≤ 8 := by rw [← h33]; exact hMk.2.2.2.1
  have g1 := bg_ge (N := N) (B := B) p
  show Go V (D + 4) mX9_part0 0 [some (vR 76), some (vI (nI key))] [] μ _
  by_cases t2 : μ 76 17 = nI 2
  · obtain ⟨hb, n40, n33, n, hn, h18, ho⟩ := tok_num (key := key) hTk hN t2
    have hPv := hTk.pv hb (Or.inr (Or.inl t2)) hN
    refine Go.aload_n dX9_part0_0 rfl ?_
    refine Go.getI dX9_part0_1 flX9_199 rfl ?_
    refine Go.iconst (v := nI 2) dX9_part0_4 rfl ?_
    refine Go.icmp_ne_f (tgt := 33) dX9_part0_5 (by decide) t2 ?_
    refine Go.aload_n dX9_part0_8 rfl ?_
    refine Go.iconst (v := nI 0) dX9_part0_9 rfl ?_
    refine Go.at 10 rfl ?_
    refine Go.aload_n dX9_part0_10 rfl ?_
    refine Go.getI dX9_part0_11 flX9_214 rfl ?_
    refine Go.topE (y := nI n) h18 ?_
    refine Go.callVv 76 [vI (nI 0), vI (nI n)] [] dX9_part0_14 lkX9_236 (Or.inl ⟨_, _, _, rfl, rfl, rfl⟩) rfl (Nat.le_of_ble_eq_true rfl) rfl (Nat.le_of_ble_eq_true rfl) (m_step (L := L) (n := X.length) hM.2.2.2.2.2.2.2.1 hM.2.2.2.2.2.2.1 (by have := hM.2.2.2.1; omega) (nI 0) (nI n)) ?_
    refine Go.aload_n dX9_part0_17 rfl ?_
    refine Go.dupR dX9_part0_18 ?_
    refine Go.getI dX9_part0_19 flX9_252 rfl ?_
    refine Go.topE (y := nI ok) (by simp (disch := omega) only [ms_self, ms_ne, upd_self, upd_ne]; exact hM.2.2.2.2.2.2.2.2.1) ?_
    refine Go.at 22 rfl ?_
    refine Go.iconst (v := nI 1) dX9_part0_22 rfl ?_
    refine Go.iaddN dX9_part0_23 ?_
    refine Go.put dX9_part0_24 flX9_252 rfl rfl rfl rfl ?_
    refine Go.aload_n dX9_part0_27 rfl ?_
    have hM2 : Mt μ0 (ms (ms (ms (ms μ 77 (L + 2 * X.length) (nI 0)) 77 (L + 2 * X.length + 1) (nI n)) 76 22 (nI (X.length + 1))) 76 24 (nI (ok + 1))) N B L p (((nI 0), (nI n)) :: X) (ok + 1) dp tn := (hM.step (by omega) (nI 0) (nI n)).fld.1 (ok + 1)
    have hPv2 : Pv N B (en N B (bg N B p)) ((ms (ms (ms (ms μ 77 (L + 2 * X.length) (nI 0)) 77 (L + 2 * X.length + 1) (nI n)) 76 22 (nI (X.length + 1))) 76 24 (nI (ok + 1))) 76 17) := by simp (disch := omega) only [ms_self, ms_ne, upd_self, upd_ne]; exact hPv
    refine Go.callVu 76 [] [] dX9_part0_28 lkX9_233 (Or.inl ⟨_, _, _, rfl, rfl, rfl⟩) rfl (Nat.le_of_ble_eq_true rfl) rfl (Nat.le_of_ble_eq_true rfl) (m_next hM2 hPv2) (fun μ2 h2 => ?_)
    refine Go.iconst (v := nI 1) dX9_part0_31 rfl ?_
    refine Go.at 32 rfl ?_
    refine Go.ireturn .boolean dX9_part0_32 rfl rfl ?_
    exact Or.inl ⟨rfl, P0S.opd hMk hX hoX hb n40 n33 ho (by unfold encR; rw [if_pos rfl]) (Or.inl ⟨rfl, nI_pos0 (by omega)⟩) (by decide) h2⟩
  · by_cases t1 : μ 76 17 = nI 1
    · obtain ⟨hb, hlt, hw⟩ := tok_word (key := key) hTk hN t1
      have hPv := hTk.pv hb (Or.inl t1) hN
      have n40 : B (bg N B p) ≠ 40 := by omega
      have n33 : B (bg N B p) ≠ 33 := by omega
      have hs1 : ∀ c : Int32, ¬ (μ 76 17 = nI 3 ∧ μ 76 19 = c) := fun c z => by rw [t1] at z; exact absurd z.1 (by decide)
      rcases hw with ⟨l19, ho⟩ | ⟨l19, ho⟩
      · cases hnm : nmF key (B (bg N B p)) with
        | none =>
          rw [hnm] at ho
          refine Go.aload_n dX9_part0_0 rfl ?_
          refine Go.getI dX9_part0_1 flX9_199 rfl ?_
          refine Go.iconst (v := nI 2) dX9_part0_4 rfl ?_
          refine Go.icmp_ne_t (tgt := 33) dX9_part0_5 (by decide) t2 ?_
          refine Go.aload_n dX9_part0_33 rfl ?_
          refine Go.getI dX9_part0_34 flX9_199 rfl ?_
          refine Go.at 37 rfl ?_
          refine Go.iconst (v := nI 1) dX9_part0_37 rfl ?_
          refine Go.icmp_ne_f (tgt := 84) dX9_part0_38 (by decide) t1 ?_
          refine Go.aload_n dX9_part0_41 rfl ?_
          refine Go.getI dX9_part0_42 flX9_208 rfl ?_
          refine Go.topE (y := nI (B (bg N B p))) l19 ?_
          refine Go.if_eq_f (tgt := 84) dX9_part0_45 (by decide) (nI_neq (a := B (bg N B p)) (b := 0) (by omega) (by decide) (by omega)) ?_
          refine Go.iload_n dX9_part0_48 rfl ?_
          refine Go.at 49 rfl ?_
          refine Go.aload_n dX9_part0_49 rfl ?_
          refine Go.getI dX9_part0_50 flX9_208 rfl ?_
          refine Go.topE (y := nI (B (bg N B p))) l19 ?_
          refine Go.callSi [vI (nI key), vI (nI (B (bg N B p)))] [] dX9_part0_53 lkX9_255 rfl (Nat.le_of_ble_eq_true rfl) rfl (Nat.le_of_ble_eq_true rfl) (m_isNm hk3 (hB _ hb)) ?_
          refine Go.if_eqb_t (tgt := 84) dX9_part0_56 (by decide) (by rw [hnm]; decide) ?_
          refine Go.aload_n dX9_part0_84 rfl ?_
          refine Go.bipush (v := nI 33) dX9_part0_85 rfl ?_
          refine Go.at 87 rfl ?_
          refine Go.callVi 76 [vI (nI 33)] [] dX9_part0_87 lkX9_230 (Or.inl ⟨_, _, _, rfl, rfl, rfl⟩) rfl (Nat.le_of_ble_eq_true rfl) rfl (Nat.le_of_ble_eq_true rfl) (m_isSign (nI 33)) ?_
          refine Go.if_eqb_t (tgt := 145) dX9_part0_90 (by decide) (hs1 _) ?_
          refine Go.aload_n dX9_part0_145 rfl ?_
          refine Go.bipush (v := nI 40) dX9_part0_146 rfl ?_
          refine Go.callVi 76 [vI (nI 40)] [] dX9_part0_148 lkX9_230 (Or.inl ⟨_, _, _, rfl, rfl, rfl⟩) rfl (Nat.le_of_ble_eq_true rfl) rfl (Nat.le_of_ble_eq_true rfl) (m_isSign (nI 40)) ?_
          refine Go.if_eqb_t (tgt := 163) dX9_part0_151 (by decide) (hs1 _) ?_
          refine Go.at 163 rfl ?_
          refine Go.iconst (v := nI 0) dX9_part0_163 rfl ?_
          refine Go.ireturn .boolean dX9_part0_164 rfl rfl ?_
          refine Or.inr ⟨rfl, FlS.here hM (fun hb => ?_)⟩
          unfold pieceC; rw [if_neg n40, if_neg n33, ho]
        | some q =>
          rw [hnm] at ho
          obtain ⟨en1, en2⟩ := encN_nm hk3 (hB _ hb) hnm
          refine Go.aload_n dX9_part0_0 rfl ?_
          refine Go.getI dX9_part0_1 flX9_199 rfl ?_
          refine Go.iconst (v := nI 2) dX9_part0_4 rfl ?_
          refine Go.icmp_ne_t (tgt := 33) dX9_part0_5 (by decide) t2 ?_
          refine Go.aload_n dX9_part0_33 rfl ?_
          refine Go.getI dX9_part0_34 flX9_199 rfl ?_
          refine Go.at 37 rfl ?_
          refine Go.iconst (v := nI 1) dX9_part0_37 rfl ?_
          refine Go.icmp_ne_f (tgt := 84) dX9_part0_38 (by decide) t1 ?_
          refine Go.aload_n dX9_part0_41 rfl ?_
          refine Go.getI dX9_part0_42 flX9_208 rfl ?_
          refine Go.topE (y := nI (B (bg N B p))) l19 ?_
          refine Go.if_eq_f (tgt := 84) dX9_part0_45 (by decide) (nI_neq (a := B (bg N B p)) (b := 0) (by omega) (by decide) (by omega)) ?_
          refine Go.iload_n dX9_part0_48 rfl ?_
          refine Go.at 49 rfl ?_
          refine Go.aload_n dX9_part0_49 rfl ?_
          refine Go.getI dX9_part0_50 flX9_208 rfl ?_
          refine Go.topE (y := nI (B (bg N B p))) l19 ?_
          refine Go.callSi [vI (nI key), vI (nI (B (bg N B p)))] [] dX9_part0_53 lkX9_255 rfl (Nat.le_of_ble_eq_true rfl) rfl (Nat.le_of_ble_eq_true rfl) (m_isNm hk3 (hB _ hb)) ?_
          refine Go.if_eqb_f (tgt := 84) dX9_part0_56 (by decide) (by rw [hnm]; rfl) ?_
          refine Go.aload_n dX9_part0_59 rfl ?_
          refine Go.iconst (v := nI 1) dX9_part0_60 rfl ?_
          refine Go.at 61 rfl ?_
          refine Go.aload_n dX9_part0_61 rfl ?_
          refine Go.getI dX9_part0_62 flX9_208 rfl ?_
          refine Go.topE (y := nI (B (bg N B p))) l19 ?_
          refine Go.callVv 76 [vI (nI 1), vI (nI (B (bg N B p)))] [] dX9_part0_65 lkX9_236 (Or.inl ⟨_, _, _, rfl, rfl, rfl⟩) rfl (Nat.le_of_ble_eq_true rfl) rfl (Nat.le_of_ble_eq_true rfl) (m_step (L := L) (n := X.length) hM.2.2.2.2.2.2.2.1 hM.2.2.2.2.2.2.1 (by have := hM.2.2.2.1; omega) (nI 1) (nI (B (bg N B p)))) ?_
          refine Go.aload_n dX9_part0_68 rfl ?_
          refine Go.dupR dX9_part0_69 ?_
          refine Go.getI dX9_part0_70 flX9_252 rfl ?_
          refine Go.topE (y := nI ok) (by simp (disch := omega) only [ms_self, ms_ne, upd_self, upd_ne]; exact hM.2.2.2.2.2.2.2.2.1) ?_
          refine Go.at 73 rfl ?_
          refine Go.iconst (v := nI 1) dX9_part0_73 rfl ?_
          refine Go.iaddN dX9_part0_74 ?_
          refine Go.put dX9_part0_75 flX9_252 rfl rfl rfl rfl ?_
          refine Go.aload_n dX9_part0_78 rfl ?_
          have hM2 : Mt μ0 (ms (ms (ms (ms μ 77 (L + 2 * X.length) (nI 1)) 77 (L + 2 * X.length + 1) (nI (B (bg N B p)))) 76 22 (nI (X.length + 1))) 76 24 (nI (ok + 1))) N B L p (((nI 1), (nI (B (bg N B p)))) :: X) (ok + 1) dp tn := (hM.step (by omega) (nI 1) (nI (B (bg N B p)))).fld.1 (ok + 1)
          have hPv2 : Pv N B (en N B (bg N B p)) ((ms (ms (ms (ms μ 77 (L + 2 * X.length) (nI 1)) 77 (L + 2 * X.length + 1) (nI (B (bg N B p)))) 76 22 (nI (X.length + 1))) 76 24 (nI (ok + 1))) 76 17) := by simp (disch := omega) only [ms_self, ms_ne, upd_self, upd_ne]; exact hPv
          refine Go.callVu 76 [] [] dX9_part0_79 lkX9_233 (Or.inl ⟨_, _, _, rfl, rfl, rfl⟩) rfl (Nat.le_of_ble_eq_true rfl) rfl (Nat.le_of_ble_eq_true rfl) (m_next hM2 hPv2) (fun μ2 h2 => ?_)
          refine Go.iconst (v := nI 1) dX9_part0_82 rfl ?_
          refine Go.at 83 rfl ?_
          refine Go.ireturn .boolean dX9_part0_83 rfl rfl ?_
          exact Or.inl ⟨rfl, P0S.opd hMk hX hoX hb n40 n33 ho (by unfold encR; rw [if_neg (by decide), if_pos rfl]; exact en1) (Or.inr (Or.inl ⟨rfl, en2⟩)) (by decide) h2⟩
      · skip
        refine Go.aload_n dX9_part0_0 rfl ?_
        refine Go.getI dX9_part0_1 flX9_199 rfl ?_
        refine Go.iconst (v := nI 2) dX9_part0_4 rfl ?_
        refine Go.icmp_ne_t (tgt := 33) dX9_part0_5 (by decide) t2 ?_
        refine Go.aload_n dX9_part0_33 rfl ?_
        refine Go.getI dX9_part0_34 flX9_199 rfl ?_
        refine Go.at 37 rfl ?_
        refine Go.iconst (v := nI 1) dX9_part0_37 rfl ?_
        refine Go.icmp_ne_f (tgt := 84) dX9_part0_38 (by decide) t1 ?_
        refine Go.aload_n dX9_part0_41 rfl ?_
        refine Go.getI dX9_part0_42 flX9_208 rfl ?_
        refine Go.topE (y := nI 0) l19 ?_
        refine Go.if_eq_t (tgt := 84) dX9_part0_45 (by decide) rfl ?_
        refine Go.aload_n dX9_part0_84 rfl ?_
        refine Go.at 85 rfl ?_
        refine Go.bipush (v := nI 33) dX9_part0_85 rfl ?_
        refine Go.callVi 76 [vI (nI 33)] [] dX9_part0_87 lkX9_230 (Or.inl ⟨_, _, _, rfl, rfl, rfl⟩) rfl (Nat.le_of_ble_eq_true rfl) rfl (Nat.le_of_ble_eq_true rfl) (m_isSign (nI 33)) ?_
        refine Go.if_eqb_t (tgt := 145) dX9_part0_90 (by decide) (hs1 _) ?_
        refine Go.aload_n dX9_part0_145 rfl ?_
        refine Go.bipush (v := nI 40) dX9_part0_146 rfl ?_
        refine Go.callVi 76 [vI (nI 40)] [] dX9_part0_148 lkX9_230 (Or.inl ⟨_, _, _, rfl, rfl, rfl⟩) rfl (Nat.le_of_ble_eq_true rfl) rfl (Nat.le_of_ble_eq_true rfl) (m_isSign (nI 40)) ?_
        refine Go.at 151 rfl ?_
        refine Go.if_eqb_t (tgt := 163) dX9_part0_151 (by decide) (hs1 _) ?_
        refine Go.iconst (v := nI 0) dX9_part0_163 rfl ?_
        refine Go.ireturn .boolean dX9_part0_164 rfl rfl ?_
        refine Or.inr ⟨rfl, FlS.here hM (fun hb => ?_)⟩
        unfold pieceC; rw [if_neg n40, if_neg n33, ho]
    · have hnone := tok_none (key := key) hTk hN t2 t1
      by_cases s33 : μ 76 17 = nI 3 ∧ μ 76 19 = nI 33
      · obtain ⟨hb, eb⟩ := tok_sign hTk hN hB (by decide) s33
        have n40 : B (bg N B p) ≠ 40 := by omega
        have hs40 : ¬ (μ 76 17 = nI 3 ∧ μ 76 19 = nI 40) := fun z => by rw [s33.2] at z; exact absurd z.2 (by decide)
        have hq := en_gt (B := B) hb
        have hqN := en_le (N := N) (B := B) (Nat.le_of_lt hb)
        by_cases t8 : tn = 8
        · skip
          refine Go.aload_n dX9_part0_0 rfl ?_
          refine Go.getI dX9_part0_1 flX9_199 rfl ?_
          refine Go.iconst (v := nI 2) dX9_part0_4 rfl ?_
          refine Go.icmp_ne_t (tgt := 33) dX9_part0_5 (by decide) t2 ?_
          refine Go.aload_n dX9_part0_33 rfl ?_
          refine Go.getI dX9_part0_34 flX9_199 rfl ?_
          refine Go.at 37 rfl ?_
          refine Go.iconst (v := nI 1) dX9_part0_37 rfl ?_
          refine Go.icmp_ne_t (tgt := 84) dX9_part0_38 (by decide) t1 ?_
          refine Go.aload_n dX9_part0_84 rfl ?_
          refine Go.bipush (v := nI 33) dX9_part0_85 rfl ?_
          refine Go.callVi 76 [vI (nI 33)] [] dX9_part0_87 lkX9_230 (Or.inl ⟨_, _, _, rfl, rfl, rfl⟩) rfl (Nat.le_of_ble_eq_true rfl) rfl (Nat.le_of_ble_eq_true rfl) (m_isSign (nI 33)) ?_
          refine Go.if_eqb_f (tgt := 145) dX9_part0_90 (by decide) s33 ?_
          refine Go.at 93 rfl ?_
          refine Go.aload_n dX9_part0_93 rfl ?_
          refine Go.getI dX9_part0_94 flX9_258 rfl ?_
          refine Go.topE (y := nI tn) hM.2.2.2.2.2.1 ?_
          refine Go.bipush (v := nI 8) dX9_part0_97 rfl ?_
          refine Go.icmp_ge_t (tgt := 145) dX9_part0_99 (by decide) (by rw [t8]; decide) ?_
          refine Go.aload_n dX9_part0_145 rfl ?_
          refine Go.bipush (v := nI 40) dX9_part0_146 rfl ?_
          refine Go.at 148 rfl ?_
          refine Go.callVi 76 [vI (nI 40)] [] dX9_part0_148 lkX9_230 (Or.inl ⟨_, _, _, rfl, rfl, rfl⟩) rfl (Nat.le_of_ble_eq_true rfl) rfl (Nat.le_of_ble_eq_true rfl) (m_isSign (nI 40)) ?_
          refine Go.if_eqb_t (tgt := 163) dX9_part0_151 (by decide) hs40 ?_
          refine Go.iconst (v := nI 0) dX9_part0_163 rfl ?_
          refine Go.ireturn .boolean dX9_part0_164 rfl rfl ?_
          refine Or.inr ⟨rfl, FlS.here hM (fun hb => ?_)⟩
          unfold pieceC; rw [if_neg n40, if_pos eb, if_neg (by rw [h33]; omega)]
        · have e : cstep N B key p P R ok (nI 1) = some (nI 33 :: P, R, ok, nI 1) := by
            unfold cstep pieceC; rw [if_neg (by decide), if_neg n40, if_pos eb, if_pos (by rw [h33]; omega)]
          have hR := Rch.one hb e
          have hMk2 := cstep_ok hMk hb e
          have hPv := hTk.pv hb (Or.inr (Or.inr s33.1)) hN
          refine Go.aload_n dX9_part0_0 rfl ?_
          refine Go.getI dX9_part0_1 flX9_199 rfl ?_
          refine Go.iconst (v := nI 2) dX9_part0_4 rfl ?_
          refine Go.icmp_ne_t (tgt := 33) dX9_part0_5 (by decide) t2 ?_
          refine Go.aload_n dX9_part0_33 rfl ?_
          refine Go.getI dX9_part0_34 flX9_199 rfl ?_
          refine Go.at 37 rfl ?_
          refine Go.iconst (v := nI 1) dX9_part0_37 rfl ?_
          refine Go.icmp_ne_t (tgt := 84) dX9_part0_38 (by decide) t1 ?_
          refine Go.aload_n dX9_part0_84 rfl ?_
          refine Go.bipush (v := nI 33) dX9_part0_85 rfl ?_
          refine Go.callVi 76 [vI (nI 33)] [] dX9_part0_87 lkX9_230 (Or.inl ⟨_, _, _, rfl, rfl, rfl⟩) rfl (Nat.le_of_ble_eq_true rfl) rfl (Nat.le_of_ble_eq_true rfl) (m_isSign (nI 33)) ?_
          refine Go.if_eqb_f (tgt := 145) dX9_part0_90 (by decide) s33 ?_
          refine Go.at 93 rfl ?_
          refine Go.aload_n dX9_part0_93 rfl ?_
          refine Go.getI dX9_part0_94 flX9_258 rfl ?_
          refine Go.topE (y := nI tn) hM.2.2.2.2.2.1 ?_
          refine Go.bipush (v := nI 8) dX9_part0_97 rfl ?_
          refine Go.icmp_ge_f (tgt := 145) dX9_part0_99 (by decide) (by rw [sI_le, nT, nT]; omega) ?_
          refine Go.aload_n dX9_part0_102 rfl ?_
          refine Go.dupR dX9_part0_103 ?_
          refine Go.at 104 rfl ?_
          refine Go.getI dX9_part0_104 flX9_258 rfl ?_
          refine Go.topE (y := nI tn) hM.2.2.2.2.2.1 ?_
          refine Go.iconst (v := nI 1) dX9_part0_107 rfl ?_
          refine Go.iaddN dX9_part0_108 ?_
          refine Go.put dX9_part0_109 flX9_258 rfl rfl rfl rfl ?_
          refine Go.aload_n dX9_part0_112 rfl ?_
          have hM2 : Mt μ0 (ms μ 76 21 (nI (tn + 1))) N B L p X ok dp (tn + 1) := hM.fld.2.2 (tn + 1)
          have hPv2 : Pv N B (en N B (bg N B p)) ((ms μ 76 21 (nI (tn + 1))) 76 17) := by simp (disch := omega) only [ms_self, ms_ne, upd_self, upd_ne]; exact hPv
          refine Go.callVu 76 [] [] dX9_part0_113 lkX9_233 (Or.inl ⟨_, _, _, rfl, rfl, rfl⟩) rfl (Nat.le_of_ble_eq_true rfl) rfl (Nat.le_of_ble_eq_true rfl) (m_next hM2 hPv2) (fun μ2 h2 => ?_)
          refine Go.at 116 rfl ?_
          refine Go.aload_n dX9_part0_116 rfl ?_
          refine Go.iload_n dX9_part0_117 rfl ?_
          refine Go.callVd 76 [vI (nI key)] [] dX9_part0_118 lkX9_249 (Or.inl ⟨_, _, _, rfl, rfl, rfl⟩) rfl (Nat.le_of_ble_eq_true rfl) rfl (Nat.le_of_ble_eq_true rfl) (hin _ (by omega) hqN μ0 μ2 (nI 33 :: P) R X ok (k + 1) dp (tn + 1) (D + 3) h2 hMk2 (by rw [cntL, if_neg (by decide)]; exact h40) (by rw [cntL, if_pos rfl, h33]) (by omega) hoX (by omega)) (fun μ3 g => ?_) (fun μ3 g => ?_)
          · obtain ⟨p', Y, ok', hM3, q2, q3, q4, q5, q6, q7⟩ := g
            have hp3 := hM3.2.2.1
            have hM4 := hM3.fld.2.2 tn
            refine Go.if_ne_t (tgt := 126) dX9_part0_121 (by decide) (by decide) ?_
            refine Go.aload_n dX9_part0_126 rfl ?_
            refine Go.dupR dX9_part0_127 ?_
            refine Go.getI dX9_part0_128 flX9_258 rfl ?_
            refine Go.topE (y := nI (tn + 1)) hM3.2.2.2.2.2.1 ?_
            refine Go.iconst (v := nI 1) dX9_part0_131 rfl ?_
            refine Go.isubN dX9_part0_132 (by omega) ?_
            refine Go.topE (y := nI tn) (by rw [Nat.add_sub_cancel]) ?_
            refine Go.at 133 rfl ?_
            refine Go.put dX9_part0_133 flX9_258 rfl rfl rfl rfl ?_
            refine Go.aload_n dX9_part0_136 rfl ?_
            refine Go.iconst (v := nI 2) dX9_part0_137 rfl ?_
            refine Go.bipush (v := nI 33) dX9_part0_138 rfl ?_
            refine Go.callVv 76 [vI (nI 2), vI (nI 33)] [] dX9_part0_140 lkX9_236 (Or.inl ⟨_, _, _, rfl, rfl, rfl⟩) rfl (Nat.le_of_ble_eq_true rfl) rfl (Nat.le_of_ble_eq_true rfl) (m_step (L := L) (n := (Y ++ X).length) hM4.2.2.2.2.2.2.2.1 hM4.2.2.2.2.2.2.1 (by have := hM4.2.2.2.1; omega) (nI 2) (nI 33)) ?_
            refine Go.iconst (v := nI 1) dX9_part0_143 rfl ?_
            refine Go.at 144 rfl ?_
            refine Go.ireturn .boolean dX9_part0_144 rfl rfl ?_
            exact Or.inl ⟨rfl, P0S.nt (μ1 := μ) (tn2 := tn) hR (by omega) q2 q3 q4 q5 q6 q7 (hM4.step (by omega) _ _)⟩
          · skip
            refine Go.if_ne_f (tgt := 126) dX9_part0_121 (by decide) (by decide) ?_
            refine Go.iconst (v := nI 0) dX9_part0_124 rfl ?_
            refine Go.ireturn .boolean dX9_part0_125 rfl rfl ?_
            exact Or.inr ⟨rfl, by obtain ⟨pf, q1, q2, q3, q4⟩ := g; exact ⟨pf, q1, q2, q3, hR.flt q4⟩⟩
      · by_cases s40 : μ 76 17 = nI 3 ∧ μ 76 19 = nI 40
        · obtain ⟨hb, eb⟩ := tok_sign hTk hN hB (by decide) s40
          have hq := en_gt (B := B) hb
          have hqN := en_le (N := N) (B := B) (Nat.le_of_lt hb)
          by_cases d8 : dp = 8
          · skip
            refine Go.aload_n dX9_part0_0 rfl ?_
            refine Go.getI dX9_part0_1 flX9_199 rfl ?_
            refine Go.iconst (v := nI 2) dX9_part0_4 rfl ?_
            refine Go.icmp_ne_t (tgt := 33) dX9_part0_5 (by decide) t2 ?_
            refine Go.aload_n dX9_part0_33 rfl ?_
            refine Go.getI dX9_part0_34 flX9_199 rfl ?_
            refine Go.at 37 rfl ?_
            refine Go.iconst (v := nI 1) dX9_part0_37 rfl ?_
            refine Go.icmp_ne_t (tgt := 84) dX9_part0_38 (by decide) t1 ?_
            refine Go.aload_n dX9_part0_84 rfl ?_
            refine Go.bipush (v := nI 33) dX9_part0_85 rfl ?_
            refine Go.callVi 76 [vI (nI 33)] [] dX9_part0_87 lkX9_230 (Or.inl ⟨_, _, _, rfl, rfl, rfl⟩) rfl (Nat.le_of_ble_eq_true rfl) rfl (Nat.le_of_ble_eq_true rfl) (m_isSign (nI 33)) ?_
            refine Go.if_eqb_t (tgt := 145) dX9_part0_90 (by decide) s33 ?_
            refine Go.at 145 rfl ?_
            refine Go.aload_n dX9_part0_145 rfl ?_
            refine Go.bipush (v := nI 40) dX9_part0_146 rfl ?_
            refine Go.callVi 76 [vI (nI 40)] [] dX9_part0_148 lkX9_230 (Or.inl ⟨_, _, _, rfl, rfl, rfl⟩) rfl (Nat.le_of_ble_eq_true rfl) rfl (Nat.le_of_ble_eq_true rfl) (m_isSign (nI 40)) ?_
            refine Go.if_eqb_f (tgt := 163) dX9_part0_151 (by decide) s40 ?_
            refine Go.aload_n dX9_part0_154 rfl ?_
            refine Go.getI dX9_part0_155 flX9_261 rfl ?_
            refine Go.topE (y := nI dp) hM.2.2.2.2.1 ?_
            refine Go.at 158 rfl ?_
            refine Go.bipush (v := nI 8) dX9_part0_158 rfl ?_
            refine Go.icmp_ne_f (tgt := 165) dX9_part0_160 (by decide) (by rw [d8]) ?_
            refine Go.iconst (v := nI 0) dX9_part0_163 rfl ?_
            refine Go.ireturn .boolean dX9_part0_164 rfl rfl ?_
            refine Or.inr ⟨rfl, FlS.here hM (fun hb => ?_)⟩
            unfold pieceC; rw [if_pos eb, if_neg (by rw [h40]; omega)]
          · have e : cstep N B key p P R ok (nI 1) = some (nI 40 :: P, R, ok, nI 1) := by
              unfold cstep pieceC; rw [if_neg (by decide), if_pos eb, if_pos (by rw [h40]; omega)]
            have hR := Rch.one hb e
            have hMk2 := cstep_ok hMk hb e
            have hPv := hTk.pv hb (Or.inr (Or.inr s40.1)) hN
            refine Go.aload_n dX9_part0_0 rfl ?_
            refine Go.getI dX9_part0_1 flX9_199 rfl ?_
            refine Go.iconst (v := nI 2) dX9_part0_4 rfl ?_
            refine Go.icmp_ne_t (tgt := 33) dX9_part0_5 (by decide) t2 ?_
            refine Go.aload_n dX9_part0_33 rfl ?_
            refine Go.getI dX9_part0_34 flX9_199 rfl ?_
            refine Go.at 37 rfl ?_
            refine Go.iconst (v := nI 1) dX9_part0_37 rfl ?_
            refine Go.icmp_ne_t (tgt := 84) dX9_part0_38 (by decide) t1 ?_
            refine Go.aload_n dX9_part0_84 rfl ?_
            refine Go.bipush (v := nI 33) dX9_part0_85 rfl ?_
            refine Go.callVi 76 [vI (nI 33)] [] dX9_part0_87 lkX9_230 (Or.inl ⟨_, _, _, rfl, rfl, rfl⟩) rfl (Nat.le_of_ble_eq_true rfl) rfl (Nat.le_of_ble_eq_true rfl) (m_isSign (nI 33)) ?_
            refine Go.if_eqb_t (tgt := 145) dX9_part0_90 (by decide) s33 ?_
            refine Go.at 145 rfl ?_
            refine Go.aload_n dX9_part0_145 rfl ?_
            refine Go.bipush (v := nI 40) dX9_part0_146 rfl ?_
            refine Go.callVi 76 [vI (nI 40)] [] dX9_part0_148 lkX9_230 (Or.inl ⟨_, _, _, rfl, rfl, rfl⟩) rfl (Nat.le_of_ble_eq_true rfl) rfl (Nat.le_of_ble_eq_true rfl) (m_isSign (nI 40)) ?_
            refine Go.if_eqb_f (tgt := 163) dX9_part0_151 (by decide) s40 ?_
            refine Go.aload_n dX9_part0_154 rfl ?_
            refine Go.getI dX9_part0_155 flX9_261 rfl ?_
            refine Go.topE (y := nI dp) hM.2.2.2.2.1 ?_
            refine Go.at 158 rfl ?_
            refine Go.bipush (v := nI 8) dX9_part0_158 rfl ?_
            refine Go.icmp_ne_t (tgt := 165) dX9_part0_160 (by decide) (nI_neq (by omega) (by omega) (by omega)) ?_
            refine Go.aload_n dX9_part0_165 rfl ?_
            refine Go.dupR dX9_part0_166 ?_
            refine Go.getI dX9_part0_167 flX9_261 rfl ?_
            refine Go.topE (y := nI dp) hM.2.2.2.2.1 ?_
            refine Go.iconst (v := nI 1) dX9_part0_170 rfl ?_
            refine Go.at 171 rfl ?_
            refine Go.iaddN dX9_part0_171 ?_
            refine Go.put dX9_part0_172 flX9_261 rfl rfl rfl rfl ?_
            refine Go.aload_n dX9_part0_175 rfl ?_
            have hM2 : Mt μ0 (ms μ 76 20 (nI (dp + 1))) N B L p X ok (dp + 1) tn := hM.fld.2.1 (dp + 1)
            have hPv2 : Pv N B (en N B (bg N B p)) ((ms μ 76 20 (nI (dp + 1))) 76 17) := by simp (disch := omega) only [ms_self, ms_ne, upd_self, upd_ne]; exact hPv
            refine Go.callVu 76 [] [] dX9_part0_176 lkX9_233 (Or.inl ⟨_, _, _, rfl, rfl, rfl⟩) rfl (Nat.le_of_ble_eq_true rfl) rfl (Nat.le_of_ble_eq_true rfl) (m_next hM2 hPv2) (fun μ2 h2 => ?_)
            refine Go.aload_n dX9_part0_179 rfl ?_
            refine Go.iload_n dX9_part0_180 rfl ?_
            refine Go.at 181 rfl ?_
            refine Go.callVd 76 [vI (nI key)] [] dX9_part0_181 lkX9_264 (Or.inl ⟨_, _, _, rfl, rfl, rfl⟩) rfl (Nat.le_of_ble_eq_true rfl) rfl (Nat.le_of_ble_eq_true rfl) (hei _ (by omega) hqN μ0 μ2 (nI 40 :: P) R X ok (k + 1) (dp + 1) tn (D + 3) h2 hMk2 (by rw [cntL, if_pos rfl, h40]) (by rw [cntL, if_neg (by decide)]; exact h33) (Or.inr ⟨by show ¬ nI 40 = nI 33; decide, by show rankI (nI 40) < 1; decide⟩) (by omega) hoX (by omega)) (fun μ3 g => ?_) (fun μ3 g => ?_)
            · obtain ⟨p', Y, ok', Q, R', g⟩ := g
              have hM3 := g.1
              have hp3 := hM3.2.2.1
              have hTk3 := hM3.2.1
              by_cases s41 : μ3 76 17 = nI 3 ∧ μ3 76 19 = nI 41
              · obtain ⟨hb3, eb3⟩ := tok_sign hTk3 hN hB (by decide) s41
                have hPv := hTk3.pv hb3 (Or.inr (Or.inr s41.1)) hN
                refine Go.if_eq_f (tgt := 196) dX9_part0_184 (by decide) (by decide) ?_
                refine Go.aload_n dX9_part0_187 rfl ?_
                refine Go.bipush (v := nI 41) dX9_part0_188 rfl ?_
                refine Go.callVi 76 [vI (nI 41)] [] dX9_part0_190 lkX9_230 (Or.inl ⟨_, _, _, rfl, rfl, rfl⟩) rfl (Nat.le_of_ble_eq_true rfl) rfl (Nat.le_of_ble_eq_true rfl) (m_isSign (nI 41)) ?_
                refine Go.if_neb_t (tgt := 198) dX9_part0_193 (by decide) s41 ?_
                refine Go.aload_n dX9_part0_198 rfl ?_
                refine Go.at 199 rfl ?_
                refine Go.dupR dX9_part0_199 ?_
                refine Go.getI dX9_part0_200 flX9_261 rfl ?_
                refine Go.topE (y := nI (dp + 1)) hM3.2.2.2.2.1 ?_
                refine Go.iconst (v := nI 1) dX9_part0_203 rfl ?_
                refine Go.isubN dX9_part0_204 (by omega) ?_
                refine Go.topE (y := nI dp) (by rw [Nat.add_sub_cancel]) ?_
                refine Go.put dX9_part0_205 flX9_261 rfl rfl rfl rfl ?_
                refine Go.aload_n dX9_part0_208 rfl ?_
                refine Go.at 209 rfl ?_
                have hM2 : Mt μ0 (ms μ3 76 20 (nI dp)) N B L p' (Y ++ X) ok' dp tn := hM3.fld.2.1 dp
                have hPv2 : Pv N B (en N B (bg N B p')) ((ms μ3 76 20 (nI dp)) 76 17) := by simp (disch := omega) only [ms_self, ms_ne, upd_self, upd_ne]; exact hPv
                refine Go.callVu 76 [] [] dX9_part0_209 lkX9_233 (Or.inl ⟨_, _, _, rfl, rfl, rfl⟩) rfl (Nat.le_of_ble_eq_true rfl) rfl (Nat.le_of_ble_eq_true rfl) (m_next hM2 hPv2) (fun μ5 h5 => ?_)
                refine Go.iconst (v := nI 1) dX9_part0_212 rfl ?_
                refine Go.ireturn .boolean dX9_part0_213 rfl rfl ?_
                exact Or.inl ⟨rfl, P0S.br hR (by omega) rfl g hb3 eb3 h5⟩
              · skip
                refine Go.if_eq_f (tgt := 196) dX9_part0_184 (by decide) (by decide) ?_
                refine Go.aload_n dX9_part0_187 rfl ?_
                refine Go.bipush (v := nI 41) dX9_part0_188 rfl ?_
                refine Go.callVi 76 [vI (nI 41)] [] dX9_part0_190 lkX9_230 (Or.inl ⟨_, _, _, rfl, rfl, rfl⟩) rfl (Nat.le_of_ble_eq_true rfl) rfl (Nat.le_of_ble_eq_true rfl) (m_isSign (nI 41)) ?_
                refine Go.if_neb_f (tgt := 198) dX9_part0_193 (by decide) s41 ?_
                refine Go.iconst (v := nI 0) dX9_part0_196 rfl ?_
                refine Go.at 197 rfl ?_
                refine Go.ireturn .boolean dX9_part0_197 rfl rfl ?_
                exact Or.inr ⟨rfl, FlS.br hR g (tok_no hTk3 hN hB (by decide) (by decide) (by decide) (by decide) s41)⟩
            · skip
              refine Go.if_eq_t (tgt := 196) dX9_part0_184 (by decide) (by decide) ?_
              refine Go.iconst (v := nI 0) dX9_part0_196 rfl ?_
              refine Go.ireturn .boolean dX9_part0_197 rfl rfl ?_
              exact Or.inr ⟨rfl, by obtain ⟨pf, q1, q2, q3, q4⟩ := g; exact ⟨pf, q1, q2, q3, hR.flt q4⟩⟩
        · skip
          refine Go.aload_n dX9_part0_0 rfl ?_
          refine Go.getI dX9_part0_1 flX9_199 rfl ?_
          refine Go.iconst (v := nI 2) dX9_part0_4 rfl ?_
          refine Go.icmp_ne_t (tgt := 33) dX9_part0_5 (by decide) t2 ?_
          refine Go.aload_n dX9_part0_33 rfl ?_
          refine Go.getI dX9_part0_34 flX9_199 rfl ?_
          refine Go.at 37 rfl ?_
          refine Go.iconst (v := nI 1) dX9_part0_37 rfl ?_
          refine Go.icmp_ne_t (tgt := 84) dX9_part0_38 (by decide) t1 ?_
          refine Go.aload_n dX9_part0_84 rfl ?_
          refine Go.bipush (v := nI 33) dX9_part0_85 rfl ?_
          refine Go.callVi 76 [vI (nI 33)] [] dX9_part0_87 lkX9_230 (Or.inl ⟨_, _, _, rfl, rfl, rfl⟩) rfl (Nat.le_of_ble_eq_true rfl) rfl (Nat.le_of_ble_eq_true rfl) (m_isSign (nI 33)) ?_
          refine Go.if_eqb_t (tgt := 145) dX9_part0_90 (by decide) s33 ?_
          refine Go.at 145 rfl ?_
          refine Go.aload_n dX9_part0_145 rfl ?_
          refine Go.bipush (v := nI 40) dX9_part0_146 rfl ?_
          refine Go.callVi 76 [vI (nI 40)] [] dX9_part0_148 lkX9_230 (Or.inl ⟨_, _, _, rfl, rfl, rfl⟩) rfl (Nat.le_of_ble_eq_true rfl) rfl (Nat.le_of_ble_eq_true rfl) (m_isSign (nI 40)) ?_
          refine Go.if_eqb_t (tgt := 163) dX9_part0_151 (by decide) s40 ?_
          refine Go.iconst (v := nI 0) dX9_part0_163 rfl ?_
          refine Go.ireturn .boolean dX9_part0_164 rfl rfl ?_
          refine Or.inr ⟨rfl, FlS.here hM (fun hb => ?_)⟩
          unfold pieceC; rw [if_neg (fun z => tok_no hTk hN hB (by decide) (by decide) (by decide) (by decide) s40 ⟨hb, z⟩), if_neg (fun z => tok_no hTk hN hB (by decide) (by decide) (by decide) (by decide) s33 ⟨hb, z⟩), hnone]
theorem m_levels {V : VV} {N : Nat} {B : Nat → Nat} {key L : Nat} (hk3 : key < 3) (hN : N ≤ 96) (hB : ∀ j, j < N → B j < 256) : ∀ (n p : Nat), p ≤ N → N - p < n → CP0 V N B key L p ∧ CL V mX9_either 9 N B key L 1 p ∧ CL V mX9_term 5 N B key L 5 p ∧ CL V mX9_sum 6 N B key L 4 p ∧ CL V mX9_test 7 N B key L 3 p ∧ CL V mX9_both 8 N B key L 2 p
  | 0, p, _, h => absurd h (by omega)
  | n + 1, p, hp, h => by
    have ih := fun (q : Nat) (h1 : p < q) (h2 : q ≤ N) => m_levels (V := V) (L := L) hk3 hN hB n q h2 (by omega)
    have a := m_part0_at hk3 hN hB (fun q h1 h2 => (ih q h1 h2).1) (fun q h1 h2 => (ih q h1 h2).2.1)
    have b := m_term_at hN hB a (fun q h1 h2 => (ih q h1 h2).1)
    have c := m_sum_at hN hB b (fun q h1 h2 => (ih q h1 h2).2.2.1)
    have e := m_test_at hN hB c (fun q h1 h2 => (ih q h1 h2).2.2.2.1)
    have f := m_both_at hN hB e (fun q h1 h2 => (ih q h1 h2).2.2.2.2.1)
    exact ⟨a, m_either_at hN hB f (fun q h1 h2 => (ih q h1 h2).2.2.2.2.2), b, c, e, f⟩
