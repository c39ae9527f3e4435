theorem rank_inv {b : Nat} (hb : b < 256) : (rankI (nI b) = 1 → b = 124) ∧ (rankI (nI b) = 2 → b = 38) ∧ (rankI (nI b) = 3 → b = 60 ∨ b = 61 ∨ b = 62) ∧ (rankI (nI b) = 4 → b = 43 ∨ b = 45) ∧ (rankI (nI b) = 5 → b = 42 ∨ b = 47) := by
  unfold rankI
  refine ⟨?_, ?_, ?_, ?_, ?_⟩ <;> intro h <;> revert h <;> (repeat' split) <;> intro h <;> first | omega | skip
  all_goals first
    | exact nI_inj (by assumption) hb
    | (rename_i q; rcases q with q | q | q; exact Or.inl (nI_inj q hb); exact Or.inr (Or.inl (nI_inj q hb)); exact Or.inr (Or.inr (nI_inj q hb)))
    | (rename_i q; rcases q with q | q; exact Or.inl (nI_inj q hb); exact Or.inr (nI_inj q hb))
theorem tok_sign {μ : Memo} {N : Nat} {B : Nat → Nat} {p : Nat} (h : TkP μ N B p) (hN : N ≤ 96) (hB : ∀ j, j < N → B j < 256) {c : Nat} (hc : c < 256) (hs : μ 76 17 = nI 3 ∧ μ 76 19 = nI c) : bg N B p < N ∧ B (bg N B p) = c := by
  obtain ⟨z, e⟩ := (h.sgn hN hB hc).mp hs
  exact ⟨srt_pos (B := B) (by rw [z]; decide), e⟩
theorem tok_no {μ : Memo} {N : Nat} {B : Nat → Nat} {p : Nat} (h : TkP μ N B p) (hN : N ≤ 96) (hB : ∀ j, j < N → B j < 256) {c : Nat} (hc : c < 256) (h1 : c ≠ 32) (h2 : ¬ (97 ≤ c ∧ c ≤ 122)) (h3 : ¬ (48 ≤ c ∧ c ≤ 57)) (hs : ¬ (μ 76 17 = nI 3 ∧ μ 76 19 = nI c)) : ¬ (bg N B p < N ∧ B (bg N B p) = c) := by
  rintro ⟨a, b⟩
  exact hs ((h.sgn hN hB hc).mpr ⟨srt_sign a (by omega) (by rw [b]; exact h2) (by rw [b]; exact h3), b⟩)
