/-! ===== what the present token is to the machine ===== -/
section CLS
variable {μ : Memo} {N : Nat} {B : Nat → Nat} {p key : Nat}
theorem srt_sign {j : Nat} (hj : j < N) (h1 : B j ≠ 32) (h2 : ¬ (97 ≤ B j ∧ B j ≤ 122)) (h3 : ¬ (48 ≤ B j ∧ B j ≤ 57)) : srt N B j = 4 := by
  unfold srt; rw [if_pos hj, if_neg h1, if_neg h2, if_neg h3]
theorem srt4 {j : Nat} (h : srt N B j = 4) : j < N ∧ B j ≠ 32 ∧ ¬ (97 ≤ B j ∧ B j ≤ 122) ∧ ¬ (48 ≤ B j ∧ B j ≤ 57) := by
  have hj := srt_pos (N := N) (B := B) (j := j) (by omega)
  unfold srt at h; rw [if_pos hj] at h
  refine ⟨hj, ?_, ?_, ?_⟩ <;> intro z <;> revert h <;> (repeat' split) <;> intro h <;> first | omega | contradiction
/-- a number -/
theorem tok_num (h : TkP μ N B p) (hN : N ≤ 96) (ht : μ 76 17 = nI 2) : bg N B p < N ∧ B (bg N B p) ≠ 40 ∧ B (bg N B p) ≠ 33 ∧ ∃ n, n < 10000 ∧ μ 76 18 = nI n ∧ opnd N B key (bg N B p) = some (nI n) := by
  obtain ⟨h1, h2, h3, h4, h5, h6⟩ := h
  have hno := bg_no (B := B) hN p
  have hs4 := srt_le (N := N) (B := B) (bg N B p)
  have hs : srt N B (bg N B p) = 3 := by
    have : srt N B (bg N B p) = 0 ∨ srt N B (bg N B p) = 2 ∨ srt N B (bg N B p) = 3 ∨ srt N B (bg N B p) = 4 := by omega
    rcases this with z | z | z | z
    · rw [h3 z] at ht; exact absurd ht (by decide)
    · rw [(h4 z).1] at ht; split at ht <;> exact absurd ht (by decide)
    · exact z
    · rw [(h6 z).1] at ht; exact absurd ht (by decide)
  have hb := srt_pos (N := N) (B := B) (j := bg N B p) (by omega)
  have hd := srt_dig hs
  obtain ⟨q1, q2⟩ := h5 hs
  rw [q1] at ht
  by_cases hz : flw N B (bg N B p) ∨ 4 < en N B (bg N B p) - bg N B p
  · rw [if_pos hz] at ht; exact absurd ht (by decide)
  · have hl : en N B (bg N B p) - bg N B p ≤ 4 := by
      by_cases z : 4 < en N B (bg N B p) - bg N B p
      · exact absurd (Or.inr z) hz
      · omega
    have := numN_lt (N := N) (B := B) (en N B (bg N B p) - bg N B p) 0 (bg N B p) (fun t ht => srt_dig (en_in hb hs (by decide) (by omega) (by omega)))
    have pw : 10 ^ (en N B (bg N B p) - bg N B p) ≤ 10 ^ 4 := Nat.pow_le_pow_right (by decide) hl
    refine ⟨hb, by omega, by omega, _, ?_, q2 hl, ?_⟩
    · omega
    · unfold opnd; rw [if_neg (fun z => hz (Or.inl z)), if_pos hs, if_pos hl]
theorem tok_srt (h : TkP μ N B p) (hN : N ≤ 96) : (srt N B (bg N B p) = 0 ∧ μ 76 17 = nI 0 ∧ ¬ bg N B p < N) ∨ (srt N B (bg N B p) = 2 ∧ (μ 76 17 = nI 1 ∧ ¬ flw N B (bg N B p) ∨ μ 76 17 = nI 4 ∧ flw N B (bg N B p))) ∨ (srt N B (bg N B p) = 3 ∧ (μ 76 17 = nI 2 ∨ μ 76 17 = nI 4 ∧ (flw N B (bg N B p) ∨ 4 < en N B (bg N B p) - bg N B p))) ∨ (srt N B (bg N B p) = 4 ∧ μ 76 17 = nI 3 ∧ μ 76 19 = nI (B (bg N B p))) := by
  obtain ⟨h1, h2, h3, h4, h5, h6⟩ := h
  have hno := bg_no (B := B) hN p
  have hs4 := srt_le (N := N) (B := B) (bg N B p)
  have : srt N B (bg N B p) = 0 ∨ srt N B (bg N B p) = 2 ∨ srt N B (bg N B p) = 3 ∨ srt N B (bg N B p) = 4 := by omega
  rcases this with z | z | z | z
  · refine Or.inl ⟨z, h3 z, fun hb => ?_⟩
    unfold srt at z; rw [if_pos hb] at z; revert z; (repeat' split) <;> intro z <;> omega
  · refine Or.inr (Or.inl ⟨z, ?_⟩)
    have q := (h4 z).1
    by_cases f : flw N B (bg N B p)
    · rw [if_pos f] at q; exact Or.inr ⟨q, f⟩
    · rw [if_neg f] at q; exact Or.inl ⟨q, f⟩
  · refine Or.inr (Or.inr (Or.inl ⟨z, ?_⟩))
    have q := (h5 z).1
    by_cases f : flw N B (bg N B p) ∨ 4 < en N B (bg N B p) - bg N B p
    · rw [if_pos f] at q; exact Or.inr ⟨q, f⟩
    · rw [if_neg f] at q; exact Or.inl q
  · exact Or.inr (Or.inr (Or.inr ⟨z, (h6 z).1, (h6 z).2⟩))
/-- a word -/
theorem tok_word (h : TkP μ N B p) (hN : N ≤ 96) (ht : μ 76 17 = nI 1) : bg N B p < N ∧ (97 ≤ B (bg N B p) ∧ B (bg N B p) ≤ 122) ∧ ((μ 76 19 = nI (B (bg N B p)) ∧ opnd N B key (bg N B p) = (match nmF key (B (bg N B p)) with | some q => some ((-1) - nI q) | none => none)) ∨ (μ 76 19 = nI 0 ∧ opnd N B key (bg N B p) = none)) := by
  rcases tok_srt h hN with ⟨z, q, -⟩ | ⟨z, ⟨q, f⟩ | ⟨q, -⟩⟩ | ⟨z, q | ⟨q, -⟩⟩ | ⟨z, q, -⟩
  · rw [q] at ht; exact absurd ht (by decide)
  · have hb := srt_pos (N := N) (B := B) (j := bg N B p) (by omega)
    have l := (h.2.2.2.1 z).2
    refine ⟨hb, srt_let z, ?_⟩
    by_cases e : en N B (bg N B p) = bg N B p + 1
    · rw [if_pos e] at l
      refine Or.inl ⟨l, ?_⟩
      unfold opnd; rw [if_neg f, if_neg (by omega), if_pos z, if_pos e]
      cases nmF key (B (bg N B p)) <;> rfl
    · rw [if_neg e] at l
      refine Or.inr ⟨l, ?_⟩
      unfold opnd; rw [if_neg f, if_neg (by omega), if_pos z, if_neg e]
  · rw [q] at ht; exact absurd ht (by decide)
  · rw [q] at ht; exact absurd ht (by decide)
  · rw [q] at ht; exact absurd ht (by decide)
  · rw [q] at ht; exact absurd ht (by decide)
/-- neither a number nor a word -/
theorem tok_none (h : TkP μ N B p) (hN : N ≤ 96) (h1 : ¬ μ 76 17 = nI 2) (h2 : ¬ μ 76 17 = nI 1) : opnd N B key (bg N B p) = none := by
  unfold opnd
  rcases tok_srt h hN with ⟨z, q, -⟩ | ⟨z, ⟨q, f⟩ | ⟨q, f⟩⟩ | ⟨z, q | ⟨q, f⟩⟩ | ⟨z, q, -⟩
  · split
    · rfl
    · rw [if_neg (by omega), if_neg (by omega)]
  · exact absurd q h2
  · rw [if_pos f]
  · exact absurd q h1
  · by_cases g : flw N B (bg N B p)
    · rw [if_pos g]
    · rw [if_neg g, if_pos z, if_neg (by rcases f with f | f; exact absurd f g; omega)]
  · split
    · rfl
    · rw [if_neg (by omega), if_neg (by omega)]
end CLS
