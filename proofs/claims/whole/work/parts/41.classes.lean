/-! ===== what the present token is to the machine ===== -/
section CLS
variable {μ : Memo} {N : Nat} {B : Nat → Nat} {p key : Nat}
theorem srt_sign {j : Nat} (hj : j < N) (h1 : B j ≠ 32) (h2 : ¬ (97 ≤ B j ∧ B j ≤ 122)) (h3 : ¬ (48 ≤ B j ∧ B j ≤ 57)) : srt N B j = 4 := by
  unfold srt; rw [if_pos hj, if_neg h1, if_neg h2, if_neg h3]
theorem srt4 {j : Nat} (h : srt N B j = 4) : j < N ∧ B j ≠ 32 ∧ ¬ (97 ≤ B j ∧ B j ≤ 122) ∧ ¬ (48 ≤ B j ∧ B j ≤ 57) := by
  have hj := srt_pos (N := N) (B := B) (j := j) (by omega)
  unfold srt at h; rw [if_pos hj] at h
  refine ⟨hj, ?_, ?_, ?_⟩ <;> intro z <;> revert h <;> (repeat' split) <;> intro h <;> first | omega | contradiction
/-- a number -/
theorem tok_num (h : TkP μ N B p) (hN : N ≤ 96) (ht : μ 76 17 = nI 2) : bg N B p < N ∧ B (bg N B p) ≠ 40 ∧ B (bg N B p) ≠ 33 ∧ ∃ n, n < 10000 ∧ μ 76 18 = nI n ∧ opnd N B key (bg N B p) = some (nI n) := by
  obtain ⟨h1, h2, h3, h4, h5, h6⟩ := h
  have hno := bg_no (B := B) hN p
  have hs4 := srt_le (N := N) (B := B) (bg N B p)
  have hs : srt N B (bg N B p) = 3 := by
    have : srt N B (bg N B p) = 0 ∨ srt N B (bg N B p) = 2 ∨ srt N B (bg N B p) = 3 ∨ srt N B (bg N B p) = 4 := by omega
    rcases this with z | z | z | z
    · rw [h3 z] at ht; exact absurd ht (by decide)
    · rw [(h4 z).1] at ht; split at ht <;> exact absurd ht (by decide)
    · exact z
    · rw [(h6 z).1] at ht; exact absurd ht (by decide)
  have hb := srt_pos (N := N) (B := B) (j := bg N B p) (by omega)
  have hd := srt_dig hs
  obtain ⟨q1, q2⟩ := h5 hs
  rw [q1] at ht
  by_cases hz : flw N B (bg N B p) ∨ 4 < en N B (bg N B p) - bg N B p
  · rw [if_pos hz] at ht; exact absurd ht (by decide)
  · have hl : en N B (bg N B p) - bg N B p ≤ 4 := by
      by_cases z : 4 < en N B (bg N B p) - bg N B p
      · exact absurd (Or.inr z) hz
      · omega
    have := numN_lt (N := N) (B := B) (en N B (bg N B p) - bg N B p) 0 (bg N B p) (fun t ht => srt_dig (en_in hb hs (by decide) (by omega) (by omega)))
    have pw : 10 ^ (en N B (bg N B p) - bg N B p) ≤ 10 ^ 4 := Nat.pow_le_pow_right (by decide) hl
    refine ⟨hb, by omega, by omega, _, ?_, q2 hl, ?_⟩
    · omega
    · unfold opnd; rw [if_neg (fun z => hz (Or.inl z)), if_pos hs, if_pos hl]
end CLS
