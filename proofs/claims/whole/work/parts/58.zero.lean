/-! ===== both begin side by side ===== -/
theorem z_s : mu0 77 0 = nI 0 ∧ mu0 77 1 = nI 0 ∧ mu0 77 2 = nI 0 ∧ mu0 77 3 = nI 0 ∧ mu0 77 4 = nI 1 := by decide +kernel
theorem z_n : nX (mu0 77) = 0 ∧ nH (mu0 77) = 0 := by decide +kernel
theorem z_c : ∀ c, c < 30 → mu0 77 (11 + 4 * c) = nI 0 ∧ mu0 77 (11 + 4 * c + 1) = nI 0 ∧ mu0 77 (11 + 4 * c + 2) = nI 0 ∧ mu0 77 (11 + 4 * c + 3) = (-1) := by decide +kernel
theorem z_i : ∀ c, c < 30 → mu0 8 c = nI 0 ∧ mu0 9 c = nI 0 ∧ mu0 10 c = nI 0 ∧ mu0 11 c = oN (-1) := by decide +kernel
theorem z_w : ∀ k, k < 6 → mu0 12 k = mu0 77 (5 + k) := by decide +kernel
theorem z_7 : mu0 7 7 = nI 0 ∧ mu0 7 8 = nI 0 ∧ mu0 7 9 = nI 0 ∧ mu0 7 10 = nI 1 ∧ mu0 7 11 = nI 0 := by decide +kernel
theorem z_sh : ∀ k, k < 4 → mu0 (53 + k) 0 = (-1) ∧ mu0 80 k = (-1) ∧ mu0 (53 + k) 1 = nI 0 ∧ mu0 81 k = nI 0 := by decide +kernel
theorem z_sv : ∀ k, k < 4 → ∀ j, j < 24 → mu0 (57 + k) j = mu0 82 (24 * k + j) := by decide +kernel
theorem z_sl : ∀ k, k < 5 → mu0 (61 + k) 0 = nI 0 ∧ mu0 83 k = nI 0 := by decide +kernel
theorem z_o : mu0 0 10 = nI 0 ∧ mu0 76 3 = nI 0 ∧ mu0 31 0 = nI 0 ∧ mu0 76 14 = nI 0 ∧ mu0 0 9 = nI 0 ∧ mu0 76 29 = nI 0 := by decide +kernel
theorem sim0 : Sim mu0 := by
  obtain ⟨s0, s1, s2, s3, s4⟩ := z_s
  obtain ⟨nx, nh⟩ := z_n
  obtain ⟨i7, i8, i9, i10, i11⟩ := z_7
  obtain ⟨o1, o2, o3, o4, o5, o6⟩ := z_o
  refine ⟨⟨⟨by rw [nx]; omega, by rw [nx]; exact s1, fun t ht => absurd ht (by rw [nx]; omega)⟩, fun c hc => ?_, fun c hc => ⟨0, by decide, (z_c c hc).1⟩, fun c hc => Or.inl (z_c c hc).2.2.2, by rw [nh]; omega, by rw [nh]; exact s0, fun h hh => absurd hh (by rw [nh]; omega)⟩, ⟨fun c hc => ?_, z_w, fun h hh => absurd hh (by rw [nh]; omega), by rw [i7, s0], by rw [i8, s2], by rw [i9, s3], by rw [i10, s4], by rw [i11, s1]⟩, fun t ht => absurd ht (by rw [nx]; omega), Or.inl ⟨o1, o2⟩, fun k hk => ?_, fun k hk => ?_, ⟨0, by omega, o3, o4, fun j hj => absurd hj (by omega)⟩, ⟨0, by omega, o5, o6, fun j hj => absurd hj (by omega)⟩⟩
  · rw [(z_c c hc).2.2.1]; decide
  · obtain ⟨a1, a2, a3, a4⟩ := z_i c hc
    obtain ⟨b1, b2, b3, b4⟩ := z_c c hc
    exact ⟨by rw [a1, b1], by rw [a2, b2], by rw [a3, b3], by rw [a4, b4]⟩
  · obtain ⟨a1, a2, a3, a4⟩ := z_sh k hk
    exact ⟨by rw [a1, a2], Or.inl a2, by rw [a3, a4], ⟨0, by decide, a4⟩, z_sv k hk⟩
  · obtain ⟨a1, a2⟩ := z_sl k hk
    exact ⟨by rw [a1, a2], Or.inl a2⟩
