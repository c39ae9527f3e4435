def Mt (μ0 μ : Memo) (N : Nat) (B : Nat → Nat) (L p : Nat) (X : List (Int32 × Int32)) (ok dp tn : Nat) : Prop :=
  TpM μ N B ∧ TkP μ N B p ∧ p ≤ N ∧ L + 196 ≤ 3147 ∧ μ 76 20 = nI dp ∧ μ 76 21 = nI tn ∧ μ 76 22 = nI X.length ∧ μ 76 23 = nI L ∧ μ 76 24 = nI ok ∧ ArX (μ 77) L X ∧
  (∀ j, j < L ∨ L + 196 ≤ j → μ 77 j = μ0 77 j) ∧ (∀ o, o ≠ 76 → o ≠ 77 → μ o = μ0 o) ∧ (∀ k, k < 14 ∨ 25 ≤ k → μ 76 k = μ0 76 k)
theorem ArX.nw {s : Nat → Int32} {L j : Nat} (x : Int32) : ∀ {X : List (Int32 × Int32)}, ArX s L X → L + 2 * X.length ≤ j → ArX (upd s j x) L X
  | [], _, _ => trivial
  | q :: X, h, hl => by
    have hl1 : L + 2 * (X.length + 1) ≤ j := hl
    exact ⟨by rw [upd_ne _ _ (by omega)]; exact h.1, by rw [upd_ne _ _ (by omega)]; exact h.2.1, h.2.2.nw x (by omega)⟩
theorem ArX.push {s : Nat → Int32} {L : Nat} {X : List (Int32 × Int32)} (h : ArX s L X) (w v : Int32) : ArX (upd (upd s (L + 2 * X.length) w) (L + 2 * X.length + 1) v) L ((w, v) :: X) :=
  ⟨by rw [upd_ne _ _ (by omega), upd_self], by rw [upd_self], (h.nw w (Nat.le_refl _)).nw v (by omega)⟩
theorem TkP.st {μ : Memo} {N : Nat} {B : Nat → Nat} {p : Nat} {μ1 : Memo} (h : TkP μ N B p) (e : ∀ k, 15 ≤ k → k ≤ 19 → μ1 76 k = μ 76 k) : TkP μ1 N B p := by
  unfold TkP at *
  rw [e 15 (by decide) (by decide), e 16 (by decide) (by decide), e 17 (by decide) (by decide), e 18 (by decide) (by decide), e 19 (by decide) (by decide)]
  exact h
theorem Mt.step {μ0 μ : Memo} {N : Nat} {B : Nat → Nat} {L p : Nat} {X : List (Int32 × Int32)} {ok dp tn : Nat} (h : Mt μ0 μ N B L p X ok dp tn) (hX : X.length ≤ 97) (w v : Int32) : Mt μ0 (ms (ms (ms μ 77 (L + 2 * X.length) w) 77 (L + 2 * X.length + 1) v) 76 22 (nI (X.length + 1))) N B L p ((w, v) :: X) ok dp tn := by
  obtain ⟨h1, h2, h3, h4, h5, h6, h7, h8, h9, h10, h11, h12, h13⟩ := h
  refine ⟨⟨h1.1, by simp (disch := omega) only [ms_self, ms_ne, upd_self, upd_ne]; exact h1.2.1, fun j hj => by simp (disch := omega) only [ms_self, ms_ne, upd_self, upd_ne]; exact h1.2.2 j hj⟩, h2.st (fun k _ _ => by simp (disch := omega) only [ms_self, ms_ne, upd_self, upd_ne]), h3, h4, by simp (disch := omega) only [ms_self, ms_ne, upd_self, upd_ne]; exact h5, by simp (disch := omega) only [ms_self, ms_ne, upd_self, upd_ne]; exact h6, by simp (disch := omega) only [ms_self, ms_ne, upd_self, upd_ne]; rfl, by simp (disch := omega) only [ms_self, ms_ne, upd_self, upd_ne]; exact h8, by simp (disch := omega) only [ms_self, ms_ne, upd_self, upd_ne]; exact h9, ?_, fun j hj => ?_, fun o a1 a2 => ?_, fun k hk => ?_⟩
  · simp (disch := omega) only [ms_self, ms_ne, upd_self, upd_ne]; exact h10.push w v
  · simp (disch := omega) only [ms_self, ms_ne, upd_self, upd_ne]; exact h11 j hj
  · simp (disch := omega) only [ms_self, ms_ne, upd_self, upd_ne]; exact h12 o a1 a2
  · simp (disch := omega) only [ms_self, ms_ne, upd_self, upd_ne]; exact h13 k hk
theorem Mt.fld {μ0 μ : Memo} {N : Nat} {B : Nat → Nat} {L p : Nat} {X : List (Int32 × Int32)} {ok dp tn : Nat} (h : Mt μ0 μ N B L p X ok dp tn) : (∀ v, Mt μ0 (ms μ 76 24 (nI v)) N B L p X v dp tn) ∧ (∀ v, Mt μ0 (ms μ 76 20 (nI v)) N B L p X ok v tn) ∧ (∀ v, Mt μ0 (ms μ 76 21 (nI v)) N B L p X ok dp v) := by
  obtain ⟨h1, h2, h3, h4, h5, h6, h7, h8, h9, h10, h11, h12, h13⟩ := h
  refine ⟨fun v => ?_, fun v => ?_, fun v => ?_⟩ <;>
  exact ⟨⟨h1.1, by simp (disch := omega) only [ms_self, ms_ne, upd_self, upd_ne]; exact h1.2.1, fun j hj => by simp (disch := omega) only [ms_self, ms_ne, upd_self, upd_ne]; exact h1.2.2 j hj⟩, h2.st (fun k _ _ => by simp (disch := omega) only [ms_self, ms_ne, upd_self, upd_ne]), h3, h4, by simp (disch := omega) only [ms_self, ms_ne, upd_self, upd_ne]; try exact h5, by simp (disch := omega) only [ms_self, ms_ne, upd_self, upd_ne]; try exact h6, by simp (disch := omega) only [ms_self, ms_ne, upd_self, upd_ne]; exact h7, by simp (disch := omega) only [ms_self, ms_ne, upd_self, upd_ne]; exact h8, by simp (disch := omega) only [ms_self, ms_ne, upd_self, upd_ne]; try exact h9, by simp (disch := omega) only [ms_self, ms_ne, upd_self, upd_ne]; exact h10, fun j hj => by simp (disch := omega) only [ms_self, ms_ne, upd_self, upd_ne]; exact h11 j hj, fun o a1 a2 => by simp (disch := omega) only [ms_self, ms_ne, upd_self, upd_ne]; exact h12 o a1 a2, fun k hk => by simp (disch := omega) only [ms_self, ms_ne, upd_self, upd_ne]; exact h13 k hk⟩
theorem m_next {V : VV} {d : Nat} {μ0 μ : Memo} {N : Nat} {B : Nat → Nat} {L p : Nat} {X : List (Int32 × Int32)} {ok dp tn : Nat} (h : Mt μ0 μ N B L p X ok dp tn) (hv : Pv N B (en N B (bg N B p)) (μ 76 17)) : RetU V (d + 2) mX9_nextToken [vR 76] μ (fun μ1 => Mt μ0 μ1 N B L (en N B (bg N B p)) X ok dp tn) := by
  obtain ⟨h1, h2, h3, h4, h5, h6, h7, h8, h9, h10, h11, h12, h13⟩ := h
  have hle := en_le (N := N) (B := B) (bg_le (N := N) (B := B) h3)
  refine Go.mono (m_nextToken h1 hle h2.2.1 hv) ?_
  rintro r μ1 ⟨e, t, k⟩
  refine ⟨e, h1.tk k, t, hle, h4, ?_, ?_, ?_, ?_, ?_, ?_, fun j hj => ?_, fun o a1 a2 => ?_, fun q hq => ?_⟩
  · rw [k.1 20 (by decide) (by decide) (by decide) (by decide) (by decide)]; exact h5
  · rw [k.1 21 (by decide) (by decide) (by decide) (by decide) (by decide)]; exact h6
  · rw [k.1 22 (by decide) (by decide) (by decide) (by decide) (by decide)]; exact h7
  · rw [k.1 23 (by decide) (by decide) (by decide) (by decide) (by decide)]; exact h8
  · rw [k.1 24 (by decide) (by decide) (by decide) (by decide) (by decide)]; exact h9
  · rw [k.2 77 (by decide)]; exact h10
  · rw [k.2 77 (by decide)]; exact h11 j hj
  · rw [k.2 o a1]; exact h12 o a1 a2
  · rw [k.1 q (by omega) (by omega) (by omega) (by omega) (by omega)]; exact h13 q hq
/-- what the present token says of the next search -/
theorem TkP.pv {μ : Memo} {N : Nat} {B : Nat → Nat} {p : Nat} (h : TkP μ N B p) (hb : bg N B p < N) (ht : μ 76 17 = nI 1 ∨ μ 76 17 = nI 2 ∨ μ 76 17 = nI 3) (hN : N ≤ 96) : Pv N B (en N B (bg N B p)) (μ 76 17) := by
  obtain ⟨h1, h2, h3, h4, h5, h6⟩ := h
  have hgt := en_gt (B := B) hb
  have hno := bg_no (B := B) hN p
  have hs4 := srt_le (N := N) (B := B) (bg N B p)
  have h0 : srt N B (bg N B p) ≠ 0 := by
    intro z; rw [h3 z] at ht; revert ht; decide
  have : srt N B (bg N B p) = 2 ∨ srt N B (bg N B p) = 3 ∨ srt N B (bg N B p) = 4 := by omega
  rcases this with z | z | z
  · have e := en_in hb z (by decide) (q := en N B (bg N B p) - 1) (by omega) (by omega)
    refine Or.inl ⟨?_, by omega, Or.inl e⟩
    rw [(h4 z).1] at ht ⊢
    split
    · rename_i q; rw [if_pos q] at ht; revert ht; decide
    · exact Or.inl rfl
  · have e := en_in hb z (by decide) (q := en N B (bg N B p) - 1) (by omega) (by omega)
    refine Or.inl ⟨?_, by omega, Or.inr e⟩
    rw [(h5 z).1] at ht ⊢
    split
    · rename_i q; rw [if_pos q] at ht; revert ht; decide
    · exact Or.inr rfl
  · have e : en N B (bg N B p) = bg N B p + 1 := by unfold en; rw [if_pos hb, if_pos z]
    refine Or.inr ⟨(h6 z).1, Or.inr ?_⟩
    rw [e, Nat.add_sub_cancel]; exact z
