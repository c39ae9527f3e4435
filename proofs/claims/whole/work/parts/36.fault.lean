def cstep (N : Nat) (B : Nat → Nat) (key p : Nat) (P R : List Int32) (ok : Nat) (due : Int32) : Option (List Int32 × List Int32 × Nat × Int32) := if due = nI 0 then signC B (bg N B p) P R ok else pieceC N B key (bg N B p) P R ok
def mfin (N : Nat) (B : Nat → Nat) (p : Nat) (P R : List Int32) (ok : Nat) (due : Int32) : Nat ⊕ (List Int32 × Nat) := if due = nI 0 ∧ cntL (nI 40) P = 0 then .inr ((putP 1 P R).2, ok) else .inl (bg N B p)
def mrun (N : Nat) (B : Nat → Nat) (key : Nat) : Nat → Nat → List Int32 → List Int32 → Nat → Int32 → Nat ⊕ (List Int32 × Nat)
  | 0, p, P, R, ok, due => mfin N B p P R ok due
  | j + 1, p, P, R, ok, due => if bg N B p < N then (match cstep N B key p P R ok due with
    | none => .inl (bg N B p)
    | some (P', R', ok', due') => mrun N B key j (en N B (bg N B p)) P' R' ok' due') else mfin N B p P R ok due
/-- what holds as long as the reader goes on -/
def Mok (N : Nat) (B : Nat → Nat) (p : Nat) (P R : List Int32) (due : Int32) : Prop := p ≤ N ∧ P.length + R.length ≤ p ∧ cntL (nI 40) P ≤ 8 ∧ cntL (nI 33) P ≤ 8 ∧ (due = nI 0 ∧ okF false P ∨ due = nI 1 ∧ okF true P)
theorem endP_33 : ∀ (P R : List Int32), cntL (nI 33) (endP P R).1 ≤ cntL (nI 33) P
  | [], R => Nat.le_refl _
  | c :: P, R => by
    rw [endP]; split
    · rename_i h
      have := endP_33 P (-(nI 33) :: R)
      rw [cntL, if_pos h]; omega
    · exact Nat.le_refl _
theorem cstep_ok {N : Nat} {B : Nat → Nat} {key p : Nat} {P R : List Int32} {ok : Nat} {due : Int32} (h : Mok N B p P R due) (hb : bg N B p < N) {P' R' : List Int32} {ok' : Nat} {due' : Int32} (e : cstep N B key p P R ok due = some (P', R', ok', due')) : Mok N B (en N B (bg N B p)) P' R' due' := by
  obtain ⟨h1, h2, h3, h4, h5⟩ := h
  have g1 := bg_ge (N := N) (B := B) p
  have g2 := en_gt (B := B) hb
  have g3 := en_le (N := N) (B := B) (Nat.le_of_lt hb)
  unfold cstep at e
  rcases h5 with ⟨rfl, ho⟩ | ⟨rfl, ho⟩
  · rw [if_pos rfl] at e
    unfold signC at e
    split at e
    · split at e
      · contradiction
      · rename_i h0
        obtain ⟨P2, e2, ho2⟩ := okF.br R ho h0
        injection e with e
        injection e with q1 e
        injection e with q2 e
        injection e with q3 q4
        subst q1 q2 q3 q4
        have l1 := putP_len 1 P R
        have c4 := putP_cnt (r := 1) (by decide) rank40 P R
        have c3 := putP_cnt (r := 1) (by decide) rank33 P R
        rw [e2] at l1 c4 c3 ⊢
        rw [cntL, if_pos rfl] at c4
        rw [cntL, if_neg (by decide)] at c3
        simp only [List.length_cons] at l1
        have l2 := endP_len P2 (putP 1 P R).2
        have c5 := endP_cnt (x := nI 40) (by decide) P2 (putP 1 P R).2
        have c6 := endP_33 P2 (putP 1 P R).2
        refine ⟨g3, ?_, ?_, ?_, Or.inl ⟨rfl, okF.end _ ho2⟩⟩
        · show (endP P2 (putP 1 P R).2).1.length + (endP P2 (putP 1 P R).2).2.length ≤ _; omega
        · show cntL (nI 40) (endP P2 (putP 1 P R).2).1 ≤ 8; omega
        · show cntL (nI 33) (endP P2 (putP 1 P R).2).1 ≤ 8; omega
    · split at e
      · contradiction
      · rename_i r0
        have n40 : ¬ nI (B (bg N B p)) = nI 40 := fun z => r0 (by rw [z]; exact rank40)
        have n33 : ¬ nI (B (bg N B p)) = nI 33 := fun z => r0 (by rw [z]; exact rank33)
        have fin : ∀ r, 1 ≤ r → Mok N B (en N B (bg N B p)) (nI (B (bg N B p)) :: (putP r P R).1) (putP r P R).2 (nI 1) := fun r hr => by
          have l1 := putP_len r P R
          have c4 := putP_cnt hr rank40 P R
          have c3 := putP_cnt hr rank33 P R
          refine ⟨g3, by simp only [List.length_cons]; omega, by rw [cntL, if_neg n40]; omega, by rw [cntL, if_neg n33]; omega, Or.inr ⟨rfl, ?_⟩⟩
          rw [okF, if_neg n40, if_neg n33]
          exact ⟨by omega, okF.put hr _ ho⟩
        split at e
        · split at e
          · contradiction
          · injection e with e
            injection e with q1 e
            injection e with q2 e
            injection e with q3 q4
            subst q1 q2 q3 q4
            exact fin 4 (by decide)
        · injection e with e
          injection e with q1 e
          injection e with q2 e
          injection e with q3 q4
          subst q1 q2 q3 q4
          exact fin _ (by omega)
  · rw [if_neg (by decide)] at e
    unfold pieceC at e
    split at e
    · split at e
      · rename_i c8
        injection e with e
        injection e with q1 e
        injection e with q2 e
        injection e with q3 q4
        subst q1 q2 q3 q4
        refine ⟨g3, by simp only [List.length_cons]; omega, by rw [cntL, if_pos rfl]; omega, by rw [cntL, if_neg (by decide)]; omega, Or.inr ⟨rfl, ?_⟩⟩
        rw [okF, if_pos rfl]; exact ho
      · contradiction
    · split at e
      · split at e
        · rename_i c8
          injection e with e
          injection e with q1 e
          injection e with q2 e
          injection e with q3 q4
          subst q1 q2 q3 q4
          refine ⟨g3, by simp only [List.length_cons]; omega, by rw [cntL, if_neg (by decide)]; omega, by rw [cntL, if_pos rfl]; omega, Or.inr ⟨rfl, ?_⟩⟩
          rw [okF, if_neg (by decide), if_pos rfl]; exact ⟨rfl, ho⟩
        · contradiction
      · split at e
        · contradiction
        · rename_i v hv
          injection e with e
          injection e with q1 e
          injection e with q2 e
          injection e with q3 q4
          subst q1 q2 q3 q4
          have l2 := endP_len P (v :: R)
          have c5 := endP_cnt (x := nI 40) (by decide) P (v :: R)
          have c6 := endP_33 P (v :: R)
          simp only [List.length_cons] at l2
          exact ⟨g3, by omega, by omega, by omega, Or.inl ⟨rfl, okF.end _ ho⟩⟩
