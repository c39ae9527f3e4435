def cstep (N : Nat) (B : Nat → Nat) (key p : Nat) (P R : List Int32) (ok : Nat) (due : Int32) : Option (List Int32 × List Int32 × Nat × Int32) := if due = nI 0 then signC B (bg N B p) P R ok else pieceC N B key (bg N B p) P R ok
def mfin (N : Nat) (B : Nat → Nat) (p : Nat) (P R : List Int32) (ok : Nat) (due : Int32) : Nat ⊕ (List Int32 × Nat) := if due = nI 0 ∧ cntL (nI 40) P = 0 then .inr ((putP 1 P R).2, ok) else .inl (bg N B p)
def mrun (N : Nat) (B : Nat → Nat) (key : Nat) : Nat → Nat → List Int32 → List Int32 → Nat → Int32 → Nat ⊕ (List Int32 × Nat)
  | 0, p, P, R, ok, due => mfin N B p P R ok due
  | j + 1, p, P, R, ok, due => if bg N B p < N then (match cstep N B key p P R ok due with
    | none => .inl (bg N B p)
    | some (P', R', ok', due') => mrun N B key j (en N B (bg N B p)) P' R' ok' due') else mfin N B p P R ok due
/-- what holds as long as the reader goes on -/
def Mok (N : Nat) (B : Nat → Nat) (p : Nat) (P R : List Int32) (due : Int32) : Prop := p ≤ N ∧ P.length + R.length ≤ p ∧ cntL (nI 40) P ≤ 8 ∧ cntL (nI 33) P ≤ 8 ∧ (due = nI 0 ∧ okF false P ∨ due = nI 1 ∧ okF true P)
theorem endP_33 : ∀ (P R : List Int32), cntL (nI 33) (endP P R).1 ≤ cntL (nI 33) P
  | [], R => Nat.le_refl _
  | c :: P, R => by
    rw [endP]; split
    · rename_i h
      have := endP_33 P (-(nI 33) :: R)
      rw [cntL, if_pos h]; omega
    · exact Nat.le_refl _
theorem cstep_ok {N : Nat} {B : Nat → Nat} {key p : Nat} {P R : List Int32} {ok : Nat} {due : Int32} (h : Mok N B p P R due) (hb : bg N B p < N) {P' R' : List Int32} {ok' : Nat} {due' : Int32} (e : cstep N B key p P R ok due = some (P', R', ok', due')) : Mok N B (en N B (bg N B p)) P' R' due' := by
  obtain ⟨h1, h2, h3, h4, h5⟩ := h
  have g1 := bg_ge (N := N) (B := B) p
  have g2 := en_gt (B := B) hb
  have g3 := en_le (N := N) (B := B) (Nat.le_of_lt hb)
  unfold cstep at e
  rcases h5 with ⟨rfl, ho⟩ | ⟨rfl, ho⟩
  · rw [if_pos rfl] at e
    unfold signC at e
    split at e
    · split at e
      · contradiction
      · rename_i h0
        obtain ⟨P2, e2, ho2⟩ := okF.br R ho h0
        injection e with e
        injection e with q1 e
        injection e with q2 e
        injection e with q3 q4
        subst q1 q2 q3 q4
        have l1 := putP_len 1 P R
        have c4 := putP_cnt (r := 1) (by decide) rank40 P R
        have c3 := putP_cnt (r := 1) (by decide) rank33 P R
        rw [e2] at l1 c4 c3 ⊢
        rw [cntL, if_pos rfl] at c4
        rw [cntL, if_neg (by decide)] at c3
        simp only [List.length_cons] at l1
        have l2 := endP_len P2 (putP 1 P R).2
        have c5 := endP_cnt (x := nI 40) (by decide) P2 (putP 1 P R).2
        have c6 := endP_33 P2 (putP 1 P R).2
        refine ⟨g3, ?_, ?_, ?_, Or.inl ⟨rfl, okF.end _ ho2⟩⟩
        · show (endP P2 (putP 1 P R).2).1.length + (endP P2 (putP 1 P R).2).2.length ≤ _; omega
        · show cntL (nI 40) (endP P2 (putP 1 P R).2).1 ≤ 8; omega
        · show cntL (nI 33) (endP P2 (putP 1 P R).2).1 ≤ 8; omega
    · split at e
      · contradiction
      · rename_i r0
        have n40 : ¬ nI (B (bg N B p)) = nI 40 := fun z => r0 (by rw [z]; exact rank40)
        have n33 : ¬ nI (B (bg N B p)) = nI 33 := fun z => r0 (by rw [z]; exact rank33)
        have fin : ∀ r, 1 ≤ r → Mok N B (en N B (bg N B p)) (nI (B (bg N B p)) :: (putP r P R).1) (putP r P R).2 (nI 1) := fun r hr => by
          have l1 := putP_len r P R
          have c4 := putP_cnt hr rank40 P R
          have c3 := putP_cnt hr rank33 P R
          refine ⟨g3, by simp only [List.length_cons]; omega, by rw [cntL, if_neg n40]; omega, by rw [cntL, if_neg n33]; omega, Or.inr ⟨rfl, ?_⟩⟩
          rw [okF, if_neg n40, if_neg n33]
          exact ⟨by omega, okF.put hr _ ho⟩
        split at e
        · split at e
          · contradiction
          · injection e with e
            injection e with q1 e
            injection e with q2 e
            injection e with q3 q4
            subst q1 q2 q3 q4
            exact fin 4 (by decide)
        · injection e with e
          injection e with q1 e
          injection e with q2 e
          injection e with q3 q4
          subst q1 q2 q3 q4
          exact fin _ (by omega)
  · rw [if_neg (by decide)] at e
    unfold pieceC at e
    split at e
    · split at e
      · rename_i c8
        injection e with e
        injection e with q1 e
        injection e with q2 e
        injection e with q3 q4
        subst q1 q2 q3 q4
        refine ⟨g3, by simp only [List.length_cons]; omega, by rw [cntL, if_pos rfl]; omega, by rw [cntL, if_neg (by decide)]; omega, Or.inr ⟨rfl, ?_⟩⟩
        rw [okF, if_pos rfl]; exact ho
      · contradiction
    · split at e
      · split at e
        · rename_i c8
          injection e with e
          injection e with q1 e
          injection e with q2 e
          injection e with q3 q4
          subst q1 q2 q3 q4
          refine ⟨g3, by simp only [List.length_cons]; omega, by rw [cntL, if_neg (by decide)]; omega, by rw [cntL, if_pos rfl]; omega, Or.inr ⟨rfl, ?_⟩⟩
          rw [okF, if_neg (by decide), if_pos rfl]; exact ⟨rfl, ho⟩
        · contradiction
      · split at e
        · contradiction
        · rename_i v hv
          injection e with e
          injection e with q1 e
          injection e with q2 e
          injection e with q3 q4
          subst q1 q2 q3 q4
          have l2 := endP_len P (v :: R)
          have c5 := endP_cnt (x := nI 40) (by decide) P (v :: R)
          have c6 := endP_33 P (v :: R)
          simp only [List.length_cons] at l2
          exact ⟨g3, by omega, by omega, by omega, Or.inl ⟨rfl, okF.end _ ho⟩⟩
def FfQ (μ0 : Memo) (key : Nat) (out : Nat ⊕ (List Int32 × Nat)) (r : Option AVal) (μ1 : Memo) : Prop := (∀ o, o ≠ 33 → o ≠ 34 → o ≠ 35 → μ1 o = μ0 o) ∧ match out with
  | .inl x => r = some (vI (nI x))
  | .inr (R, ok) => r = some (vI (-1000000005)) ∧ μ1 33 3 = nI R.length ∧ ArS (μ1 34) R ∧ μ1 33 1 = nI ok ∧ μ1 33 0 = nI key
theorem Rst.rd {μ μ1 : Memo} {P R : List Int32} {ok : Nat} {due : Int32} {a b : Nat} (h : Rst μ P R ok due) (r : Rd μ μ1 a b) : Rst μ1 P R ok due := by
  obtain ⟨a1, a2, a3, a4, a5, a6, a7, a8⟩ := h
  have f := r.2.2.1
  have g := r.2.2.2
  exact ⟨by rw [f 8 (by decide) (by decide)]; exact a1, by rw [g 35 (by decide)]; exact a2, by rw [f 3 (by decide) (by decide)]; exact a3, by rw [g 34 (by decide)]; exact a4, by rw [f 9 (by decide) (by decide)]; exact a5, by rw [f 10 (by decide) (by decide)]; exact a6, by rw [f 1 (by decide) (by decide)]; exact a7, by rw [f 11 (by decide) (by decide)]; exact a8⟩
def Ffs (μ0 μ : Memo) (N : Nat) (B : Nat → Nat) (key p : Nat) (P R : List Int32) (ok : Nat) (due : Int32) : Prop := TpC μ N B ∧ (∀ o, o ≠ 33 → o ≠ 34 → o ≠ 35 → μ o = μ0 o) ∧ μ 33 5 = nI (bg N B p) ∧ μ 33 6 = nI (en N B (bg N B p)) ∧ μ 33 0 = nI key ∧ Rst μ P R ok due ∧ Mok N B p P R due
theorem TpC.fr {μ μ1 : Memo} {N : Nat} {B : Nat → Nat} (h : TpC μ N B) (r : FrR μ μ1) : TpC μ1 N B := ⟨h.1, by rw [r.1 31 (by decide) (by decide) (by decide)]; exact h.2.1, fun j hj => by rw [r.1 32 (by decide) (by decide) (by decide)]; exact h.2.2 j hj⟩
theorem c_ff_fin {V : VV} {d : Nat} {μ0 μ : Memo} {N : Nat} {B : Nat → Nat} {key p : Nat} {P R : List Int32} {ok : Nat} {due : Int32} (h : Ffs μ0 μ N B key p P R ok due) : Go V (d + 2) mX4_findFault 90 [some (vR 33), none, none] [] μ (FfQ μ0 key (mfin N B p P R ok due)) := by
  obtain ⟨hT, hf, h5, h6, hk, hr, hm1, hm2, hm3, hm4, hm5⟩ := h
  have hN := hT.1
  rcases hm5 with ⟨rfl, ho⟩ | ⟨rfl, ho⟩
  · by_cases h0 : cntL (nI 40) P = 0
    · rw [mfin, if_pos ⟨rfl, h0⟩]
      refine Go.aload_n dX4_findFault_90 rfl ?_
      refine Go.getI dX4_findFault_91 flX4_45 rfl ?_
      refine Go.topE (y := nI 0) hr.2.2.2.2.2.2.2 ?_
      refine Go.if_ne_f (tgt := 104) dX4_findFault_94 (by decide) (by decide) ?_
      refine Go.aload_n dX4_findFault_97 rfl ?_
      refine Go.getI dX4_findFault_98 flX4_56 rfl ?_
      refine Go.topE (y := nI 0) (by rw [hr.2.2.2.2.1, h0]) ?_
      refine Go.if_le_t (tgt := 109) dX4_findFault_101 (by decide) (by decide) ?_
      refine Go.at 109 rfl ?_
      refine Go.aload_n dX4_findFault_109 rfl ?_
      refine Go.iconst (v := nI 1) dX4_findFault_110 rfl ?_
      refine Go.callVu 33 [vI (nI 1)] [] dX4_findFault_111 lkX4_59 (Or.inl ⟨_, _, _, rfl, rfl, rfl⟩) rfl (Nat.le_of_ble_eq_true rfl) rfl (Nat.le_of_ble_eq_true rfl) (c_putPending (r := 1) (by decide) (by decide) hr (by omega)) (fun μ1 k1 => ?_)
      refine Go.ldc dX4_findFault_114 cnX4_33 ?_
      refine Go.ireturn .int dX4_findFault_116 rfl rfl ?_
      exact ⟨fun o a1 a2 a3 => (k1.2.1 o a1 a2 a3).trans (hf o a1 a2 a3), rfl, k1.1.2.2.1, k1.1.2.2.2.1, k1.1.2.2.2.2.2.2.1, k1.2.2.1.trans hk⟩
    · rw [mfin, if_neg (fun z => h0 z.2)]
      refine Go.aload_n dX4_findFault_90 rfl ?_
      refine Go.getI dX4_findFault_91 flX4_45 rfl ?_
      refine Go.topE (y := nI 0) hr.2.2.2.2.2.2.2 ?_
      refine Go.if_ne_f (tgt := 104) dX4_findFault_94 (by decide) (by decide) ?_
      refine Go.aload_n dX4_findFault_97 rfl ?_
      refine Go.getI dX4_findFault_98 flX4_56 rfl ?_
      refine Go.topE (y := nI (cntL (nI 40) P)) hr.2.2.2.2.1 ?_
      refine Go.if_le_f (tgt := 109) dX4_findFault_101 (by decide) (by rw [sI_le, nT, Int32.toInt_zero]; omega) ?_
      refine Go.at 104 rfl ?_
      refine Go.aload_n dX4_findFault_104 rfl ?_
      refine Go.getI dX4_findFault_105 flX4_34 rfl ?_
      refine Go.topE (y := nI (bg N B p)) h5 ?_
      refine Go.ireturn .int dX4_findFault_108 rfl rfl ?_
      exact ⟨hf, rfl⟩
  · rw [mfin, if_neg (fun z => absurd z.1 (by decide))]
    refine Go.aload_n dX4_findFault_90 rfl ?_
    refine Go.getI dX4_findFault_91 flX4_45 rfl ?_
    refine Go.topE (y := nI 1) hr.2.2.2.2.2.2.2 ?_
    refine Go.if_ne_t (tgt := 104) dX4_findFault_94 (by decide) (by decide) ?_
    refine Go.aload_n dX4_findFault_104 rfl ?_
    refine Go.getI dX4_findFault_105 flX4_34 rfl ?_
    refine Go.topE (y := nI (bg N B p)) h5 ?_
    refine Go.ireturn .int dX4_findFault_108 rfl rfl ?_
    exact ⟨hf, rfl⟩
theorem c_ff_lp {V : VV} {d : Nat} {μ0 : Memo} {N : Nat} {B : Nat → Nat} {key : Nat} (hk3 : key < 3) :
    ∀ (j i p : Nat) (P R : List Int32) (ok : Nat) (due : Int32) (μ : Memo), i + j = 96 → Ffs μ0 μ N B key p P R ok due → Go V (d + 7) mX4_findFault 32 [some (vR 33), some (vI (nI i)), none] [] μ (FfQ μ0 key (mrun N B key j p P R ok due))
  | 0, i, p, P, R, ok, due, μ, hij, h => by
    obtain rfl : i = 96 := by omega
    rw [mrun]
    refine Go.iload_n dX4_findFault_32 rfl ?_
    refine Go.bipush (v := nI 96) dX4_findFault_33 rfl ?_
    refine Go.icmp_ge_t (tgt := 90) dX4_findFault_35 (by decide) (by decide) ?_
    refine Go.mask [true, false, false] rfl ?_
    exact c_ff_fin h
  | j + 1, i, p, P, R, ok, due, μ, hij, h => by
    have hi : i < 96 := by omega
    obtain ⟨hT, hf, h5, h6, hk, hr, hm⟩ := id h
    have hN := hT.1
    have hb := bg_le (N := N) (B := B) hm.1
    have g1 := bg_ge (N := N) (B := B) p
    have hl2 := hm.2.1
    rw [mrun]
    by_cases hbn : bg N B p < N
    · rw [if_pos hbn]
      have g3 := en_le (N := N) (B := B) hb
      rcases id hm.2.2.2.2 with ⟨hd, ho⟩ | ⟨hd, ho⟩
      · subst hd
        have hs := c_takeSign (V := V) (d := d + 3) hT hbn h5 hr (by omega) ho hm.2.2.1 hm.2.2.2.1
        have ec : cstep N B key p P R ok (nI 0) = signC B (bg N B p) P R ok := if_pos rfl
        cases hc : cstep N B key p P R ok (nI 0) with
        | none =>
          refine Go.iload_n dX4_findFault_32 rfl ?_
          refine Go.bipush (v := nI 96) dX4_findFault_33 rfl ?_
          refine Go.icmp_ge_f (tgt := 90) dX4_findFault_35 (by decide) (nI_ge hi (by decide)) ?_
          refine Go.aload_n dX4_findFault_38 rfl ?_
          refine Go.getI dX4_findFault_39 flX4_34 rfl ?_
          refine Go.topE (y := nI (bg N B p)) h5 ?_
          refine Go.aload_n dX4_findFault_42 rfl ?_
          refine Go.at 43 rfl ?_
          refine Go.getR dX4_findFault_43 flX4_18 rfl ?_
          refine Go.getI dX4_findFault_46 flX4_40 rfl ?_
          refine Go.topE (y := nI N) hT.2.1 ?_
          refine Go.icmp_ge_f (tgt := 90) dX4_findFault_49 (by decide) (nI_ge hbn (by omega)) ?_
          refine Go.aload_n dX4_findFault_52 rfl ?_
          refine Go.getI dX4_findFault_53 flX4_45 rfl ?_
          refine Go.topE (y := nI 0) hr.2.2.2.2.2.2.2 ?_
          refine Go.if_eq_t (tgt := 66) dX4_findFault_56 (by decide) (by decide) ?_
          refine Go.at 66 rfl ?_
          refine Go.aload_n dX4_findFault_66 rfl ?_
          refine Go.callVx 33 [] [] dX4_findFault_67 lkX4_53 (Or.inl ⟨_, _, _, rfl, rfl, rfl⟩) rfl (Nat.le_of_ble_eq_true rfl) rfl (Nat.le_of_ble_eq_true rfl) (hs.2 (ec.symm.trans hc)) (fun μ1 k1 => ?_)
          refine Go.istore_n (ls' := [some (vR 33), some (vI (nI i)), some (vI (nI 0))]) dX4_findFault_70 (by decide) rfl ?_
          refine Go.iload_n dX4_findFault_71 rfl ?_
          refine Go.if_ne_f (tgt := 80) dX4_findFault_72 (by decide) (by decide) ?_
          refine Go.aload_n dX4_findFault_75 rfl ?_
          refine Go.at 76 rfl ?_
          refine Go.getI dX4_findFault_76 flX4_34 rfl ?_
          refine Go.topE (y := nI (bg N B p)) (k1.2.2.1.trans h5) ?_
          refine Go.ireturn .int dX4_findFault_79 rfl rfl ?_
          exact ⟨fun o a1 a2 a3 => (k1.1 o a1 a2 a3).trans (hf o a1 a2 a3), rfl⟩
        | some q =>
          obtain ⟨P', R', ok', due'⟩ := q
          have hm2 := cstep_ok hm hbn hc
          refine Go.iload_n dX4_findFault_32 rfl ?_
          refine Go.bipush (v := nI 96) dX4_findFault_33 rfl ?_
          refine Go.icmp_ge_f (tgt := 90) dX4_findFault_35 (by decide) (nI_ge hi (by decide)) ?_
          refine Go.aload_n dX4_findFault_38 rfl ?_
          refine Go.getI dX4_findFault_39 flX4_34 rfl ?_
          refine Go.topE (y := nI (bg N B p)) h5 ?_
          refine Go.aload_n dX4_findFault_42 rfl ?_
          refine Go.at 43 rfl ?_
          refine Go.getR dX4_findFault_43 flX4_18 rfl ?_
          refine Go.getI dX4_findFault_46 flX4_40 rfl ?_
          refine Go.topE (y := nI N) hT.2.1 ?_
          refine Go.icmp_ge_f (tgt := 90) dX4_findFault_49 (by decide) (nI_ge hbn (by omega)) ?_
          refine Go.aload_n dX4_findFault_52 rfl ?_
          refine Go.getI dX4_findFault_53 flX4_45 rfl ?_
          refine Go.topE (y := nI 0) hr.2.2.2.2.2.2.2 ?_
          refine Go.if_eq_t (tgt := 66) dX4_findFault_56 (by decide) (by decide) ?_
          refine Go.at 66 rfl ?_
          refine Go.aload_n dX4_findFault_66 rfl ?_
          refine Go.callVx 33 [] [] dX4_findFault_67 lkX4_53 (Or.inl ⟨_, _, _, rfl, rfl, rfl⟩) rfl (Nat.le_of_ble_eq_true rfl) rfl (Nat.le_of_ble_eq_true rfl) (hs.1 P' R' ok' due' (ec.symm.trans hc)) (fun μ1 k1 => ?_)
          refine Go.istore_n (ls' := [some (vR 33), some (vI (nI i)), some (vI (nI 1))]) dX4_findFault_70 (by decide) rfl ?_
          refine Go.iload_n dX4_findFault_71 rfl ?_
          refine Go.if_ne_t (tgt := 80) dX4_findFault_72 (by decide) (by decide) ?_
          refine Go.aload_n dX4_findFault_80 rfl ?_
          refine Go.at 81 rfl ?_
          refine Go.callVu 33 [] [] dX4_findFault_81 lkX4_37 (Or.inl ⟨_, _, _, rfl, rfl, rfl⟩) rfl (Nat.le_of_ble_eq_true rfl) rfl (Nat.le_of_ble_eq_true rfl) (c_goOn (hT.fr k1.2) g3 (k1.2.2.2.2.trans h6)) (fun μ2 k2 => ?_)
          refine Go.iinc (v := nI (i + 1)) (ls' := [some (vR 33), some (vI (nI (i + 1))), some (vI (nI 1))]) dX4_findFault_84 rfl (nI_add _ _) (by decide) rfl ?_
          refine Go.goto (tgt := 32) dX4_findFault_87 (by decide) ?_
          refine Go.mask [true, true, false] rfl ?_
          exact c_ff_lp hk3 j (i + 1) _ P' R' ok' due' _ (by omega) ⟨(hT.fr k1.2).rd k2, fun o a1 a2 a3 => ((k2.2.2.2 o a1).trans (k1.2.1 o a1 a2 a3)).trans (hf o a1 a2 a3), k2.1, k2.2.1, (k2.2.2.1 0 (by decide) (by decide)).trans (k1.2.2.1.trans hk), k1.1.rd k2, hm2⟩
      · subst hd
        have hs := c_takePiece (V := V) (d := d) hT hbn h5 h6 hk hk3 hr (by omega) hm.2.2.1 hm.2.2.2.1
        have ec : cstep N B key p P R ok (nI 1) = pieceC N B key (bg N B p) P R ok := if_neg (by decide)
        cases hc : cstep N B key p P R ok (nI 1) with
        | none =>
          refine Go.iload_n dX4_findFault_32 rfl ?_
          refine Go.bipush (v := nI 96) dX4_findFault_33 rfl ?_
          refine Go.icmp_ge_f (tgt := 90) dX4_findFault_35 (by decide) (nI_ge hi (by decide)) ?_
          refine Go.aload_n dX4_findFault_38 rfl ?_
          refine Go.getI dX4_findFault_39 flX4_34 rfl ?_
          refine Go.topE (y := nI (bg N B p)) h5 ?_
          refine Go.aload_n dX4_findFault_42 rfl ?_
          refine Go.at 43 rfl ?_
          refine Go.getR dX4_findFault_43 flX4_18 rfl ?_
          refine Go.getI dX4_findFault_46 flX4_40 rfl ?_
          refine Go.topE (y := nI N) hT.2.1 ?_
          refine Go.icmp_ge_f (tgt := 90) dX4_findFault_49 (by decide) (nI_ge hbn (by omega)) ?_
          refine Go.aload_n dX4_findFault_52 rfl ?_
          refine Go.getI dX4_findFault_53 flX4_45 rfl ?_
          refine Go.topE (y := nI 1) hr.2.2.2.2.2.2.2 ?_
          refine Go.if_eq_f (tgt := 66) dX4_findFault_56 (by decide) (by decide) ?_
          refine Go.at 59 rfl ?_
          refine Go.aload_n dX4_findFault_59 rfl ?_
          refine Go.callVx 33 [] [] dX4_findFault_60 lkX4_49 (Or.inl ⟨_, _, _, rfl, rfl, rfl⟩) rfl (Nat.le_of_ble_eq_true rfl) rfl (Nat.le_of_ble_eq_true rfl) (hs.2 (ec.symm.trans hc)) (fun μ1 k1 => ?_)
          refine Go.goto (tgt := 70) dX4_findFault_63 (by decide) ?_
          refine Go.istore_n (ls' := [some (vR 33), some (vI (nI i)), some (vI (nI 0))]) dX4_findFault_70 (by decide) rfl ?_
          refine Go.iload_n dX4_findFault_71 rfl ?_
          refine Go.if_ne_f (tgt := 80) dX4_findFault_72 (by decide) (by decide) ?_
          refine Go.at 75 rfl ?_
          refine Go.aload_n dX4_findFault_75 rfl ?_
          refine Go.getI dX4_findFault_76 flX4_34 rfl ?_
          refine Go.topE (y := nI (bg N B p)) (k1.2.2.1.trans h5) ?_
          refine Go.ireturn .int dX4_findFault_79 rfl rfl ?_
          exact ⟨fun o a1 a2 a3 => (k1.1 o a1 a2 a3).trans (hf o a1 a2 a3), rfl⟩
        | some q =>
          obtain ⟨P', R', ok', due'⟩ := q
          have hm2 := cstep_ok hm hbn hc
          refine Go.iload_n dX4_findFault_32 rfl ?_
          refine Go.bipush (v := nI 96) dX4_findFault_33 rfl ?_
          refine Go.icmp_ge_f (tgt := 90) dX4_findFault_35 (by decide) (nI_ge hi (by decide)) ?_
          refine Go.aload_n dX4_findFault_38 rfl ?_
          refine Go.getI dX4_findFault_39 flX4_34 rfl ?_
          refine Go.topE (y := nI (bg N B p)) h5 ?_
          refine Go.aload_n dX4_findFault_42 rfl ?_
          refine Go.at 43 rfl ?_
          refine Go.getR dX4_findFault_43 flX4_18 rfl ?_
          refine Go.getI dX4_findFault_46 flX4_40 rfl ?_
          refine Go.topE (y := nI N) hT.2.1 ?_
          refine Go.icmp_ge_f (tgt := 90) dX4_findFault_49 (by decide) (nI_ge hbn (by omega)) ?_
          refine Go.aload_n dX4_findFault_52 rfl ?_
          refine Go.getI dX4_findFault_53 flX4_45 rfl ?_
          refine Go.topE (y := nI 1) hr.2.2.2.2.2.2.2 ?_
          refine Go.if_eq_f (tgt := 66) dX4_findFault_56 (by decide) (by decide) ?_
          refine Go.at 59 rfl ?_
          refine Go.aload_n dX4_findFault_59 rfl ?_
          refine Go.callVx 33 [] [] dX4_findFault_60 lkX4_49 (Or.inl ⟨_, _, _, rfl, rfl, rfl⟩) rfl (Nat.le_of_ble_eq_true rfl) rfl (Nat.le_of_ble_eq_true rfl) (hs.1 P' R' ok' due' (ec.symm.trans hc)) (fun μ1 k1 => ?_)
          refine Go.goto (tgt := 70) dX4_findFault_63 (by decide) ?_
          refine Go.istore_n (ls' := [some (vR 33), some (vI (nI i)), some (vI (nI 1))]) dX4_findFault_70 (by decide) rfl ?_
          refine Go.iload_n dX4_findFault_71 rfl ?_
          refine Go.if_ne_t (tgt := 80) dX4_findFault_72 (by decide) (by decide) ?_
          refine Go.at 80 rfl ?_
          refine Go.aload_n dX4_findFault_80 rfl ?_
          refine Go.callVu 33 [] [] dX4_findFault_81 lkX4_37 (Or.inl ⟨_, _, _, rfl, rfl, rfl⟩) rfl (Nat.le_of_ble_eq_true rfl) rfl (Nat.le_of_ble_eq_true rfl) (c_goOn (hT.fr k1.2) g3 (k1.2.2.2.2.trans h6)) (fun μ2 k2 => ?_)
          refine Go.iinc (v := nI (i + 1)) (ls' := [some (vR 33), some (vI (nI (i + 1))), some (vI (nI 1))]) dX4_findFault_84 rfl (nI_add _ _) (by decide) rfl ?_
          refine Go.goto (tgt := 32) dX4_findFault_87 (by decide) ?_
          refine Go.mask [true, true, false] rfl ?_
          exact c_ff_lp hk3 j (i + 1) _ P' R' ok' due' _ (by omega) ⟨(hT.fr k1.2).rd k2, fun o a1 a2 a3 => ((k2.2.2.2 o a1).trans (k1.2.1 o a1 a2 a3)).trans (hf o a1 a2 a3), k2.1, k2.2.1, (k2.2.2.1 0 (by decide) (by decide)).trans (k1.2.2.1.trans hk), k1.1.rd k2, hm2⟩
    · rw [if_neg hbn]
      refine Go.iload_n dX4_findFault_32 rfl ?_
      refine Go.bipush (v := nI 96) dX4_findFault_33 rfl ?_
      refine Go.icmp_ge_f (tgt := 90) dX4_findFault_35 (by decide) (nI_ge hi (by decide)) ?_
      refine Go.aload_n dX4_findFault_38 rfl ?_
      refine Go.getI dX4_findFault_39 flX4_34 rfl ?_
      refine Go.topE (y := nI (bg N B p)) h5 ?_
      refine Go.aload_n dX4_findFault_42 rfl ?_
      refine Go.at 43 rfl ?_
      refine Go.getR dX4_findFault_43 flX4_18 rfl ?_
      refine Go.getI dX4_findFault_46 flX4_40 rfl ?_
      refine Go.topE (y := nI N) hT.2.1 ?_
      refine Go.icmp_ge_t (tgt := 90) dX4_findFault_49 (by decide) (by rw [sI_le, nT, nT]; omega) ?_
      refine Go.mask [true, false, false] rfl ?_
      exact c_ff_fin h
set_option maxHeartbeats 2000000 in
theorem c_begin {V : VV} {d : Nat} {μ : Memo} {N : Nat} {B : Nat → Nat} (hT : TpC μ N B) : RetU V (d + 2) mX4_begin [vR 33] μ (fun μ1 => TpC μ1 N B ∧ (∀ o, o ≠ 33 → o ≠ 34 → o ≠ 35 → μ1 o = μ o) ∧ μ1 33 5 = nI (bg N B 0) ∧ μ1 33 6 = nI (en N B (bg N B 0)) ∧ Rst μ1 [] [] 0 (nI 1)) := by
  show Go V (d + 2) mX4_begin 0 [some (vR 33)] [] μ _
  refine Go.aload_n dX4_begin_0 rfl ?_
  refine Go.iconst (v := nI 0) dX4_begin_1 rfl ?_
  refine Go.put dX4_begin_2 flX4_63 rfl rfl rfl rfl ?_
  refine Go.aload_n dX4_begin_5 rfl ?_
  refine Go.iconst (v := nI 0) dX4_begin_6 rfl ?_
  refine Go.put dX4_begin_7 flX4_66 rfl rfl rfl rfl ?_
  refine Go.at 10 rfl ?_
  refine Go.aload_n dX4_begin_10 rfl ?_
  refine Go.iconst (v := nI 0) dX4_begin_11 rfl ?_
  refine Go.put dX4_begin_12 flX4_69 rfl rfl rfl rfl ?_
  refine Go.aload_n dX4_begin_15 rfl ?_
  refine Go.iconst (v := nI 0) dX4_begin_16 rfl ?_
  refine Go.put dX4_begin_17 flX4_56 rfl rfl rfl rfl ?_
  refine Go.at 20 rfl ?_
  refine Go.aload_n dX4_begin_20 rfl ?_
  refine Go.iconst (v := nI 0) dX4_begin_21 rfl ?_
  refine Go.put dX4_begin_22 flX4_72 rfl rfl rfl rfl ?_
  refine Go.aload_n dX4_begin_25 rfl ?_
  refine Go.iconst (v := nI 1) dX4_begin_26 rfl ?_
  refine Go.put dX4_begin_27 flX4_45 rfl rfl rfl rfl ?_
  refine Go.at 30 rfl ?_
  refine Go.aload_n dX4_begin_30 rfl ?_
  refine Go.iconst (v := nI 0) dX4_begin_31 rfl ?_
  refine Go.put dX4_begin_32 flX4_75 rfl rfl rfl rfl ?_
  refine Go.aload_n dX4_begin_35 rfl ?_
  refine Go.callVu 33 [] [] dX4_begin_36 lkX4_37 (Or.inl ⟨_, _, _, rfl, rfl, rfl⟩) rfl (Nat.le_of_ble_eq_true rfl) rfl (Nat.le_of_ble_eq_true rfl) (c_goOn (N := N) (B := B) (p := 0) ⟨hT.1, by simp (disch := omega) only [ms_self, ms_ne, upd_self, upd_ne]; exact hT.2.1, fun j hj => by simp (disch := omega) only [ms_self, ms_ne, upd_self, upd_ne]; exact hT.2.2 j hj⟩ (by omega) (by simp (disch := omega) only [ms_self, ms_ne, upd_self, upd_ne])) (fun μ1 k1 => ?_)
  refine Go.vreturn dX4_begin_39 rfl ?_
  have r0 : TpC μ1 N B := ⟨hT.1, by rw [k1.2.2.2 31 (by decide)]; simp (disch := omega) only [ms_self, ms_ne, upd_self, upd_ne]; exact hT.2.1, fun j hj => by rw [k1.2.2.2 32 (by decide)]; simp (disch := omega) only [ms_self, ms_ne, upd_self, upd_ne]; exact hT.2.2 j hj⟩
  refine ⟨rfl, r0, fun o a1 a2 a3 => by rw [k1.2.2.2 o a1]; simp (disch := omega) only [ms_self, ms_ne, upd_self, upd_ne], k1.1, k1.2.1, ?_⟩
  have f := k1.2.2.1
  exact ⟨by rw [f 8 (by decide) (by decide)]; simp (disch := omega) only [ms_self, ms_ne, upd_self, upd_ne]; rfl, trivial, by rw [f 3 (by decide) (by decide)]; simp (disch := omega) only [ms_self, ms_ne, upd_self, upd_ne]; rfl, trivial, by rw [f 9 (by decide) (by decide)]; simp (disch := omega) only [ms_self, ms_ne, upd_self, upd_ne]; rfl, by rw [f 10 (by decide) (by decide)]; simp (disch := omega) only [ms_self, ms_ne, upd_self, upd_ne]; rfl, by rw [f 1 (by decide) (by decide)]; simp (disch := omega) only [ms_self, ms_ne, upd_self, upd_ne], by rw [f 11 (by decide) (by decide)]; simp (disch := omega) only [ms_self, ms_ne, upd_self, upd_ne]⟩
theorem keyW_lt {B : Nat → Nat} {b e k : Nat} (h : keyW B b e = some k) : k < 3 := by
  unfold keyW at h
  revert h; (repeat' split) <;> intro h <;> first | (injection h with h; omega) | contradiction
def ffAll (N : Nat) (B : Nat → Nat) : Nat ⊕ (List Int32 × Nat) := match keyW B (bg N B 0) (en N B (bg N B 0)) with
  | none => .inl (bg N B 0)
  | some key => mrun N B key 96 (en N B (bg N B 0)) [] [] 0 (nI 1)
def ffKey (N : Nat) (B : Nat → Nat) : Nat := (keyW B (bg N B 0) (en N B (bg N B 0))).getD 0
theorem c_findFault {V : VV} {d : Nat} {μ : Memo} {N : Nat} {B : Nat → Nat} (hT : TpC μ N B) : Go V (d + 7) mX4_findFault 0 (entF mX4_findFault [vR 33]) [] μ (FfQ μ (ffKey N B) (ffAll N B)) := by
  show Go V (d + 7) mX4_findFault 0 [some (vR 33), none, none] [] μ _
  have hN := hT.1
  have hb := bg_le (N := N) (B := B) (p := 0) (by omega)
  have he := en_le (N := N) (B := B) hb
  have hbe : bg N B 0 ≤ en N B (bg N B 0) := by
    by_cases z : bg N B 0 < N
    · exact Nat.le_of_lt (en_gt z)
    · rw [en_N (by omega)]; exact Nat.le_refl _
  unfold ffAll ffKey
  cases hk : keyW B (bg N B 0) (en N B (bg N B 0)) with
  | none =>
    refine Go.aload_n dX4_findFault_0 rfl ?_
    refine Go.callVu 33 [] [] dX4_findFault_1 lkX4_22 (Or.inl ⟨_, _, _, rfl, rfl, rfl⟩) rfl (Nat.le_of_ble_eq_true rfl) rfl (Nat.le_of_ble_eq_true rfl) (c_begin hT) (fun μ1 k1 => ?_)
    refine Go.aload_n dX4_findFault_4 rfl ?_
    refine Go.aload_n dX4_findFault_5 rfl ?_
    refine Go.callVi 33 [] [vR 33] dX4_findFault_6 lkX4_25 (Or.inl ⟨_, _, _, rfl, rfl, rfl⟩) rfl (Nat.le_of_ble_eq_true rfl) rfl (Nat.le_of_ble_eq_true rfl) (c_keyHere k1.1 hbe he k1.2.2.1 k1.2.2.2.1) ?_
    refine Go.topE (y := (-1000000005)) (by rw [hk]; decide) ?_
    refine Go.put dX4_findFault_9 flX4_29 rfl rfl rfl rfl ?_
    refine Go.at 12 rfl ?_
    refine Go.aload_n dX4_findFault_12 rfl ?_
    refine Go.getI dX4_findFault_13 flX4_29 rfl ?_
    refine Go.topE (y := (-1000000005)) (by simp (disch := omega) only [ms_self, ms_ne, upd_self, upd_ne]) ?_
    refine Go.ldc dX4_findFault_16 cnX4_33 ?_
    refine Go.icmp_ne_f (tgt := 26) dX4_findFault_18 (by decide) (by decide) ?_
    refine Go.aload_n dX4_findFault_21 rfl ?_
    refine Go.getI dX4_findFault_22 flX4_34 rfl ?_
    refine Go.topE (y := nI (bg N B 0)) (by simp (disch := omega) only [ms_self, ms_ne, upd_self, upd_ne]; exact k1.2.2.1) ?_
    refine Go.at 25 rfl ?_
    refine Go.ireturn .int dX4_findFault_25 rfl rfl ?_
    exact ⟨fun o a1 a2 a3 => by rw [ms_ne _ _ _ a1]; exact k1.2.1 o a1 a2 a3, rfl⟩
  | some key =>
    have hk3 := keyW_lt hk
    refine Go.aload_n dX4_findFault_0 rfl ?_
    refine Go.callVu 33 [] [] dX4_findFault_1 lkX4_22 (Or.inl ⟨_, _, _, rfl, rfl, rfl⟩) rfl (Nat.le_of_ble_eq_true rfl) rfl (Nat.le_of_ble_eq_true rfl) (c_begin hT) (fun μ1 k1 => ?_)
    refine Go.aload_n dX4_findFault_4 rfl ?_
    refine Go.aload_n dX4_findFault_5 rfl ?_
    refine Go.callVi 33 [] [vR 33] dX4_findFault_6 lkX4_25 (Or.inl ⟨_, _, _, rfl, rfl, rfl⟩) rfl (Nat.le_of_ble_eq_true rfl) rfl (Nat.le_of_ble_eq_true rfl) (c_keyHere k1.1 hbe he k1.2.2.1 k1.2.2.2.1) ?_
    refine Go.topE (y := nI key) (by rw [hk]; exact oNo_s (by omega)) ?_
    refine Go.put dX4_findFault_9 flX4_29 rfl rfl rfl rfl ?_
    refine Go.at 12 rfl ?_
    refine Go.aload_n dX4_findFault_12 rfl ?_
    refine Go.getI dX4_findFault_13 flX4_29 rfl ?_
    refine Go.topE (y := nI key) (by simp (disch := omega) only [ms_self, ms_ne, upd_self, upd_ne]) ?_
    refine Go.ldc dX4_findFault_16 cnX4_33 ?_
    refine Go.icmp_ne_t (tgt := 26) dX4_findFault_18 (by decide) (nI_NONE (by omega)) ?_
    refine Go.aload_n dX4_findFault_26 rfl ?_
    refine Go.callVu 33 [] [] dX4_findFault_27 lkX4_37 (Or.inl ⟨_, _, _, rfl, rfl, rfl⟩) rfl (Nat.le_of_ble_eq_true rfl) rfl (Nat.le_of_ble_eq_true rfl) (c_goOn (N := N) (B := B) (p := en N B (bg N B 0)) ⟨hT.1, by simp (disch := omega) only [ms_self, ms_ne, upd_self, upd_ne]; exact k1.1.2.1, fun j hj => by simp (disch := omega) only [ms_self, ms_ne, upd_self, upd_ne]; exact k1.1.2.2 j hj⟩ he (by simp (disch := omega) only [ms_self, ms_ne, upd_self, upd_ne]; exact k1.2.2.2.1)) (fun μ2 k2 => ?_)
    refine Go.at 30 rfl ?_
    refine Go.iconst (v := nI 0) dX4_findFault_30 rfl ?_
    refine Go.istore_n (ls' := [some (vR 33), some (vI (nI 0)), none]) dX4_findFault_31 (by decide) rfl ?_
    exact c_ff_lp (μ0 := μ) hk3 96 0 _ [] [] 0 (nI 1) _ (by omega) ⟨⟨hT.1, by rw [k2.2.2.2 31 (by decide)]; simp (disch := omega) only [ms_self, ms_ne, upd_self, upd_ne]; exact k1.1.2.1, fun j hj => by rw [k2.2.2.2 32 (by decide)]; simp (disch := omega) only [ms_self, ms_ne, upd_self, upd_ne]; exact k1.1.2.2 j hj⟩, fun o a1 a2 a3 => by rw [k2.2.2.2 o a1, ms_ne _ _ _ a1]; exact k1.2.1 o a1 a2 a3, k2.1, k2.2.1, by rw [k2.2.2.1 0 (by decide) (by decide)]; simp (disch := omega) only [ms_self, ms_ne, upd_self, upd_ne], Rst.rd (μ := ms μ1 33 0 (nI key)) ⟨by simp (disch := omega) only [ms_self, ms_ne, upd_self, upd_ne]; exact k1.2.2.2.2.1, trivial, by simp (disch := omega) only [ms_self, ms_ne, upd_self, upd_ne]; exact k1.2.2.2.2.2.2.1, trivial, by simp (disch := omega) only [ms_self, ms_ne, upd_self, upd_ne]; exact k1.2.2.2.2.2.2.2.2.1, by simp (disch := omega) only [ms_self, ms_ne, upd_self, upd_ne]; exact k1.2.2.2.2.2.2.2.2.2.1, by simp (disch := omega) only [ms_self, ms_ne, upd_self, upd_ne]; exact k1.2.2.2.2.2.2.2.2.2.2.1, by simp (disch := omega) only [ms_self, ms_ne, upd_self, upd_ne]; exact k1.2.2.2.2.2.2.2.2.2.2.2⟩ k2, ⟨he, Nat.zero_le _, Nat.zero_le _, Nat.zero_le _, Or.inr ⟨rfl, trivial⟩⟩⟩
