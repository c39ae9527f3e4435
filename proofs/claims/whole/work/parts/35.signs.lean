def signC (B : Nat → Nat) (b : Nat) (P R : List Int32) (ok : Nat) : Option (List Int32 × List Int32 × Nat × Int32) :=
  if B b = 41 then (if cntL (nI 40) P = 0 then none else some ((endP (putP 1 P R).1.tail (putP 1 P R).2).1, (endP (putP 1 P R).1.tail (putP 1 P R).2).2, ok, nI 0))
  else if rankI (nI (B b)) = 0 then none
  else if rankI (nI (B b)) = 3 then (if rankI (topS (putP 4 P R).1) = 3 then none else some (nI (B b) :: (putP 4 P R).1, (putP 4 P R).2, ok, nI 1))
  else some (nI (B b) :: (putP (rankI (nI (B b))) P R).1, (putP (rankI (nI (B b))) P R).2, ok, nI 1)
/-- the pending signs as they come: f where a piece is due -/
def okF : Bool → List Int32 → Prop
  | _, [] => True
  | f, c :: P => if c = nI 40 then okF true P else if c = nI 33 then (f = true ∧ okF true P) else (1 ≤ rankI c ∧ okF false P)
theorem okF.up : ∀ {P : List Int32}, okF false P → okF true P
  | [], _ => trivial
  | c :: P, h => by
    rw [okF] at h ⊢
    split
    · rename_i e; rw [if_pos e] at h; exact h
    · rename_i e; rw [if_neg e] at h
      split
      · rename_i e2; rw [if_pos e2] at h; exact absurd h.1 (by decide)
      · rename_i e2; rw [if_neg e2] at h; exact h
theorem okF.end : ∀ {P : List Int32} (R : List Int32), okF true P → okF false (endP P R).1
  | [], _, _ => trivial
  | c :: P, R, h => by
    rw [endP]
    split
    · rename_i e
      rw [okF, if_neg (by rw [e]; decide), if_pos e] at h
      exact okF.end _ h.2
    · rename_i e
      rw [okF] at h ⊢
      split
      · rename_i e2; rw [if_pos e2] at h; exact h
      · rename_i e2; rw [if_neg e2, if_neg e] at h; first | exact h | (rw [if_neg e]; exact h)
theorem okF.put {r : Nat} (hr : 1 ≤ r) : ∀ {P : List Int32} (R : List Int32), okF false P → okF false (putP r P R).1
  | [], _, _ => trivial
  | c :: P, R, h => by
    rw [putP]
    split
    · rename_i e
      rw [okF, if_neg (fun z => by rw [z, rank40] at e; omega), if_neg (fun z => by rw [z, rank33] at e; omega)] at h
      exact okF.put hr _ h.2
    · exact h
theorem okF.br : ∀ {P : List Int32} (R : List Int32), okF false P → cntL (nI 40) P ≠ 0 → ∃ P2, (putP 1 P R).1 = nI 40 :: P2 ∧ okF true P2
  | [], _, _, h => absurd rfl h
  | c :: P, R, h, h0 => by
    rw [putP]
    by_cases e : c = nI 40
    · subst e
      rw [if_neg (by rw [rank40]; decide)]
      rw [okF, if_pos rfl] at h
      exact ⟨P, rfl, h⟩
    · rw [okF, if_neg e] at h
      by_cases e3 : c = nI 33
      · rw [if_pos e3] at h; exact absurd h.1 (by decide)
      · rw [if_neg e3] at h
        rw [if_pos h.1]
        rw [cntL, if_neg e] at h0
        exact okF.br _ h.2 h0
theorem Rst.pop40 {μ : Memo} {P R : List Int32} {ok : Nat} {due : Int32} (h : Rst μ (nI 40 :: P) R ok due) : Rst (ms (ms μ 33 8 (nI P.length)) 33 9 (nI (cntL (nI 40) P))) P R ok due := by
  obtain ⟨a1, a2, a3, a4, a5, a6, a7, a8⟩ := h
  rw [cntL, if_neg (by decide)] at a6
  exact ⟨by simp (disch := omega) only [ms_self, ms_ne, upd_self, upd_ne], by simp (disch := omega) only [ms_self, ms_ne, upd_self, upd_ne]; exact a2.2, by simp (disch := omega) only [ms_self, ms_ne, upd_self, upd_ne]; exact a3, by simp (disch := omega) only [ms_self, ms_ne, upd_self, upd_ne]; exact a4, by simp (disch := omega) only [ms_self, ms_ne, upd_self, upd_ne], by simp (disch := omega) only [ms_self, ms_ne, upd_self, upd_ne]; exact a6, by simp (disch := omega) only [ms_self, ms_ne, upd_self, upd_ne]; exact a7, by simp (disch := omega) only [ms_self, ms_ne, upd_self, upd_ne]; exact a8⟩
theorem c_close_0 {V : VV} {d : Nat} {μ : Memo} (h9 : μ 33 9 = nI 0) : RetI V (d + 2) mX4_closeBracket [vR 33] μ (nI 0) (fun μ1 => FrR μ μ1) := by
  show Go V (d + 2) mX4_closeBracket 0 [some (vR 33)] [] μ _
  refine Go.aload_n dX4_closeBracket_0 rfl ?_
  refine Go.getI dX4_closeBracket_1 flX4_56 rfl ?_
  refine Go.topE (y := nI 0) h9 ?_
  refine Go.if_ne_f (tgt := 9) dX4_closeBracket_4 (by decide) (by decide) ?_
  refine Go.iconst (v := nI 0) dX4_closeBracket_7 rfl ?_
  refine Go.ireturn .boolean dX4_closeBracket_8 rfl rfl ?_
  exact ⟨rfl, FrR.rf _⟩
theorem c_close_1 {V : VV} {d : Nat} {μ : Memo} {P R : List Int32} {ok : Nat} (h : Rst μ P R ok (nI 0)) (hl : P.length + R.length < 96) (hok : okF false P) (h48 : cntL (nI 40) P ≤ 8) (h38 : cntL (nI 33) P ≤ 8) (h0 : cntL (nI 40) P ≠ 0) : RetI V (d + 2) mX4_closeBracket [vR 33] μ (nI 1) (fun μ1 => Rst μ1 (endP (putP 1 P R).1.tail (putP 1 P R).2).1 (endP (putP 1 P R).1.tail (putP 1 P R).2).2 ok (nI 0) ∧ FrR μ μ1) := by
  show Go V (d + 2) mX4_closeBracket 0 [some (vR 33)] [] μ _
  obtain ⟨P2, e2, hok2⟩ := okF.br R hok h0
  have hlen := putP_len 1 P R
  have c4 := putP_cnt (r := 1) (by decide) rank40 P R
  have c3 := putP_cnt (r := 1) (by decide) rank33 P R
  rw [e2] at hlen c4 c3
  rw [cntL, if_pos rfl] at c4
  rw [cntL, if_neg (by decide)] at c3
  rw [e2]
  simp only [List.length_cons] at hlen
  show Go V (d + 2) mX4_closeBracket 0 [some (vR 33)] [] μ (fun r μ1 => r = some (vI (nI 1)) ∧ (Rst μ1 (endP P2 (putP 1 P R).2).1 (endP P2 (putP 1 P R).2).2 ok (nI 0) ∧ FrR μ μ1))
  refine Go.aload_n dX4_closeBracket_0 rfl ?_
  refine Go.getI dX4_closeBracket_1 flX4_56 rfl ?_
  refine Go.topE (y := nI (cntL (nI 40) P)) h.2.2.2.2.1 ?_
  refine Go.if_ne_t (tgt := 9) dX4_closeBracket_4 (by decide) (by rw [sI_eq, nT, Int32.toInt_zero]; omega) ?_
  refine Go.aload_n dX4_closeBracket_9 rfl ?_
  refine Go.iconst (v := nI 1) dX4_closeBracket_10 rfl ?_
  refine Go.callVu 33 [vI (nI 1)] [] dX4_closeBracket_11 lkX4_59 (Or.inl ⟨_, _, _, rfl, rfl, rfl⟩) rfl (Nat.le_of_ble_eq_true rfl) rfl (Nat.le_of_ble_eq_true rfl) (c_putPending (r := 1) (by decide) (by decide) h (by omega)) (fun μ1 k1 => ?_)
  have k2 : Rst μ1 (nI 40 :: P2) (putP 1 P R).2 ok (nI 0) := by have := k1.1; rw [e2] at this; exact this
  refine Go.at 14 rfl ?_
  refine Go.aload_n dX4_closeBracket_14 rfl ?_
  refine Go.dupR dX4_closeBracket_15 ?_
  refine Go.getI dX4_closeBracket_16 flX4_69 rfl ?_
  refine Go.topE (y := nI (P2.length + 1)) k2.1 ?_
  refine Go.iconst (v := nI 1) dX4_closeBracket_19 rfl ?_
  refine Go.isubN dX4_closeBracket_20 (by omega) ?_
  refine Go.topE (y := nI P2.length) rfl ?_
  refine Go.put dX4_closeBracket_21 flX4_69 rfl rfl rfl rfl ?_
  refine Go.at 24 rfl ?_
  refine Go.aload_n dX4_closeBracket_24 rfl ?_
  refine Go.dupR dX4_closeBracket_25 ?_
  refine Go.getI dX4_closeBracket_26 flX4_56 rfl ?_
  refine Go.topE (y := nI (cntL (nI 40) P2 + 1)) (by simp (disch := omega) only [ms_self, ms_ne, upd_self, upd_ne]; rw [k2.2.2.2.2.1, cntL, if_pos rfl]) ?_
  refine Go.iconst (v := nI 1) dX4_closeBracket_29 rfl ?_
  refine Go.isubN dX4_closeBracket_30 (by omega) ?_
  refine Go.topE (y := nI (cntL (nI 40) P2)) rfl ?_
  refine Go.put dX4_closeBracket_31 flX4_56 rfl rfl rfl rfl ?_
  refine Go.at 34 rfl ?_
  refine Go.aload_n dX4_closeBracket_34 rfl ?_
  refine Go.callVu 33 [] [] dX4_closeBracket_35 lkX4_112 (Or.inl ⟨_, _, _, rfl, rfl, rfl⟩) rfl (Nat.le_of_ble_eq_true rfl) rfl (Nat.le_of_ble_eq_true rfl) (c_endPiece k2.pop40 (by omega) (by omega)) (fun μ2 k2_ => ?_)
  refine Go.iconst (v := nI 1) dX4_closeBracket_38 rfl ?_
  refine Go.ireturn .boolean dX4_closeBracket_39 rfl rfl ?_
  exact ⟨rfl, k2_.1, ((k1.2.f _ (by decide) (by decide) (by decide)).f _ (by decide) (by decide) (by decide)).tr k2_.2⟩
theorem c_takeSign {V : VV} {d : Nat} {μ : Memo} {N : Nat} {B : Nat → Nat} (hT : TpC μ N B) {b : Nat} (hb : b < N) (h5 : μ 33 5 = nI b) {P R : List Int32} {ok : Nat} (h : Rst μ P R ok (nI 0)) (hl : P.length + R.length < 96) (hok : okF false P) (h48 : cntL (nI 40) P ≤ 8) (h38 : cntL (nI 33) P ≤ 8) :
    (∀ P' R' ok' due', signC B b P R ok = some (P', R', ok', due') → RetI V (d + 3) mX4_takeSign [vR 33] μ (nI 1) (fun μ1 => Rst μ1 P' R' ok' due' ∧ FrR μ μ1)) ∧
    (signC B b P R ok = none → RetI V (d + 3) mX4_takeSign [vR 33] μ (nI 0) (fun μ1 => FrR μ μ1)) := by
  have hN := hT.1
  have hB := (hT.2.2 b hb).2
  unfold signC
  by_cases e41 : B b = 41
  · rw [if_pos e41]
    by_cases h0 : cntL (nI 40) P = 0
    · rw [if_pos h0]
      refine ⟨fun P' R' ok' due' e => (by contradiction), fun e => ?_⟩
      have g9 : μ 33 9 = nI 0 := by rw [h.2.2.2.2.1, h0]
      show Go V (d + 3) mX4_takeSign 0 [some (vR 33), none, none] [] μ _
      refine Go.aload_n dX4_takeSign_0 rfl ?_
      refine Go.getR dX4_takeSign_1 flX4_18 rfl ?_
      refine Go.aload_n dX4_takeSign_4 rfl ?_
      refine Go.getI dX4_takeSign_5 flX4_34 rfl ?_
      refine Go.topE (y := nI b) h5 ?_
      refine Go.callVi 31 [vI (nI b)] [] dX4_takeSign_8 lkX4_96 (Or.inl ⟨_, _, _, rfl, rfl, rfl⟩) rfl (Nat.le_of_ble_eq_true rfl) rfl (Nat.le_of_ble_eq_true rfl) (c_byteAt hT b (by omega)) ?_
      refine Go.topE (y := nI 41) (by rw [e41]) ?_
      refine Go.istore_n (ls' := [some (vR 33), some (vI (nI 41)), none]) dX4_takeSign_11 (by decide) rfl ?_
      refine Go.at 12 rfl ?_
      refine Go.iload_n dX4_takeSign_12 rfl ?_
      refine Go.bipush (v := nI 41) dX4_takeSign_13 rfl ?_
      refine Go.icmp_ne_f (tgt := 23) dX4_takeSign_15 (by decide) (by decide) ?_
      refine Go.aload_n dX4_takeSign_18 rfl ?_
      refine Go.callVx 33 [] [] dX4_takeSign_19 lkX4_140 (Or.inl ⟨_, _, _, rfl, rfl, rfl⟩) rfl (Nat.le_of_ble_eq_true rfl) rfl (Nat.le_of_ble_eq_true rfl) (c_close_0 g9) (fun μ1 k1 => ?_)
      refine Go.ireturn .boolean dX4_takeSign_22 rfl rfl ?_
      exact ⟨rfl, k1⟩
    · rw [if_neg h0]
      refine ⟨fun P' R' ok' due' e => ?_, fun e => by contradiction⟩
      injection e with e
      injection e with e1 e
      injection e with e2 e
      injection e with e3 e4
      subst e1 e2 e3 e4
      show Go V (d + 3) mX4_takeSign 0 [some (vR 33), none, none] [] μ _
      refine Go.aload_n dX4_takeSign_0 rfl ?_
      refine Go.getR dX4_takeSign_1 flX4_18 rfl ?_
      refine Go.aload_n dX4_takeSign_4 rfl ?_
      refine Go.getI dX4_takeSign_5 flX4_34 rfl ?_
      refine Go.topE (y := nI b) h5 ?_
      refine Go.callVi 31 [vI (nI b)] [] dX4_takeSign_8 lkX4_96 (Or.inl ⟨_, _, _, rfl, rfl, rfl⟩) rfl (Nat.le_of_ble_eq_true rfl) rfl (Nat.le_of_ble_eq_true rfl) (c_byteAt hT b (by omega)) ?_
      refine Go.topE (y := nI 41) (by rw [e41]) ?_
      refine Go.istore_n (ls' := [some (vR 33), some (vI (nI 41)), none]) dX4_takeSign_11 (by decide) rfl ?_
      refine Go.at 12 rfl ?_
      refine Go.iload_n dX4_takeSign_12 rfl ?_
      refine Go.bipush (v := nI 41) dX4_takeSign_13 rfl ?_
      refine Go.icmp_ne_f (tgt := 23) dX4_takeSign_15 (by decide) (by decide) ?_
      refine Go.aload_n dX4_takeSign_18 rfl ?_
      refine Go.callVx 33 [] [] dX4_takeSign_19 lkX4_140 (Or.inl ⟨_, _, _, rfl, rfl, rfl⟩) rfl (Nat.le_of_ble_eq_true rfl) rfl (Nat.le_of_ble_eq_true rfl) (c_close_1 h hl hok h48 h38 h0) (fun μ1 k1 => ?_)
      refine Go.ireturn .boolean dX4_takeSign_22 rfl rfl ?_
      exact ⟨rfl, k1⟩
  · rw [if_neg e41]
    have n41 : ¬ nI (B b) = nI 41 := fun z => e41 (nI_inj z hB)
    have r5 := rank_le (nI (B b))
    have hz4 : ∀ r, 1 ≤ r → cntL (nI 40) (putP r P R).1 = cntL (nI 40) P := fun r hr => putP_cnt hr rank40 P R
    by_cases r0 : rankI (nI (B b)) = 0
    · rw [if_pos r0]
      refine ⟨fun P' R' ok' due' e => (by contradiction), fun e => ?_⟩
      show Go V (d + 3) mX4_takeSign 0 [some (vR 33), none, none] [] μ _
      refine Go.aload_n dX4_takeSign_0 rfl ?_
      refine Go.getR dX4_takeSign_1 flX4_18 rfl ?_
      refine Go.aload_n dX4_takeSign_4 rfl ?_
      refine Go.getI dX4_takeSign_5 flX4_34 rfl ?_
      refine Go.topE (y := nI b) h5 ?_
      refine Go.callVi 31 [vI (nI b)] [] dX4_takeSign_8 lkX4_96 (Or.inl ⟨_, _, _, rfl, rfl, rfl⟩) rfl (Nat.le_of_ble_eq_true rfl) rfl (Nat.le_of_ble_eq_true rfl) (c_byteAt hT b (by omega)) ?_
      refine Go.istore_n (ls' := [some (vR 33), some (vI (nI (B b))), none]) dX4_takeSign_11 (by decide) rfl ?_
      refine Go.at 12 rfl ?_
      refine Go.iload_n dX4_takeSign_12 rfl ?_
      refine Go.bipush (v := nI 41) dX4_takeSign_13 rfl ?_
      refine Go.icmp_ne_t (tgt := 23) dX4_takeSign_15 (by decide) n41 ?_
      refine Go.iload_n dX4_takeSign_23 rfl ?_
      refine Go.callSi [vI (nI (B b))] [] dX4_takeSign_24 lkX4_143 rfl (Nat.le_of_ble_eq_true rfl) rfl (Nat.le_of_ble_eq_true rfl) (c_rankI (nI (B b))) ?_
      refine Go.topE (y := nI 0) (by rw [r0]) ?_
      refine Go.istore_n (ls' := [some (vR 33), some (vI (nI (B b))), some (vI (nI 0))]) dX4_takeSign_27 (by decide) rfl ?_
      refine Go.at 28 rfl ?_
      refine Go.iload_n dX4_takeSign_28 rfl ?_
      refine Go.if_ne_f (tgt := 34) dX4_takeSign_29 (by decide) (by decide) ?_
      refine Go.iconst (v := nI 0) dX4_takeSign_32 rfl ?_
      refine Go.ireturn .boolean dX4_takeSign_33 rfl rfl ?_
      exact ⟨rfl, FrR.rf _⟩
    · rw [if_neg r0]
      have n40 : ¬ nI (B b) = nI 40 := fun z => r0 (by rw [z]; exact rank40)
      have n33 : ¬ nI (B b) = nI 33 := fun z => r0 (by rw [z]; exact rank33)
      by_cases r3 : rankI (nI (B b)) = 3
      · rw [if_pos r3]
        have hlen := putP_len 4 P R
        by_cases t3 : rankI (topS (putP 4 P R).1) = 3
        · rw [if_pos t3]
          refine ⟨fun P' R' ok' due' e => (by contradiction), fun e => ?_⟩
          show Go V (d + 3) mX4_takeSign 0 [some (vR 33), none, none] [] μ _
          refine Go.aload_n dX4_takeSign_0 rfl ?_
          refine Go.getR dX4_takeSign_1 flX4_18 rfl ?_
          refine Go.aload_n dX4_takeSign_4 rfl ?_
          refine Go.getI dX4_takeSign_5 flX4_34 rfl ?_
          refine Go.topE (y := nI b) h5 ?_
          refine Go.callVi 31 [vI (nI b)] [] dX4_takeSign_8 lkX4_96 (Or.inl ⟨_, _, _, rfl, rfl, rfl⟩) rfl (Nat.le_of_ble_eq_true rfl) rfl (Nat.le_of_ble_eq_true rfl) (c_byteAt hT b (by omega)) ?_
          refine Go.istore_n (ls' := [some (vR 33), some (vI (nI (B b))), none]) dX4_takeSign_11 (by decide) rfl ?_
          refine Go.at 12 rfl ?_
          refine Go.iload_n dX4_takeSign_12 rfl ?_
          refine Go.bipush (v := nI 41) dX4_takeSign_13 rfl ?_
          refine Go.icmp_ne_t (tgt := 23) dX4_takeSign_15 (by decide) n41 ?_
          refine Go.iload_n dX4_takeSign_23 rfl ?_
          refine Go.callSi [vI (nI (B b))] [] dX4_takeSign_24 lkX4_143 rfl (Nat.le_of_ble_eq_true rfl) rfl (Nat.le_of_ble_eq_true rfl) (c_rankI (nI (B b))) ?_
          refine Go.topE (y := nI 3) (by rw [r3]) ?_
          refine Go.istore_n (ls' := [some (vR 33), some (vI (nI (B b))), some (vI (nI 3))]) dX4_takeSign_27 (by decide) rfl ?_
          refine Go.at 28 rfl ?_
          refine Go.iload_n dX4_takeSign_28 rfl ?_
          refine Go.if_ne_t (tgt := 34) dX4_takeSign_29 (by decide) (by decide) ?_
          refine Go.iload_n dX4_takeSign_34 rfl ?_
          refine Go.iconst (v := nI 3) dX4_takeSign_35 rfl ?_
          refine Go.icmp_ne_f (tgt := 57) dX4_takeSign_36 (by decide) (by decide) ?_
          refine Go.aload_n dX4_takeSign_39 rfl ?_
          refine Go.at 40 rfl ?_
          refine Go.iconst (v := nI 4) dX4_takeSign_40 rfl ?_
          refine Go.callVu 33 [vI (nI 4)] [] dX4_takeSign_41 lkX4_59 (Or.inl ⟨_, _, _, rfl, rfl, rfl⟩) rfl (Nat.le_of_ble_eq_true rfl) rfl (Nat.le_of_ble_eq_true rfl) (c_putPending (r := 4) (by decide) (by decide) h (by omega)) (fun μ1 k1 => ?_)
          refine Go.aload_n dX4_takeSign_44 rfl ?_
          refine Go.callVi 33 [] [] dX4_takeSign_45 lkX4_137 (Or.inl ⟨_, _, _, rfl, rfl, rfl⟩) rfl (Nat.le_of_ble_eq_true rfl) rfl (Nat.le_of_ble_eq_true rfl) (c_topSign k1.1.1 k1.1.2.1 (by omega)) ?_
          refine Go.callSi [vI (topS (putP 4 P R).1)] [] dX4_takeSign_48 lkX4_143 rfl (Nat.le_of_ble_eq_true rfl) rfl (Nat.le_of_ble_eq_true rfl) (c_rankI (topS (putP 4 P R).1)) ?_
          refine Go.topE (y := nI 3) (by rw [t3]) ?_
          refine Go.iconst (v := nI 3) dX4_takeSign_51 rfl ?_
          refine Go.at 52 rfl ?_
          refine Go.icmp_ne_f (tgt := 62) dX4_takeSign_52 (by decide) (by decide) ?_
          refine Go.iconst (v := nI 0) dX4_takeSign_55 rfl ?_
          refine Go.ireturn .boolean dX4_takeSign_56 rfl rfl ?_
          exact ⟨rfl, k1.2⟩
        · rw [if_neg t3]
          have t5 := rank_le (topS (putP 4 P R).1)
          refine ⟨fun P' R' ok' due' e => ?_, fun e => by contradiction⟩
          injection e with e
          injection e with e1 e
          injection e with e2 e
          injection e with e3 e4
          subst e1 e2 e3 e4
          show Go V (d + 3) mX4_takeSign 0 [some (vR 33), none, none] [] μ _
          refine Go.aload_n dX4_takeSign_0 rfl ?_
          refine Go.getR dX4_takeSign_1 flX4_18 rfl ?_
          refine Go.aload_n dX4_takeSign_4 rfl ?_
          refine Go.getI dX4_takeSign_5 flX4_34 rfl ?_
          refine Go.topE (y := nI b) h5 ?_
          refine Go.callVi 31 [vI (nI b)] [] dX4_takeSign_8 lkX4_96 (Or.inl ⟨_, _, _, rfl, rfl, rfl⟩) rfl (Nat.le_of_ble_eq_true rfl) rfl (Nat.le_of_ble_eq_true rfl) (c_byteAt hT b (by omega)) ?_
          refine Go.istore_n (ls' := [some (vR 33), some (vI (nI (B b))), none]) dX4_takeSign_11 (by decide) rfl ?_
          refine Go.at 12 rfl ?_
          refine Go.iload_n dX4_takeSign_12 rfl ?_
          refine Go.bipush (v := nI 41) dX4_takeSign_13 rfl ?_
          refine Go.icmp_ne_t (tgt := 23) dX4_takeSign_15 (by decide) n41 ?_
          refine Go.iload_n dX4_takeSign_23 rfl ?_
          refine Go.callSi [vI (nI (B b))] [] dX4_takeSign_24 lkX4_143 rfl (Nat.le_of_ble_eq_true rfl) rfl (Nat.le_of_ble_eq_true rfl) (c_rankI (nI (B b))) ?_
          refine Go.topE (y := nI 3) (by rw [r3]) ?_
          refine Go.istore_n (ls' := [some (vR 33), some (vI (nI (B b))), some (vI (nI 3))]) dX4_takeSign_27 (by decide) rfl ?_
          refine Go.at 28 rfl ?_
          refine Go.iload_n dX4_takeSign_28 rfl ?_
          refine Go.if_ne_t (tgt := 34) dX4_takeSign_29 (by decide) (by decide) ?_
          refine Go.iload_n dX4_takeSign_34 rfl ?_
          refine Go.iconst (v := nI 3) dX4_takeSign_35 rfl ?_
          refine Go.icmp_ne_f (tgt := 57) dX4_takeSign_36 (by decide) (by decide) ?_
          refine Go.aload_n dX4_takeSign_39 rfl ?_
          refine Go.at 40 rfl ?_
          refine Go.iconst (v := nI 4) dX4_takeSign_40 rfl ?_
          refine Go.callVu 33 [vI (nI 4)] [] dX4_takeSign_41 lkX4_59 (Or.inl ⟨_, _, _, rfl, rfl, rfl⟩) rfl (Nat.le_of_ble_eq_true rfl) rfl (Nat.le_of_ble_eq_true rfl) (c_putPending (r := 4) (by decide) (by decide) h (by omega)) (fun μ1 k1 => ?_)
          refine Go.aload_n dX4_takeSign_44 rfl ?_
          refine Go.callVi 33 [] [] dX4_takeSign_45 lkX4_137 (Or.inl ⟨_, _, _, rfl, rfl, rfl⟩) rfl (Nat.le_of_ble_eq_true rfl) rfl (Nat.le_of_ble_eq_true rfl) (c_topSign k1.1.1 k1.1.2.1 (by omega)) ?_
          refine Go.callSi [vI (topS (putP 4 P R).1)] [] dX4_takeSign_48 lkX4_143 rfl (Nat.le_of_ble_eq_true rfl) rfl (Nat.le_of_ble_eq_true rfl) (c_rankI (topS (putP 4 P R).1)) ?_
          refine Go.iconst (v := nI 3) dX4_takeSign_51 rfl ?_
          refine Go.at 52 rfl ?_
          refine Go.icmp_ne_t (tgt := 62) dX4_takeSign_52 (by decide) (by rw [sI_eq, nT, nT]; omega) ?_
          refine Go.aload_n dX4_takeSign_62 rfl ?_
          refine Go.iload_n dX4_takeSign_63 rfl ?_
          refine Go.callVv 33 [vI (nI (B b))] [] dX4_takeSign_64 lkX4_103 (Or.inl ⟨_, _, _, rfl, rfl, rfl⟩) rfl (Nat.le_of_ble_eq_true rfl) rfl (Nat.le_of_ble_eq_true rfl) (c_rpush k1.1.1 (by omega) (nI (B b))) ?_
          refine Go.aload_n dX4_takeSign_67 rfl ?_
          refine Go.iconst (v := nI 1) dX4_takeSign_68 rfl ?_
          refine Go.at 69 rfl ?_
          refine Go.put dX4_takeSign_69 flX4_45 rfl rfl rfl rfl ?_
          refine Go.iconst (v := nI 1) dX4_takeSign_72 rfl ?_
          refine Go.ireturn .boolean dX4_takeSign_73 rfl rfl ?_
          exact ⟨rfl, (k1.1.psh _ n40 n33).due1 _, ((k1.2.a _ (Or.inr rfl)).f _ (by decide) (by decide) (by decide)).f _ (by decide) (by decide) (by decide)⟩
      · rw [if_neg r3]
        have hlen := putP_len (rankI (nI (B b))) P R
        refine ⟨fun P' R' ok' due' e => ?_, fun e => by contradiction⟩
        injection e with e
        injection e with e1 e
        injection e with e2 e
        injection e with e3 e4
        subst e1 e2 e3 e4
        show Go V (d + 3) mX4_takeSign 0 [some (vR 33), none, none] [] μ _
        refine Go.aload_n dX4_takeSign_0 rfl ?_
        refine Go.getR dX4_takeSign_1 flX4_18 rfl ?_
        refine Go.aload_n dX4_takeSign_4 rfl ?_
        refine Go.getI dX4_takeSign_5 flX4_34 rfl ?_
        refine Go.topE (y := nI b) h5 ?_
        refine Go.callVi 31 [vI (nI b)] [] dX4_takeSign_8 lkX4_96 (Or.inl ⟨_, _, _, rfl, rfl, rfl⟩) rfl (Nat.le_of_ble_eq_true rfl) rfl (Nat.le_of_ble_eq_true rfl) (c_byteAt hT b (by omega)) ?_
        refine Go.istore_n (ls' := [some (vR 33), some (vI (nI (B b))), none]) dX4_takeSign_11 (by decide) rfl ?_
        refine Go.at 12 rfl ?_
        refine Go.iload_n dX4_takeSign_12 rfl ?_
        refine Go.bipush (v := nI 41) dX4_takeSign_13 rfl ?_
        refine Go.icmp_ne_t (tgt := 23) dX4_takeSign_15 (by decide) n41 ?_
        refine Go.iload_n dX4_takeSign_23 rfl ?_
        refine Go.callSi [vI (nI (B b))] [] dX4_takeSign_24 lkX4_143 rfl (Nat.le_of_ble_eq_true rfl) rfl (Nat.le_of_ble_eq_true rfl) (c_rankI (nI (B b))) ?_
        refine Go.istore_n (ls' := [some (vR 33), some (vI (nI (B b))), some (vI (nI (rankI (nI (B b)))))]) dX4_takeSign_27 (by decide) rfl ?_
        refine Go.at 28 rfl ?_
        refine Go.iload_n dX4_takeSign_28 rfl ?_
        refine Go.if_ne_t (tgt := 34) dX4_takeSign_29 (by decide) (by rw [sI_eq, nT, Int32.toInt_zero]; omega) ?_
        refine Go.iload_n dX4_takeSign_34 rfl ?_
        refine Go.iconst (v := nI 3) dX4_takeSign_35 rfl ?_
        refine Go.icmp_ne_t (tgt := 57) dX4_takeSign_36 (by decide) (by rw [sI_eq, nT, nT]; omega) ?_
        refine Go.aload_n dX4_takeSign_57 rfl ?_
        refine Go.at 58 rfl ?_
        refine Go.iload_n dX4_takeSign_58 rfl ?_
        refine Go.callVu 33 [vI (nI (rankI (nI (B b))))] [] dX4_takeSign_59 lkX4_59 (Or.inl ⟨_, _, _, rfl, rfl, rfl⟩) rfl (Nat.le_of_ble_eq_true rfl) rfl (Nat.le_of_ble_eq_true rfl) (c_putPending (r := (rankI (nI (B b)))) (by omega) (by omega) h (by omega)) (fun μ1 k1 => ?_)
        refine Go.aload_n dX4_takeSign_62 rfl ?_
        refine Go.iload_n dX4_takeSign_63 rfl ?_
        refine Go.callVv 33 [vI (nI (B b))] [] dX4_takeSign_64 lkX4_103 (Or.inl ⟨_, _, _, rfl, rfl, rfl⟩) rfl (Nat.le_of_ble_eq_true rfl) rfl (Nat.le_of_ble_eq_true rfl) (c_rpush k1.1.1 (by omega) (nI (B b))) ?_
        refine Go.aload_n dX4_takeSign_67 rfl ?_
        refine Go.at 68 rfl ?_
        refine Go.iconst (v := nI 1) dX4_takeSign_68 rfl ?_
        refine Go.put dX4_takeSign_69 flX4_45 rfl rfl rfl rfl ?_
        refine Go.iconst (v := nI 1) dX4_takeSign_72 rfl ?_
        refine Go.ireturn .boolean dX4_takeSign_73 rfl rfl ?_
        exact ⟨rfl, (k1.1.psh _ n40 n33).due1 _, ((k1.2.a _ (Or.inr rfl)).f _ (by decide) (by decide) (by decide)).f _ (by decide) (by decide) (by decide)⟩
