/-! ===== the reader's stacks ===== -/
def rankI (c : Int32) : Nat := if c = nI 124 then 1 else if c = nI 38 then 2 else if c = nI 60 ∨ c = nI 61 ∨ c = nI 62 then 3 else if c = nI 43 ∨ c = nI 45 then 4 else if c = nI 42 ∨ c = nI 47 then 5 else 0
def ArS (f : Nat → Int32) : List Int32 → Prop
  | [] => True
  | c :: L => f L.length = c ∧ ArS f L
def topS : List Int32 → Int32
  | [] => nI 0
  | c :: _ => c
def cntL (x : Int32) : List Int32 → Nat
  | [] => 0
  | c :: L => if c = x then cntL x L + 1 else cntL x L
theorem ArS.nw {f : Nat → Int32} {j : Nat} (x : Int32) : ∀ {L : List Int32}, ArS f L → L.length ≤ j → ArS (upd f j x) L
  | [], _, _ => trivial
  | c :: L, h, hl => by
    have hl1 : L.length + 1 ≤ j := hl
    exact ⟨by rw [upd_ne _ _ (by omega)]; exact h.1, h.2.nw x (by omega)⟩
theorem ArS.push {f : Nat → Int32} {L : List Int32} (h : ArS f L) (x : Int32) : ArS (upd f L.length x) (x :: L) := ⟨upd_self _ _ _, h.nw x (Nat.le_refl _)⟩
def endP : List Int32 → List Int32 → List Int32 × List Int32
  | [], R => ([], R)
  | c :: P, R => if c = nI 33 then endP P (-(nI 33) :: R) else (c :: P, R)
def putP (r : Nat) : List Int32 → List Int32 → List Int32 × List Int32
  | [], R => ([], R)
  | c :: P, R => if r ≤ rankI c then putP r P (-c :: R) else (c :: P, R)
def Rst (μ : Memo) (P R : List Int32) (ok : Nat) (due : Int32) : Prop :=
  μ 33 8 = nI P.length ∧ ArS (μ 35) P ∧ μ 33 3 = nI R.length ∧ ArS (μ 34) R ∧ μ 33 9 = nI (cntL (nI 40) P) ∧ μ 33 10 = nI (cntL (nI 33) P) ∧ μ 33 1 = nI ok ∧ μ 33 11 = due
def FrR (μ0 μ : Memo) : Prop := (∀ o, o ≠ 33 → o ≠ 34 → o ≠ 35 → μ o = μ0 o) ∧ μ 33 0 = μ0 33 0 ∧ μ 33 5 = μ0 33 5 ∧ μ 33 6 = μ0 33 6
theorem FrR.rf (μ : Memo) : FrR μ μ := ⟨fun _ _ _ _ => rfl, rfl, rfl, rfl⟩
theorem FrR.tr {a b c : Memo} (h : FrR a b) (k : FrR b c) : FrR a c := ⟨fun o h1 h2 h3 => (k.1 o h1 h2 h3).trans (h.1 o h1 h2 h3), k.2.1.trans h.2.1, k.2.2.1.trans h.2.2.1, k.2.2.2.trans h.2.2.2⟩
theorem FrR.f {a b : Memo} (h : FrR a b) {k : Nat} (x : Int32) (h0 : k ≠ 0) (h5 : k ≠ 5) (h6 : k ≠ 6) : FrR a (ms b 33 k x) := ⟨fun o h1 h2 h3 => by rw [ms_ne _ _ _ h1]; exact h.1 o h1 h2 h3, by rw [ms_self, upd_ne _ _ (Ne.symm h0)]; exact h.2.1, by rw [ms_self, upd_ne _ _ (Ne.symm h5)]; exact h.2.2.1, by rw [ms_self, upd_ne _ _ (Ne.symm h6)]; exact h.2.2.2⟩
theorem FrR.a {a b : Memo} (h : FrR a b) {o j : Nat} (x : Int32) (ho : o = 34 ∨ o = 35) : FrR a (ms b o j x) := ⟨fun q h1 h2 h3 => by rw [ms_ne _ _ _ (by omega)]; exact h.1 q h1 h2 h3, by rw [ms_ne _ _ _ (by omega)]; exact h.2.1, by rw [ms_ne _ _ _ (by omega)]; exact h.2.2.1, by rw [ms_ne _ _ _ (by omega)]; exact h.2.2.2⟩
theorem cntL_le (x : Int32) : ∀ L : List Int32, cntL x L ≤ L.length
  | [] => Nat.le_refl _
  | c :: L => by
    have := cntL_le x L
    rw [cntL]; split <;> simp only [List.length_cons] <;> omega
theorem endP_len : ∀ (P R : List Int32), (endP P R).1.length + (endP P R).2.length = P.length + R.length
  | [], R => rfl
  | c :: P, R => by
    rw [endP]; split
    · rw [endP_len P]; simp only [List.length_cons]; omega
    · rfl
theorem putP_len (r : Nat) : ∀ (P R : List Int32), (putP r P R).1.length + (putP r P R).2.length = P.length + R.length
  | [], R => rfl
  | c :: P, R => by
    rw [putP]; split
    · rw [putP_len r P]; simp only [List.length_cons]; omega
    · rfl
theorem putP_cnt {r : Nat} (hr : 1 ≤ r) {x : Int32} (hx : rankI x = 0) : ∀ (P R : List Int32), cntL x (putP r P R).1 = cntL x P
  | [], R => rfl
  | c :: P, R => by
    rw [putP]; split
    · rename_i h
      rw [putP_cnt hr hx P, cntL, if_neg (by intro z; subst z; omega)]
    · rfl
theorem endP_cnt {x : Int32} (hx : ¬ nI 33 = x) : ∀ (P R : List Int32), cntL x (endP P R).1 = cntL x P
  | [], R => rfl
  | c :: P, R => by
    rw [endP]; split
    · rename_i h
      subst h
      rw [endP_cnt hx P, cntL, if_neg hx]
    · rfl
theorem rank_le (c : Int32) : rankI c ≤ 5 := by
  unfold rankI; repeat' split
  all_goals omega
theorem rank40 : rankI (nI 40) = 0 := by decide
theorem rank33 : rankI (nI 33) = 0 := by decide

theorem c_rankI {V : VV} {d : Nat} {μ : Memo} (c : Int32) : Ret V d mX4_rankOf [vI c] μ (some (vI (nI (rankI c)))) μ := by
  show Go V d mX4_rankOf 0 [some (vI c)] [] μ _
  refine Go.iload_n dX4_rankOf_0 rfl ?_
  by_cases h1_38 : c = nI 38
  · refine Go.lswV (tgt := 86) (nI 38) h1_38 dX4_rankOf_1 (by decide) rfl (by decide) ?_
    refine Go.iconst (v := nI 2) dX4_rankOf_86 rfl ?_
    refine Go.ireturn .int dX4_rankOf_87 rfl rfl ?_
    exact ⟨congrArg (fun z => some (vI z)) (by unfold rankI; simp only [*]; try decide), rfl⟩
  by_cases h1_42 : c = nI 42
  · refine Go.lswV (tgt := 92) (nI 42) h1_42 dX4_rankOf_1 (by decide) rfl (by decide) ?_
    refine Go.iconst (v := nI 5) dX4_rankOf_92 rfl ?_
    refine Go.ireturn .int dX4_rankOf_93 rfl rfl ?_
    exact ⟨congrArg (fun z => some (vI z)) (by unfold rankI; simp only [*]; try decide), rfl⟩
  by_cases h1_43 : c = nI 43
  · refine Go.lswV (tgt := 90) (nI 43) h1_43 dX4_rankOf_1 (by decide) rfl (by decide) ?_
    refine Go.iconst (v := nI 4) dX4_rankOf_90 rfl ?_
    refine Go.ireturn .int dX4_rankOf_91 rfl rfl ?_
    exact ⟨congrArg (fun z => some (vI z)) (by unfold rankI; simp only [*]; try decide), rfl⟩
  by_cases h1_45 : c = nI 45
  · refine Go.lswV (tgt := 90) (nI 45) h1_45 dX4_rankOf_1 (by decide) rfl (by decide) ?_
    refine Go.iconst (v := nI 4) dX4_rankOf_90 rfl ?_
    refine Go.ireturn .int dX4_rankOf_91 rfl rfl ?_
    exact ⟨congrArg (fun z => some (vI z)) (by unfold rankI; simp only [*]; try decide), rfl⟩
  by_cases h1_47 : c = nI 47
  · refine Go.lswV (tgt := 92) (nI 47) h1_47 dX4_rankOf_1 (by decide) rfl (by decide) ?_
    refine Go.iconst (v := nI 5) dX4_rankOf_92 rfl ?_
    refine Go.ireturn .int dX4_rankOf_93 rfl rfl ?_
    exact ⟨congrArg (fun z => some (vI z)) (by unfold rankI; simp only [*]; try decide), rfl⟩
  by_cases h1_60 : c = nI 60
  · refine Go.lswV (tgt := 88) (nI 60) h1_60 dX4_rankOf_1 (by decide) rfl (by decide) ?_
    refine Go.iconst (v := nI 3) dX4_rankOf_88 rfl ?_
    refine Go.ireturn .int dX4_rankOf_89 rfl rfl ?_
    exact ⟨congrArg (fun z => some (vI z)) (by unfold rankI; simp only [*]; try decide), rfl⟩
  by_cases h1_61 : c = nI 61
  · refine Go.lswV (tgt := 88) (nI 61) h1_61 dX4_rankOf_1 (by decide) rfl (by decide) ?_
    refine Go.iconst (v := nI 3) dX4_rankOf_88 rfl ?_
    refine Go.ireturn .int dX4_rankOf_89 rfl rfl ?_
    exact ⟨congrArg (fun z => some (vI z)) (by unfold rankI; simp only [*]; try decide), rfl⟩
  by_cases h1_62 : c = nI 62
  · refine Go.lswV (tgt := 88) (nI 62) h1_62 dX4_rankOf_1 (by decide) rfl (by decide) ?_
    refine Go.iconst (v := nI 3) dX4_rankOf_88 rfl ?_
    refine Go.ireturn .int dX4_rankOf_89 rfl rfl ?_
    exact ⟨congrArg (fun z => some (vI z)) (by unfold rankI; simp only [*]; try decide), rfl⟩
  by_cases h1_124 : c = nI 124
  · refine Go.lswV (tgt := 84) (nI 124) h1_124 dX4_rankOf_1 (by decide) rfl (by decide) ?_
    refine Go.iconst (v := nI 1) dX4_rankOf_84 rfl ?_
    refine Go.ireturn .int dX4_rankOf_85 rfl rfl ?_
    exact ⟨congrArg (fun z => some (vI z)) (by unfold rankI; simp only [*]; try decide), rfl⟩
  refine Go.lsw (tgt := 94) (off := 93) dX4_rankOf_1 (by decide) (by show Op.lookupswitch.offset [(38, 85), (42, 91), (43, 89), (45, 89), (47, 91), (60, 87), (61, 87), (62, 87), (124, 83)] 93 _ = (93 : Int); rw [lv_osw (a := 38) h1_38 rfl, lv_osw (a := 42) h1_42 rfl, lv_osw (a := 43) h1_43 rfl, lv_osw (a := 45) h1_45 rfl, lv_osw (a := 47) h1_47 rfl, lv_osw (a := 60) h1_60 rfl, lv_osw (a := 61) h1_61 rfl, lv_osw (a := 62) h1_62 rfl, lv_osw (a := 124) h1_124 rfl]; rfl) (by decide) ?_
  refine Go.iconst (v := nI 0) dX4_rankOf_94 rfl ?_
  refine Go.ireturn .int dX4_rankOf_95 rfl rfl ?_
  exact ⟨congrArg (fun z => some (vI z)) (by unfold rankI; simp only [*]; try decide), rfl⟩
theorem c_topSign_0 {V : VV} {d : Nat} {μ : Memo} (h8 : μ 33 8 = nI 0) : Ret V d mX4_topSign [vR 33] μ (some (vI (nI 0))) μ := by
  show Go V d mX4_topSign 0 [some (vR 33)] [] μ _
  refine Go.aload_n dX4_topSign_0 rfl ?_
  refine Go.getI dX4_topSign_1 flX4_69 rfl ?_
  refine Go.topE (y := nI 0) h8 ?_
  refine Go.if_le_t (tgt := 21) dX4_topSign_4 (by decide) (by decide) ?_
  refine Go.iconst (v := nI 0) dX4_topSign_21 rfl ?_
  refine Go.ireturn .int dX4_topSign_22 rfl rfl ?_
  exact ⟨rfl, rfl⟩
theorem c_topSign_1 {V : VV} {d : Nat} {μ : Memo} {n : Nat} {c : Int32} (h8 : μ 33 8 = nI (n + 1)) (hn : n < 96) (hc : μ 35 n = c) : Ret V d mX4_topSign [vR 33] μ (some (vI c)) μ := by
  show Go V d mX4_topSign 0 [some (vR 33)] [] μ _
  refine Go.aload_n dX4_topSign_0 rfl ?_
  refine Go.getI dX4_topSign_1 flX4_69 rfl ?_
  refine Go.topE (y := nI (n + 1)) h8 ?_
  refine Go.if_le_f (tgt := 21) dX4_topSign_4 (by decide) (by rw [sI_le, nT, Int32.toInt_zero]; omega) ?_
  refine Go.aload_n dX4_topSign_7 rfl ?_
  refine Go.getR dX4_topSign_8 flX4_15 rfl ?_
  refine Go.aload_n dX4_topSign_11 rfl ?_
  refine Go.at 12 rfl ?_
  refine Go.getI dX4_topSign_12 flX4_69 rfl ?_
  refine Go.topE (y := nI (n + 1)) h8 ?_
  refine Go.iconst (v := nI 1) dX4_topSign_15 rfl ?_
  refine Go.isubN dX4_topSign_16 (by omega) ?_
  refine Go.iaload n dX4_topSign_17 rfl (by omega) rfl ?_
  refine Go.topE (y := c) hc ?_
  refine Go.goto (tgt := 22) dX4_topSign_18 (by decide) ?_
  refine Go.ireturn .int dX4_topSign_22 rfl rfl ?_
  exact ⟨rfl, rfl⟩
theorem c_topSign {V : VV} {d : Nat} {μ : Memo} {P : List Int32} (h8 : μ 33 8 = nI P.length) (hA : ArS (μ 35) P) (hl : P.length ≤ 96) : Ret V d mX4_topSign [vR 33] μ (some (vI (topS P))) μ := by
  cases P with
  | nil => exact c_topSign_0 h8
  | cons c L => exact c_topSign_1 h8 (by simp only [List.length_cons] at hl; omega) hA.1
theorem c_rpush {V : VV} {d : Nat} {μ : Memo} {n : Nat} (h8 : μ 33 8 = nI n) (hn : n < 96) (x : Int32) : Ret V (d) mX4_push [vR 33, vI x] μ none (ms (ms μ 35 n x) 33 8 (nI (n + 1))) := by
  show Go V (d) mX4_push 0 [some (vR 33), some (vI x)] [] μ _
  refine Go.aload_n dX4_push_0 rfl ?_
  refine Go.getI dX4_push_1 flX4_69 rfl ?_
  refine Go.topE (y := nI n) h8 ?_
  refine Go.bipush (v := nI 96) dX4_push_4 rfl ?_
  refine Go.icmp_ge_f (tgt := 29) dX4_push_6 (by decide) (nI_ge hn (by decide)) ?_
  refine Go.aload_n dX4_push_9 rfl ?_
  refine Go.getR dX4_push_10 flX4_15 rfl ?_
  refine Go.at 13 rfl ?_
  refine Go.aload_n dX4_push_13 rfl ?_
  refine Go.getI dX4_push_14 flX4_69 rfl ?_
  refine Go.topE (y := nI n) h8 ?_
  refine Go.iload_n dX4_push_17 rfl ?_
  refine Go.iastore n dX4_push_18 rfl (by omega) rfl ?_
  refine Go.aload_n dX4_push_19 rfl ?_
  refine Go.dupR dX4_push_20 ?_
  refine Go.at 21 rfl ?_
  refine Go.getI dX4_push_21 flX4_69 rfl ?_
  refine Go.topE (y := nI n) ((congrFun (ms_ne _ _ _ (by decide)) _).trans h8) ?_
  refine Go.iconst (v := nI 1) dX4_push_24 rfl ?_
  refine Go.iaddN dX4_push_25 ?_
  refine Go.put dX4_push_26 flX4_69 rfl rfl rfl rfl ?_
  refine Go.vreturn dX4_push_29 rfl ?_
  exact ⟨rfl, rfl⟩
theorem c_rput {V : VV} {d : Nat} {μ : Memo} {n : Nat} (h8 : μ 33 3 = nI n) (hn : n < 96) (x : Int32) : Ret V (d) mX4_put [vR 33, vI x] μ none (ms (ms μ 34 n x) 33 3 (nI (n + 1))) := by
  show Go V (d) mX4_put 0 [some (vR 33), some (vI x)] [] μ _
  refine Go.aload_n dX4_put_0 rfl ?_
  refine Go.getI dX4_put_1 flX4_66 rfl ?_
  refine Go.topE (y := nI n) h8 ?_
  refine Go.bipush (v := nI 96) dX4_put_4 rfl ?_
  refine Go.icmp_ge_f (tgt := 29) dX4_put_6 (by decide) (nI_ge hn (by decide)) ?_
  refine Go.aload_n dX4_put_9 rfl ?_
  refine Go.getR dX4_put_10 flX4_9 rfl ?_
  refine Go.at 13 rfl ?_
  refine Go.aload_n dX4_put_13 rfl ?_
  refine Go.getI dX4_put_14 flX4_66 rfl ?_
  refine Go.topE (y := nI n) h8 ?_
  refine Go.iload_n dX4_put_17 rfl ?_
  refine Go.iastore n dX4_put_18 rfl (by omega) rfl ?_
  refine Go.aload_n dX4_put_19 rfl ?_
  refine Go.dupR dX4_put_20 ?_
  refine Go.at 21 rfl ?_
  refine Go.getI dX4_put_21 flX4_66 rfl ?_
  refine Go.topE (y := nI n) ((congrFun (ms_ne _ _ _ (by decide)) _).trans h8) ?_
  refine Go.iconst (v := nI 1) dX4_put_24 rfl ?_
  refine Go.iaddN dX4_put_25 ?_
  refine Go.put dX4_put_26 flX4_66 rfl rfl rfl rfl ?_
  refine Go.vreturn dX4_put_29 rfl ?_
  exact ⟨rfl, rfl⟩
theorem Rst.pop {μ : Memo} {c : Int32} {P R : List Int32} {ok : Nat} {due : Int32} (h : Rst μ (c :: P) R ok due) (h4 : ¬ c = nI 40) (h3 : ¬ c = nI 33) : Rst (ms (ms (ms μ 34 R.length (-c)) 33 3 (nI (R.length + 1))) 33 8 (nI P.length)) P (-c :: R) ok due := by
  obtain ⟨a1, a2, a3, a4, a5, a6, a7, a8⟩ := h
  rw [cntL, if_neg h4] at a5
  rw [cntL, if_neg h3] at a6
  refine ⟨by simp (disch := omega) only [ms_self, ms_ne, upd_self, upd_ne], ?_, by simp (disch := omega) only [ms_self, ms_ne, upd_self, upd_ne]; rfl, ?_, by simp (disch := omega) only [ms_self, ms_ne, upd_self, upd_ne]; exact a5, by simp (disch := omega) only [ms_self, ms_ne, upd_self, upd_ne]; exact a6, by simp (disch := omega) only [ms_self, ms_ne, upd_self, upd_ne]; exact a7, by simp (disch := omega) only [ms_self, ms_ne, upd_self, upd_ne]; exact a8⟩
  · simp (disch := omega) only [ms_self, ms_ne, upd_self, upd_ne]; exact a2.2
  · simp (disch := omega) only [ms_self, ms_ne, upd_self, upd_ne]; exact a4.push _
theorem Rst.pop33 {μ : Memo} {P R : List Int32} {ok : Nat} {due : Int32} (h : Rst μ (nI 33 :: P) R ok due) : Rst (ms (ms (ms (ms μ 34 R.length (-(nI 33))) 33 3 (nI (R.length + 1))) 33 8 (nI P.length)) 33 10 (nI (cntL (nI 33) P))) P (-(nI 33) :: R) ok due := by
  obtain ⟨a1, a2, a3, a4, a5, a6, a7, a8⟩ := h
  rw [cntL, if_neg (by decide)] at a5
  refine ⟨by simp (disch := omega) only [ms_self, ms_ne, upd_self, upd_ne], ?_, by simp (disch := omega) only [ms_self, ms_ne, upd_self, upd_ne]; rfl, ?_, by simp (disch := omega) only [ms_self, ms_ne, upd_self, upd_ne]; exact a5, by simp (disch := omega) only [ms_self, ms_ne, upd_self, upd_ne], by simp (disch := omega) only [ms_self, ms_ne, upd_self, upd_ne]; exact a7, by simp (disch := omega) only [ms_self, ms_ne, upd_self, upd_ne]; exact a8⟩
  · simp (disch := omega) only [ms_self, ms_ne, upd_self, upd_ne]; exact a2.2
  · simp (disch := omega) only [ms_self, ms_ne, upd_self, upd_ne]; exact a4.push _
theorem Rst.psh {μ : Memo} {P R : List Int32} {ok : Nat} {due : Int32} (h : Rst μ P R ok due) (x : Int32) (h4 : ¬ x = nI 40) (h3 : ¬ x = nI 33) : Rst (ms (ms μ 35 P.length x) 33 8 (nI (P.length + 1))) (x :: P) R ok due := by
  obtain ⟨a1, a2, a3, a4, a5, a6, a7, a8⟩ := h
  refine ⟨by simp (disch := omega) only [ms_self, ms_ne, upd_self, upd_ne]; rfl, ?_, by simp (disch := omega) only [ms_self, ms_ne, upd_self, upd_ne]; exact a3, ?_, by simp (disch := omega) only [ms_self, ms_ne, upd_self, upd_ne]; rw [cntL, if_neg h4]; exact a5, by simp (disch := omega) only [ms_self, ms_ne, upd_self, upd_ne]; rw [cntL, if_neg h3]; exact a6, by simp (disch := omega) only [ms_self, ms_ne, upd_self, upd_ne]; exact a7, by simp (disch := omega) only [ms_self, ms_ne, upd_self, upd_ne]; exact a8⟩
  · simp (disch := omega) only [ms_self, ms_ne, upd_self, upd_ne]; exact a2.push _
  · simp (disch := omega) only [ms_self, ms_ne, upd_self, upd_ne]; exact a4
theorem Rst.ptv {μ : Memo} {P R : List Int32} {ok : Nat} {due : Int32} (h : Rst μ P R ok due) (x : Int32) : Rst (ms (ms μ 34 R.length x) 33 3 (nI (R.length + 1))) P (x :: R) ok due := by
  obtain ⟨a1, a2, a3, a4, a5, a6, a7, a8⟩ := h
  refine ⟨by simp (disch := omega) only [ms_self, ms_ne, upd_self, upd_ne]; exact a1, ?_, by simp (disch := omega) only [ms_self, ms_ne, upd_self, upd_ne]; rfl, ?_, by simp (disch := omega) only [ms_self, ms_ne, upd_self, upd_ne]; exact a5, by simp (disch := omega) only [ms_self, ms_ne, upd_self, upd_ne]; exact a6, by simp (disch := omega) only [ms_self, ms_ne, upd_self, upd_ne]; exact a7, by simp (disch := omega) only [ms_self, ms_ne, upd_self, upd_ne]; exact a8⟩
  · simp (disch := omega) only [ms_self, ms_ne, upd_self, upd_ne]; exact a2
  · simp (disch := omega) only [ms_self, ms_ne, upd_self, upd_ne]; exact a4.push _
theorem c_putP_lp {V : VV} {d : Nat} {μ0 : Memo} {r : Nat} (hr : 1 ≤ r) (hr5 : r ≤ 5) :
    ∀ (P R : List Int32) (ok : Nat) (due : Int32) (i : Nat) (μ : Memo), Rst μ P R ok due → FrR μ0 μ → P.length + R.length ≤ 96 → i + P.length ≤ 96 → Go V (d + 1) mX4_putPending 2 [some (vR 33), some (vI (nI r)), some (vI (nI i))] [] μ (fun r' μ1 => r' = none ∧ Rst μ1 (putP r P R).1 (putP r P R).2 ok due ∧ FrR μ0 μ1)
  | [], R, ok, due, i, μ, h, hf, hl, hi => by
    by_cases h96 : i < 96
    · skip
      refine Go.iload_n dX4_putPending_2 rfl ?_
      refine Go.bipush (v := nI 96) dX4_putPending_3 rfl ?_
      refine Go.icmp_ge_f (tgt := 44) dX4_putPending_5 (by decide) (nI_ge h96 (by decide)) ?_
      refine Go.aload_n dX4_putPending_8 rfl ?_
      refine Go.callVi 33 [] [] dX4_putPending_9 lkX4_137 (Or.inl ⟨_, _, _, rfl, rfl, rfl⟩) rfl (Nat.le_of_ble_eq_true rfl) rfl (Nat.le_of_ble_eq_true rfl) (c_topSign h.1 h.2.1 (by simp only [List.length_nil]; omega)) ?_
      refine Go.callSi [vI (topS [])] [] dX4_putPending_12 lkX4_143 rfl (Nat.le_of_ble_eq_true rfl) rfl (Nat.le_of_ble_eq_true rfl) (c_rankI (topS [])) ?_
      refine Go.topE (y := nI 0) (by decide) ?_
      refine Go.at 15 rfl ?_
      refine Go.iload_n dX4_putPending_15 rfl ?_
      refine Go.icmp_lt_t (tgt := 44) dX4_putPending_16 (by decide) (by rw [sI_lt, nT, nT]; omega) ?_
      refine Go.vreturn dX4_putPending_44 rfl ?_
      exact ⟨rfl, h, hf⟩
    · obtain rfl : i = 96 := by omega
      refine Go.iload_n dX4_putPending_2 rfl ?_
      refine Go.bipush (v := nI 96) dX4_putPending_3 rfl ?_
      refine Go.icmp_ge_t (tgt := 44) dX4_putPending_5 (by decide) (by decide) ?_
      refine Go.vreturn dX4_putPending_44 rfl ?_
      exact ⟨rfl, h, hf⟩
  | c :: P, R, ok, due, i, μ, h, hf, hl, hi => by
    have hl1 : P.length + 1 + R.length ≤ 96 := hl
    have hi1 : i + (P.length + 1) ≤ 96 := hi
    rw [putP]
    have hc5 := rank_le c
    by_cases hc : r ≤ rankI c
    · rw [if_pos hc]
      have n4 : ¬ c = nI 40 := fun z => by subst z; rw [rank40] at hc; omega
      have n3 : ¬ c = nI 33 := fun z => by subst z; rw [rank33] at hc; omega
      refine Go.iload_n dX4_putPending_2 rfl ?_
      refine Go.bipush (v := nI 96) dX4_putPending_3 rfl ?_
      refine Go.icmp_ge_f (tgt := 44) dX4_putPending_5 (by decide) (nI_ge (by omega) (by decide)) ?_
      refine Go.aload_n dX4_putPending_8 rfl ?_
      refine Go.callVi 33 [] [] dX4_putPending_9 lkX4_137 (Or.inl ⟨_, _, _, rfl, rfl, rfl⟩) rfl (Nat.le_of_ble_eq_true rfl) rfl (Nat.le_of_ble_eq_true rfl) (c_topSign_1 h.1 (by omega) h.2.1.1) ?_
      refine Go.callSi [vI c] [] dX4_putPending_12 lkX4_143 rfl (Nat.le_of_ble_eq_true rfl) rfl (Nat.le_of_ble_eq_true rfl) (c_rankI c) ?_
      refine Go.at 15 rfl ?_
      refine Go.iload_n dX4_putPending_15 rfl ?_
      refine Go.icmp_lt_f (tgt := 44) dX4_putPending_16 (by decide) (by rw [sI_lt, nT, nT]; omega) ?_
      refine Go.aload_n dX4_putPending_19 rfl ?_
      refine Go.aload_n dX4_putPending_20 rfl ?_
      refine Go.callVi 33 [] [vR 33] dX4_putPending_21 lkX4_137 (Or.inl ⟨_, _, _, rfl, rfl, rfl⟩) rfl (Nat.le_of_ble_eq_true rfl) rfl (Nat.le_of_ble_eq_true rfl) (c_topSign_1 h.1 (by omega) h.2.1.1) ?_
      refine Go.ineg dX4_putPending_24 ?_
      refine Go.at 25 rfl ?_
      refine Go.callVv 33 [vI (-c)] [] dX4_putPending_25 lkX4_109 (Or.inl ⟨_, _, _, rfl, rfl, rfl⟩) rfl (Nat.le_of_ble_eq_true rfl) rfl (Nat.le_of_ble_eq_true rfl) (c_rput h.2.2.1 (by omega) (-c)) ?_
      refine Go.aload_n dX4_putPending_28 rfl ?_
      refine Go.dupR dX4_putPending_29 ?_
      refine Go.getI dX4_putPending_30 flX4_69 rfl ?_
      refine Go.topE (y := nI (P.length + 1)) (by simp (disch := omega) only [ms_self, ms_ne, upd_self, upd_ne]; exact h.1) ?_
      refine Go.iconst (v := nI 1) dX4_putPending_33 rfl ?_
      refine Go.isubN dX4_putPending_34 (by omega) ?_
      refine Go.topE (y := nI P.length) rfl ?_
      refine Go.at 35 rfl ?_
      refine Go.put dX4_putPending_35 flX4_69 rfl rfl rfl rfl ?_
      refine Go.iinc (v := nI (i + 1)) (ls' := [some (vR 33), some (vI (nI r)), some (vI (nI (i + 1)))]) dX4_putPending_38 rfl (nI_add _ _) (by decide) rfl ?_
      refine Go.goto (tgt := 2) dX4_putPending_41 (by decide) ?_
      exact c_putP_lp hr hr5 P (-c :: R) ok due (i + 1) _ (h.pop n4 n3) (((hf.a _ (Or.inl rfl)).f _ (by decide) (by decide) (by decide)).f _ (by decide) (by decide) (by decide)) (by simp only [List.length_cons]; omega) (by omega)
    · rw [if_neg hc]
      refine Go.iload_n dX4_putPending_2 rfl ?_
      refine Go.bipush (v := nI 96) dX4_putPending_3 rfl ?_
      refine Go.icmp_ge_f (tgt := 44) dX4_putPending_5 (by decide) (nI_ge (by omega) (by decide)) ?_
      refine Go.aload_n dX4_putPending_8 rfl ?_
      refine Go.callVi 33 [] [] dX4_putPending_9 lkX4_137 (Or.inl ⟨_, _, _, rfl, rfl, rfl⟩) rfl (Nat.le_of_ble_eq_true rfl) rfl (Nat.le_of_ble_eq_true rfl) (c_topSign_1 h.1 (by omega) h.2.1.1) ?_
      refine Go.callSi [vI c] [] dX4_putPending_12 lkX4_143 rfl (Nat.le_of_ble_eq_true rfl) rfl (Nat.le_of_ble_eq_true rfl) (c_rankI c) ?_
      refine Go.at 15 rfl ?_
      refine Go.iload_n dX4_putPending_15 rfl ?_
      refine Go.icmp_lt_t (tgt := 44) dX4_putPending_16 (by decide) (by rw [sI_lt, nT, nT]; omega) ?_
      refine Go.vreturn dX4_putPending_44 rfl ?_
      exact ⟨rfl, h, hf⟩
theorem c_putPending {V : VV} {d : Nat} {μ : Memo} {r : Nat} (hr : 1 ≤ r) (hr5 : r ≤ 5) {P R : List Int32} {ok : Nat} {due : Int32} (h : Rst μ P R ok due) (hl : P.length + R.length ≤ 96) : RetU V (d + 1) mX4_putPending [vR 33, vI (nI r)] μ (fun μ1 => Rst μ1 (putP r P R).1 (putP r P R).2 ok due ∧ FrR μ μ1) := by
  show Go V (d + 1) mX4_putPending 0 [some (vR 33), some (vI (nI r)), none] [] μ _
  refine Go.iconst (v := nI 0) dX4_putPending_0 rfl ?_
  refine Go.istore_n (ls' := [some (vR 33), some (vI (nI r)), some (vI (nI 0))]) dX4_putPending_1 (by decide) rfl ?_
  exact c_putP_lp hr hr5 P R ok due 0 _ h (FrR.rf _) hl (by omega)
theorem c_endP_lp {V : VV} {d : Nat} {μ0 : Memo} :
    ∀ (P R : List Int32) (ok : Nat) (due : Int32) (i : Nat) (μ : Memo), Rst μ P R ok due → FrR μ0 μ → P.length + R.length ≤ 96 → i + cntL (nI 33) P ≤ 8 → Go V (d + 1) mX4_endPiece 2 [some (vR 33), some (vI (nI i))] [] μ (fun r' μ1 => r' = none ∧ Rst μ1 (endP P R).1 (endP P R).2 ok (nI 0) ∧ FrR μ0 μ1)
  | [], R, ok, due, i, μ, h, hf, hl, hi => by
    by_cases h96 : i < 8
    · skip
      refine Go.iload_n dX4_endPiece_2 rfl ?_
      refine Go.bipush (v := nI 8) dX4_endPiece_3 rfl ?_
      refine Go.icmp_ge_f (tgt := 52) dX4_endPiece_5 (by decide) (nI_ge h96 (by decide)) ?_
      refine Go.aload_n dX4_endPiece_8 rfl ?_
      refine Go.callVi 33 [] [] dX4_endPiece_9 lkX4_137 (Or.inl ⟨_, _, _, rfl, rfl, rfl⟩) rfl (Nat.le_of_ble_eq_true rfl) rfl (Nat.le_of_ble_eq_true rfl) (c_topSign h.1 h.2.1 (by simp only [List.length_nil]; omega)) ?_
      refine Go.topE (y := nI 0) (by decide) ?_
      refine Go.bipush (v := nI 33) dX4_endPiece_12 rfl ?_
      refine Go.at 14 rfl ?_
      refine Go.icmp_ne_t (tgt := 52) dX4_endPiece_14 (by decide) (by decide) ?_
      refine Go.aload_n dX4_endPiece_52 rfl ?_
      refine Go.iconst (v := nI 0) dX4_endPiece_53 rfl ?_
      refine Go.put dX4_endPiece_54 flX4_45 rfl rfl rfl rfl ?_
      refine Go.vreturn dX4_endPiece_57 rfl ?_
      have hz : ∀ (P2 R2 : List Int32), Rst μ P2 R2 ok due → Rst (ms μ 33 11 (nI 0)) P2 R2 ok (nI 0) := fun P2 R2 g => ⟨by simp (disch := omega) only [ms_self, ms_ne, upd_self, upd_ne]; exact g.1, by simp (disch := omega) only [ms_self, ms_ne, upd_self, upd_ne]; exact g.2.1, by simp (disch := omega) only [ms_self, ms_ne, upd_self, upd_ne]; exact g.2.2.1, by simp (disch := omega) only [ms_self, ms_ne, upd_self, upd_ne]; exact g.2.2.2.1, by simp (disch := omega) only [ms_self, ms_ne, upd_self, upd_ne]; exact g.2.2.2.2.1, by simp (disch := omega) only [ms_self, ms_ne, upd_self, upd_ne]; exact g.2.2.2.2.2.1, by simp (disch := omega) only [ms_self, ms_ne, upd_self, upd_ne]; exact g.2.2.2.2.2.2.1, by simp (disch := omega) only [ms_self, ms_ne, upd_self, upd_ne]⟩
      exact ⟨rfl, hz _ _ h, hf.f _ (by decide) (by decide) (by decide)⟩
    · obtain rfl : i = 8 := by omega
      refine Go.iload_n dX4_endPiece_2 rfl ?_
      refine Go.bipush (v := nI 8) dX4_endPiece_3 rfl ?_
      refine Go.icmp_ge_t (tgt := 52) dX4_endPiece_5 (by decide) (by decide) ?_
      refine Go.aload_n dX4_endPiece_52 rfl ?_
      refine Go.iconst (v := nI 0) dX4_endPiece_53 rfl ?_
      refine Go.put dX4_endPiece_54 flX4_45 rfl rfl rfl rfl ?_
      refine Go.at 57 rfl ?_
      refine Go.vreturn dX4_endPiece_57 rfl ?_
      have hz : ∀ (P2 R2 : List Int32), Rst μ P2 R2 ok due → Rst (ms μ 33 11 (nI 0)) P2 R2 ok (nI 0) := fun P2 R2 g => ⟨by simp (disch := omega) only [ms_self, ms_ne, upd_self, upd_ne]; exact g.1, by simp (disch := omega) only [ms_self, ms_ne, upd_self, upd_ne]; exact g.2.1, by simp (disch := omega) only [ms_self, ms_ne, upd_self, upd_ne]; exact g.2.2.1, by simp (disch := omega) only [ms_self, ms_ne, upd_self, upd_ne]; exact g.2.2.2.1, by simp (disch := omega) only [ms_self, ms_ne, upd_self, upd_ne]; exact g.2.2.2.2.1, by simp (disch := omega) only [ms_self, ms_ne, upd_self, upd_ne]; exact g.2.2.2.2.2.1, by simp (disch := omega) only [ms_self, ms_ne, upd_self, upd_ne]; exact g.2.2.2.2.2.2.1, by simp (disch := omega) only [ms_self, ms_ne, upd_self, upd_ne]⟩
      exact ⟨rfl, hz _ _ h, hf.f _ (by decide) (by decide) (by decide)⟩
  | c :: P, R, ok, due, i, μ, h, hf, hl, hi => by
    have hl1 : P.length + 1 + R.length ≤ 96 := hl
    rw [endP]
    by_cases hc : c = nI 33
    · subst hc
      rw [if_pos rfl]
      rw [cntL, if_pos rfl] at hi
      refine Go.iload_n dX4_endPiece_2 rfl ?_
      refine Go.bipush (v := nI 8) dX4_endPiece_3 rfl ?_
      refine Go.icmp_ge_f (tgt := 52) dX4_endPiece_5 (by decide) (nI_ge (by omega) (by decide)) ?_
      refine Go.aload_n dX4_endPiece_8 rfl ?_
      refine Go.callVi 33 [] [] dX4_endPiece_9 lkX4_137 (Or.inl ⟨_, _, _, rfl, rfl, rfl⟩) rfl (Nat.le_of_ble_eq_true rfl) rfl (Nat.le_of_ble_eq_true rfl) (c_topSign_1 h.1 (by omega) h.2.1.1) ?_
      refine Go.bipush (v := nI 33) dX4_endPiece_12 rfl ?_
      refine Go.at 14 rfl ?_
      refine Go.icmp_ne_f (tgt := 52) dX4_endPiece_14 (by decide) (by decide) ?_
      refine Go.aload_n dX4_endPiece_17 rfl ?_
      refine Go.aload_n dX4_endPiece_18 rfl ?_
      refine Go.callVi 33 [] [vR 33] dX4_endPiece_19 lkX4_137 (Or.inl ⟨_, _, _, rfl, rfl, rfl⟩) rfl (Nat.le_of_ble_eq_true rfl) rfl (Nat.le_of_ble_eq_true rfl) (c_topSign_1 h.1 (by omega) h.2.1.1) ?_
      refine Go.ineg dX4_endPiece_22 ?_
      refine Go.callVv 33 [vI (-(nI 33))] [] dX4_endPiece_23 lkX4_109 (Or.inl ⟨_, _, _, rfl, rfl, rfl⟩) rfl (Nat.le_of_ble_eq_true rfl) rfl (Nat.le_of_ble_eq_true rfl) (c_rput h.2.2.1 (by omega) (-(nI 33))) ?_
      refine Go.at 26 rfl ?_
      refine Go.aload_n dX4_endPiece_26 rfl ?_
      refine Go.dupR dX4_endPiece_27 ?_
      refine Go.getI dX4_endPiece_28 flX4_69 rfl ?_
      refine Go.topE (y := nI (P.length + 1)) (by simp (disch := omega) only [ms_self, ms_ne, upd_self, upd_ne]; exact h.1) ?_
      refine Go.iconst (v := nI 1) dX4_endPiece_31 rfl ?_
      refine Go.isubN dX4_endPiece_32 (by omega) ?_
      refine Go.topE (y := nI P.length) rfl ?_
      refine Go.put dX4_endPiece_33 flX4_69 rfl rfl rfl rfl ?_
      refine Go.at 36 rfl ?_
      refine Go.aload_n dX4_endPiece_36 rfl ?_
      refine Go.dupR dX4_endPiece_37 ?_
      refine Go.getI dX4_endPiece_38 flX4_72 rfl ?_
      refine Go.topE (y := nI (cntL (nI 33) P + 1)) (by simp (disch := omega) only [ms_self, ms_ne, upd_self, upd_ne]; rw [h.2.2.2.2.2.1, cntL, if_pos rfl]) ?_
      refine Go.iconst (v := nI 1) dX4_endPiece_41 rfl ?_
      refine Go.isubN dX4_endPiece_42 (by omega) ?_
      refine Go.topE (y := nI (cntL (nI 33) P)) rfl ?_
      refine Go.put dX4_endPiece_43 flX4_72 rfl rfl rfl rfl ?_
      refine Go.at 46 rfl ?_
      refine Go.iinc (v := nI (i + 1)) (ls' := [some (vR 33), some (vI (nI (i + 1)))]) dX4_endPiece_46 rfl (nI_add _ _) (by decide) rfl ?_
      refine Go.goto (tgt := 2) dX4_endPiece_49 (by decide) ?_
      exact c_endP_lp P (-(nI 33) :: R) ok due (i + 1) _ h.pop33 ((((hf.a _ (Or.inl rfl)).f _ (by decide) (by decide) (by decide)).f _ (by decide) (by decide) (by decide)).f _ (by decide) (by decide) (by decide)) (by simp only [List.length_cons]; omega) (by omega)
    · rw [if_neg hc]
      by_cases h96 : i < 8
      · skip
        refine Go.iload_n dX4_endPiece_2 rfl ?_
        refine Go.bipush (v := nI 8) dX4_endPiece_3 rfl ?_
        refine Go.icmp_ge_f (tgt := 52) dX4_endPiece_5 (by decide) (nI_ge h96 (by decide)) ?_
        refine Go.aload_n dX4_endPiece_8 rfl ?_
        refine Go.callVi 33 [] [] dX4_endPiece_9 lkX4_137 (Or.inl ⟨_, _, _, rfl, rfl, rfl⟩) rfl (Nat.le_of_ble_eq_true rfl) rfl (Nat.le_of_ble_eq_true rfl) (c_topSign_1 h.1 (by omega) h.2.1.1) ?_
        refine Go.bipush (v := nI 33) dX4_endPiece_12 rfl ?_
        refine Go.at 14 rfl ?_
        refine Go.icmp_ne_t (tgt := 52) dX4_endPiece_14 (by decide) hc ?_
        refine Go.aload_n dX4_endPiece_52 rfl ?_
        refine Go.iconst (v := nI 0) dX4_endPiece_53 rfl ?_
        refine Go.put dX4_endPiece_54 flX4_45 rfl rfl rfl rfl ?_
        refine Go.vreturn dX4_endPiece_57 rfl ?_
        have hz : ∀ (P2 R2 : List Int32), Rst μ P2 R2 ok due → Rst (ms μ 33 11 (nI 0)) P2 R2 ok (nI 0) := fun P2 R2 g => ⟨by simp (disch := omega) only [ms_self, ms_ne, upd_self, upd_ne]; exact g.1, by simp (disch := omega) only [ms_self, ms_ne, upd_self, upd_ne]; exact g.2.1, by simp (disch := omega) only [ms_self, ms_ne, upd_self, upd_ne]; exact g.2.2.1, by simp (disch := omega) only [ms_self, ms_ne, upd_self, upd_ne]; exact g.2.2.2.1, by simp (disch := omega) only [ms_self, ms_ne, upd_self, upd_ne]; exact g.2.2.2.2.1, by simp (disch := omega) only [ms_self, ms_ne, upd_self, upd_ne]; exact g.2.2.2.2.2.1, by simp (disch := omega) only [ms_self, ms_ne, upd_self, upd_ne]; exact g.2.2.2.2.2.2.1, by simp (disch := omega) only [ms_self, ms_ne, upd_self, upd_ne]⟩
        exact ⟨rfl, hz _ _ h, hf.f _ (by decide) (by decide) (by decide)⟩
      · obtain rfl : i = 8 := by omega
        refine Go.iload_n dX4_endPiece_2 rfl ?_
        refine Go.bipush (v := nI 8) dX4_endPiece_3 rfl ?_
        refine Go.icmp_ge_t (tgt := 52) dX4_endPiece_5 (by decide) (by decide) ?_
        refine Go.aload_n dX4_endPiece_52 rfl ?_
        refine Go.iconst (v := nI 0) dX4_endPiece_53 rfl ?_
        refine Go.put dX4_endPiece_54 flX4_45 rfl rfl rfl rfl ?_
        refine Go.at 57 rfl ?_
        refine Go.vreturn dX4_endPiece_57 rfl ?_
        have hz : ∀ (P2 R2 : List Int32), Rst μ P2 R2 ok due → Rst (ms μ 33 11 (nI 0)) P2 R2 ok (nI 0) := fun P2 R2 g => ⟨by simp (disch := omega) only [ms_self, ms_ne, upd_self, upd_ne]; exact g.1, by simp (disch := omega) only [ms_self, ms_ne, upd_self, upd_ne]; exact g.2.1, by simp (disch := omega) only [ms_self, ms_ne, upd_self, upd_ne]; exact g.2.2.1, by simp (disch := omega) only [ms_self, ms_ne, upd_self, upd_ne]; exact g.2.2.2.1, by simp (disch := omega) only [ms_self, ms_ne, upd_self, upd_ne]; exact g.2.2.2.2.1, by simp (disch := omega) only [ms_self, ms_ne, upd_self, upd_ne]; exact g.2.2.2.2.2.1, by simp (disch := omega) only [ms_self, ms_ne, upd_self, upd_ne]; exact g.2.2.2.2.2.2.1, by simp (disch := omega) only [ms_self, ms_ne, upd_self, upd_ne]⟩
        exact ⟨rfl, hz _ _ h, hf.f _ (by decide) (by decide) (by decide)⟩
theorem c_endPiece {V : VV} {d : Nat} {μ : Memo} {P R : List Int32} {ok : Nat} {due : Int32} (h : Rst μ P R ok due) (hl : P.length + R.length ≤ 96) (h8 : cntL (nI 33) P ≤ 8) : RetU V (d + 1) mX4_endPiece [vR 33] μ (fun μ1 => Rst μ1 (endP P R).1 (endP P R).2 ok (nI 0) ∧ FrR μ μ1) := by
  show Go V (d + 1) mX4_endPiece 0 [some (vR 33), none] [] μ _
  refine Go.iconst (v := nI 0) dX4_endPiece_0 rfl ?_
  refine Go.istore_n (ls' := [some (vR 33), some (vI (nI 0))]) dX4_endPiece_1 (by decide) rfl ?_
  exact c_endP_lp P R ok due 0 _ h (FrR.rf _) hl (by omega)
