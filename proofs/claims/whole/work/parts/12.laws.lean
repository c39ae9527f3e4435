/-! ===== laws: which one counts, what one gives ===== -/
def lawN (s : Nat → Int32) (key : Int32) : Nat → Option Nat
  | 0 => none
  | n + 1 => if s (147 + 200 * n) = key then some n else lawN s key n
def oI (o : Option Nat) : Int32 := match o with
  | none => (-1)
  | some t => nI t
theorem lawN_lt {s : Nat → Int32} {key : Int32} : ∀ {n t : Nat}, lawN s key n = some t → t < n ∧ s (147 + 200 * t) = key
  | 0, t, h => by cases h
  | n + 1, t, h => by
    unfold lawN at h
    split at h
    · cases h; exact ⟨by omega, by assumption⟩
    · have := lawN_lt h; exact ⟨by omega, this.2⟩

theorem m_textAt {V : VV} {d : Nat} {μ : Memo} (t : Nat) : Ret V (d) mX9_textAt [vR 76, vI (nI t)] μ (some (vI (nI (147 + (200 * t))))) μ := by
  show Go V (d) mX9_textAt 0 [some (vR 76), some (vI (nI t))] [] μ _
  refine Go.sipush (v := nI 147) dX9_textAt_0 rfl ?_
  refine Go.sipush (v := nI 200) dX9_textAt_3 rfl ?_
  refine Go.iload_n dX9_textAt_6 rfl ?_
  refine Go.imulN dX9_textAt_7 ?_
  refine Go.iaddN dX9_textAt_8 ?_
  refine Go.ireturn .int dX9_textAt_9 rfl rfl ?_
  exact ⟨rfl, rfl⟩
theorem m_of {V : VV} {d : Nat} {μ : Memo} {s : Nat → Int32} (hs : μ 77 = s) (c w : Nat) (hc : c < 30) (hw : w < 4) : Ret V (d) mX9_of [vR 76, vI (nI c), vI (nI w)] μ (some (vI (s (11 + 4 * c + w)))) μ := by
  show Go V (d) mX9_of 0 [some (vR 76), some (vI (nI c)), some (vI (nI w))] [] μ _
  refine Go.aload_n dX9_of_0 rfl ?_
  refine Go.getR dX9_of_1 flX9_7 rfl ?_
  refine Go.bipush (v := nI 11) dX9_of_4 rfl ?_
  refine Go.iconst (v := nI 4) dX9_of_6 rfl ?_
  refine Go.iload_n dX9_of_7 rfl ?_
  refine Go.imulN dX9_of_8 ?_
  refine Go.at 9 rfl ?_
  refine Go.iaddN dX9_of_9 ?_
  refine Go.iload_n dX9_of_10 rfl ?_
  refine Go.iaddN dX9_of_11 ?_
  refine Go.iaload ((11 + (4 * c)) + w) dX9_of_12 rfl (by omega) rfl ?_
  refine Go.topE (s ((11 + (4 * c)) + w)) (congrFun hs _) ?_
  refine Go.ireturn .int dX9_of_13 rfl rfl ?_
  exact ⟨rfl, rfl⟩
theorem m_counts_lp {V : VV} {d : Nat} {μ : Memo} {s : Nat → Int32} (hs : μ 77 = s) {n : Nat} (hn : s 1 = nI n) (hn14 : n ≤ 14) (key : Int32) :
    ∀ (j i : Nat), i + j = n → Go V (d + 1) mX9_counts 4 [some (vR 76), some (vI key), some (vI (oI (lawN s key i))), some (vI (nI i))] [] μ (fun r' μ'' => r' = some (vI (oI (lawN s key n))) ∧ μ'' = μ)
  | 0, i, h => by
    obtain rfl : i = n := by omega
    refine Go.iload_n dX9_counts_4 rfl ?_
    refine Go.aload_n dX9_counts_5 rfl ?_
    refine Go.getR dX9_counts_6 flX9_7 rfl ?_
    refine Go.iconst (v := nI 1) dX9_counts_9 rfl ?_
    
    refine Go.iaload 1 dX9_counts_10 rfl (by omega) rfl ?_
    refine Go.topE (y := nI i) ((congrFun hs _).trans hn) ?_
    refine Go.icmp_ge_t (tgt := 40) dX9_counts_11 (by decide) (nI_le (by omega) (by omega)) ?_
    refine Go.at 40 rfl ?_
    refine Go.iload_n dX9_counts_40 rfl ?_
    refine Go.ireturn .int dX9_counts_41 rfl rfl ?_
    exact ⟨rfl, rfl⟩
  | j + 1, i, h => by
    have hi : i < n := by omega
    refine Go.iload_n dX9_counts_4 rfl ?_
    refine Go.aload_n dX9_counts_5 rfl ?_
    refine Go.getR dX9_counts_6 flX9_7 rfl ?_
    refine Go.iconst (v := nI 1) dX9_counts_9 rfl ?_
    refine Go.iaload 1 dX9_counts_10 rfl (by omega) rfl ?_
    refine Go.topE (y := nI n) ((congrFun hs _).trans hn) ?_
    refine Go.icmp_ge_f (tgt := 40) dX9_counts_11 (by decide) (nI_ge hi (by omega)) ?_
    refine Go.at 14 rfl ?_
    refine Go.aload_n dX9_counts_14 rfl ?_
    refine Go.getR dX9_counts_15 flX9_7 rfl ?_
    refine Go.aload_n dX9_counts_18 rfl ?_
    refine Go.iload_n dX9_counts_19 rfl ?_
    refine Go.callVi 76 [vI (nI i)] [vR 77] dX9_counts_20 lkX9_267 (Or.inl ⟨_, _, _, rfl, rfl, rfl⟩) rfl (Nat.le_of_ble_eq_true rfl) rfl (Nat.le_of_ble_eq_true rfl) (m_textAt i) ?_
    refine Go.iaload (147 + (200 * i)) dX9_counts_23 rfl (by omega) rfl ?_
    refine Go.topE (y := s (147 + 200 * i)) (congrFun hs _) ?_
    refine Go.at 24 rfl ?_
    refine Go.iload_n dX9_counts_24 rfl ?_
    refine Go.icmp_ne (tgt := 32) dX9_counts_25 (by decide) (fun h25 => ?_) (fun h25 => ?_)
    · -- 25 taken
      refine Go.iload_n dX9_counts_32 rfl ?_
      refine Go.istore_n (ls' := [some (vR 76), some (vI key), some (vI (oI (lawN s key i))), some (vI (nI i))]) dX9_counts_33 (by decide) rfl ?_
      refine Go.iinc (v := nI (i + 1)) (ls' := [some (vR 76), some (vI key), some (vI (oI (lawN s key i))), some (vI (nI (i + 1)))]) dX9_counts_34 rfl (nI_add _ _) (by decide) rfl ?_
      refine Go.goto (tgt := 4) dX9_counts_37 (by decide) ?_
      refine Go.mask [true, true, true, true] rfl ?_
      rw [show oI (lawN s key i) = oI (lawN s key (i + 1)) from (by simp [lawN, h25, oI])]
      exact m_counts_lp hs hn hn14 key j (i + 1) (by omega)
    · -- 25 not
      refine Go.iload_n dX9_counts_28 rfl ?_
      refine Go.goto (tgt := 33) dX9_counts_29 (by decide) ?_
      refine Go.istore_n (ls' := [some (vR 76), some (vI key), some (vI (nI i)), some (vI (nI i))]) dX9_counts_33 (by decide) rfl ?_
      refine Go.iinc (v := nI (i + 1)) (ls' := [some (vR 76), some (vI key), some (vI (nI i)), some (vI (nI (i + 1)))]) dX9_counts_34 rfl (nI_add _ _) (by decide) rfl ?_
      refine Go.goto (tgt := 4) dX9_counts_37 (by decide) ?_
      refine Go.mask [true, true, true, true] rfl ?_
      rw [show nI i = oI (lawN s key (i + 1)) from (by simp [lawN, h25, oI])]
      exact m_counts_lp hs hn hn14 key j (i + 1) (by omega)
theorem m_counts {V : VV} {d : Nat} {μ : Memo} {s : Nat → Int32} (hs : μ 77 = s) {n : Nat} (hn : s 1 = nI n) (hn14 : n ≤ 14) (key : Int32) : Ret V (d + 1) mX9_counts [vR 76, vI key] μ (some (vI (oI (lawN s key n)))) μ := by
  show Go V (d + 1) mX9_counts 0 [some (vR 76), some (vI key), none, none] [] μ _
  refine Go.iconst (v := (-1)) dX9_counts_0 rfl ?_
  refine Go.istore_n (ls' := [some (vR 76), some (vI key), some (vI (-1)), none]) dX9_counts_1 (by decide) rfl ?_
  refine Go.iconst (v := nI 0) dX9_counts_2 rfl ?_
  refine Go.istore_n (ls' := [some (vR 76), some (vI key), some (vI (-1)), some (vI (nI 0))]) dX9_counts_3 (by decide) rfl ?_
  exact m_counts_lp hs hn hn14 key n 0 (by omega)
