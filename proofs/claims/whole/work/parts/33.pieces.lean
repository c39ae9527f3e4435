def dgN (a c : Nat) : Nat := a * 10 + c - 48
def numG (f : Nat → Nat → Nat) (B : Nat → Nat) : Nat → Nat → Nat → Nat
  | 0, a, _ => a
  | j + 1, a, i => numG f B j (f a (B i)) (i + 1)
theorem numG_0 (f : Nat → Nat → Nat) (B : Nat → Nat) (a i : Nat) : numG f B 0 a i = a := rfl
theorem numG_s (f : Nat → Nat → Nat) (B : Nat → Nat) (a i j : Nat) : numG f B (j + 1) a i = numG f B j (f a (B i)) (i + 1) := rfl
def numN (B : Nat → Nat) (a i j : Nat) : Nat := numG dgN B j a i
theorem numN_0 (B : Nat → Nat) (a i : Nat) : numN B a i 0 = a := numG_0 dgN B a i
theorem numN_s (B : Nat → Nat) (a i j : Nat) : numN B a i (j + 1) = numN B (dgN a (B i)) (i + 1) j := numG_s dgN B a i j
def nmF (key c : Nat) : Option Nat := if key = 0 then (if c = 104 then some 0 else if c = 100 then some 1 else if c = 115 then some 2 else none) else if key = 1 then (if c = 99 then some 0 else if c = 104 then some 1 else none) else (if c = 116 then some 0 else if c = 104 then some 1 else none)
abbrev flw (N : Nat) (B : Nat → Nat) (b : Nat) : Prop := 1 ≤ b ∧ (srt N B (b - 1) = 2 ∨ srt N B (b - 1) = 3)
theorem srt_dig {N : Nat} {B : Nat → Nat} {j : Nat} (h : srt N B j = 3) : 48 ≤ B j ∧ B j ≤ 57 := by
  unfold srt at h
  revert h; (repeat' split) <;> intro h <;> first | omega | assumption
theorem srt_let {N : Nat} {B : Nat → Nat} {j : Nat} (h : srt N B j = 2) : 97 ≤ B j ∧ B j ≤ 122 := by
  unfold srt at h
  revert h; (repeat' split) <;> intro h <;> first | omega | assumption
theorem i2c_n {c : Nat} (h : c < 256) : ((nI c).toUInt32 % 65536).toInt32 = nI c := by
  apply Int32.toBitVec_inj.mp
  apply BitVec.eq_of_toNat_eq
  have e : (((nI c).toUInt32 % 65536).toInt32).toBitVec.toNat = (BitVec.ofNat 32 c).toNat % 65536 := rfl
  have e2 : (nI c).toBitVec.toNat = (BitVec.ofNat 32 c).toNat := rfl
  rw [e, e2, BitVec.toNat_ofNat]; omega
theorem i2b_n {c k : Nat} (h : c < 256) (hk : k < 128) : (nI c).toInt8.toInt32 = nI k ↔ c = k := by
  have e : ((nI c).toInt8.toInt32).toInt = Int.bmod (c : Int) 256 := by
    rw [Int8.toInt_toInt32, Int32.toInt_toInt8, nT, Int.bmod_def]
    rw [Int.bmod_def]
    split <;> split <;> omega
  rw [sI_eq, e, nT, Int.bmod_def]
  constructor
  · intro z; split at z <;> omega
  · intro z; subst z; split <;> omega
theorem c_followsWord {V : VV} {d : Nat} {μ : Memo} {N : Nat} {B : Nat → Nat} (hT : TpC μ N B) {b : Nat} (hb : b ≤ N) (h5 : μ 33 5 = nI b) : Ret V (d + 1) mX4_followsWord [vR 33] μ (some (vI (bI (flw N B b)))) μ := by
  show Go V (d + 1) mX4_followsWord 0 [some (vR 33), none] [] μ _
  have hN := hT.1
  by_cases h0 : b = 0
  · subst h0
    refine Go.aload_n dX4_followsWord_0 rfl ?_
    refine Go.getR dX4_followsWord_1 flX4_18 rfl ?_
    refine Go.aload_n dX4_followsWord_4 rfl ?_
    refine Go.getI dX4_followsWord_5 flX4_34 rfl ?_
    refine Go.topE (y := nI 0) h5 ?_
    refine Go.iconst (v := nI 1) dX4_followsWord_8 rfl ?_
    refine Go.isub dX4_followsWord_9 ?_
    refine Go.topE (y := (-1)) (by decide) ?_
    refine Go.at 10 rfl ?_
    refine Go.callVi 31 [vI (-1)] [] dX4_followsWord_10 lkX4_78 (Or.inl ⟨_, _, _, rfl, rfl, rfl⟩) rfl (Nat.le_of_ble_eq_true rfl) rfl (Nat.le_of_ble_eq_true rfl) c_sortAt_neg ?_
    refine Go.istore_n (ls' := [some (vR 33), some (vI (nI 0))]) dX4_followsWord_13 (by decide) rfl ?_
    refine Go.iload_n dX4_followsWord_14 rfl ?_
    refine Go.iconst (v := nI 2) dX4_followsWord_15 rfl ?_
    refine Go.icmp_eq_f (tgt := 24) dX4_followsWord_16 (by decide) (by decide) ?_
    refine Go.iload_n dX4_followsWord_19 rfl ?_
    refine Go.at 20 rfl ?_
    refine Go.iconst (v := nI 3) dX4_followsWord_20 rfl ?_
    refine Go.icmp_ne_t (tgt := 28) dX4_followsWord_21 (by decide) (by decide) ?_
    refine Go.iconst (v := nI 0) dX4_followsWord_28 rfl ?_
    refine Go.ireturn .boolean dX4_followsWord_29 rfl rfl ?_
    exact ⟨congrArg (fun z => some (vI z)) (bI_f (fun z => absurd z.1 (by omega))).symm, rfl⟩
  · have hs4 := srt_le (N := N) (B := B) (b - 1)
    refine Go.aload_n dX4_followsWord_0 rfl ?_
    refine Go.getR dX4_followsWord_1 flX4_18 rfl ?_
    refine Go.aload_n dX4_followsWord_4 rfl ?_
    refine Go.getI dX4_followsWord_5 flX4_34 rfl ?_
    refine Go.topE (y := nI b) h5 ?_
    refine Go.iconst (v := nI 1) dX4_followsWord_8 rfl ?_
    refine Go.isubN dX4_followsWord_9 (by omega) ?_
    refine Go.at 10 rfl ?_
    refine Go.callVi 31 [vI (nI (b - 1))] [] dX4_followsWord_10 lkX4_78 (Or.inl ⟨_, _, _, rfl, rfl, rfl⟩) rfl (Nat.le_of_ble_eq_true rfl) rfl (Nat.le_of_ble_eq_true rfl) (c_sortAt hT (b - 1) (by omega)) ?_
    refine Go.istore_n (ls' := [some (vR 33), some (vI (nI (srt N B (b - 1))))]) dX4_followsWord_13 (by decide) rfl ?_
    refine Go.iload_n dX4_followsWord_14 rfl ?_
    refine Go.iconst (v := nI 2) dX4_followsWord_15 rfl ?_
    refine Go.icmp_eq (tgt := 24) dX4_followsWord_16 (by decide) (fun h16 => ?_) (fun h16 => ?_)
    · -- 16 taken
      refine Go.iconst (v := nI 1) dX4_followsWord_24 rfl ?_
      refine Go.goto (tgt := 29) dX4_followsWord_25 (by decide) ?_
      refine Go.ireturn .boolean dX4_followsWord_29 rfl rfl ?_
      exact ⟨congrArg (fun z => some (vI z)) (bI_t ⟨by omega, by first | (rw [sI_eq, nT, nT] at h16; omega) | (rw [sI_eq, nT, nT] at h21; omega)⟩).symm, rfl⟩
    · -- 16 not
      refine Go.iload_n dX4_followsWord_19 rfl ?_
      refine Go.iconst (v := nI 3) dX4_followsWord_20 rfl ?_
      refine Go.icmp_ne (tgt := 28) dX4_followsWord_21 (by decide) (fun h21 => ?_) (fun h21 => ?_)
      · -- 21 taken
        refine Go.iconst (v := nI 0) dX4_followsWord_28 rfl ?_
        refine Go.ireturn .boolean dX4_followsWord_29 rfl rfl ?_
        exact ⟨congrArg (fun z => some (vI z)) (bI_f (fun z => by rw [sI_eq, nT, nT] at h16 h21; have := z.2; omega)).symm, rfl⟩
      · -- 21 not
        refine Go.iconst (v := nI 1) dX4_followsWord_24 rfl ?_
        refine Go.goto (tgt := 29) dX4_followsWord_25 (by decide) ?_
        refine Go.ireturn .boolean dX4_followsWord_29 rfl rfl ?_
        exact ⟨congrArg (fun z => some (vI z)) (bI_t ⟨by omega, by first | (rw [sI_eq, nT, nT] at h16; omega) | (rw [sI_eq, nT, nT] at h21; omega)⟩).symm, rfl⟩
theorem numN_lt {N : Nat} {B : Nat → Nat} : ∀ (j a i : Nat), (∀ t, t < j → 48 ≤ B (i + t) ∧ B (i + t) ≤ 57) → numN B a i j + 1 ≤ (a + 1) * 10 ^ j
  | 0, a, i, _ => by rw [numN_0]; exact Nat.le_of_eq (Nat.mul_one _).symm
  | j + 1, a, i, h => by
    rw [numN_s]
    have h0 := h 0 (by omega)
    have ih := numN_lt (N := N) (B := B) j (dgN a (B i)) (i + 1) (fun t ht => by have := h (t + 1) (by omega); rw [show i + 1 + t = i + (t + 1) by omega]; exact this)
    rw [Nat.add_zero] at h0
    have : (dgN a (B i) + 1) * 10 ^ j ≤ ((a + 1) * 10) * 10 ^ j := Nat.mul_le_mul_right _ (by unfold dgN; omega)
    rw [Nat.pow_succ, Nat.mul_comm (10 ^ j) 10, ← Nat.mul_assoc]
    omega
theorem c_num_lp {V : VV} {d : Nat} {μ : Memo} {N : Nat} {B : Nat → Nat} (hT : TpC μ N B) {e : Nat} (heN : e ≤ N) (h6 : μ 33 6 = nI e) :
    ∀ (j i a : Nat), i + j = e → (∀ t, t < j → 48 ≤ B (i + t) ∧ B (i + t) ≤ 57) → Go V (d + 1) mX4_numberHere 23 [some (vR 33), some (vI (nI a)), some (vI (nI i))] [] μ (fun r' μ1 => r' = some (vI (nI (numN B a i j))) ∧ μ1 = μ)
  | 0, i, a, hij, hd => by
    obtain rfl : i = e := by omega
    rw [numN_0]
    refine Go.iload_n dX4_numberHere_23 rfl ?_
    refine Go.aload_n dX4_numberHere_24 rfl ?_
    refine Go.getI dX4_numberHere_25 flX4_75 rfl ?_
    refine Go.topE (y := nI i) h6 ?_
    refine Go.icmp_ge_t (tgt := 54) dX4_numberHere_28 (by decide) (by rw [sI_le]; exact Int.le_refl _) ?_
    refine Go.iload_n dX4_numberHere_54 rfl ?_
    refine Go.ireturn .int dX4_numberHere_55 rfl rfl ?_
    exact ⟨rfl, rfl⟩
  | j + 1, i, a, hij, hd => by
    have hN := hT.1
    have h0 := hd 0 (by omega)
    rw [Nat.add_zero] at h0
    rw [numN_s]
    refine Go.iload_n dX4_numberHere_23 rfl ?_
    refine Go.aload_n dX4_numberHere_24 rfl ?_
    refine Go.getI dX4_numberHere_25 flX4_75 rfl ?_
    refine Go.topE (y := nI e) h6 ?_
    refine Go.icmp_ge_f (tgt := 54) dX4_numberHere_28 (by decide) (nI_ge (by omega) (by omega)) ?_
    refine Go.iload_n dX4_numberHere_31 rfl ?_
    refine Go.bipush (v := nI 10) dX4_numberHere_32 rfl ?_
    refine Go.at 34 rfl ?_
    refine Go.imulN dX4_numberHere_34 ?_
    refine Go.aload_n dX4_numberHere_35 rfl ?_
    refine Go.getR dX4_numberHere_36 flX4_18 rfl ?_
    refine Go.iload_n dX4_numberHere_39 rfl ?_
    refine Go.callVi 31 [vI (nI i)] [vI (nI (a * 10))] dX4_numberHere_40 lkX4_96 (Or.inl ⟨_, _, _, rfl, rfl, rfl⟩) rfl (Nat.le_of_ble_eq_true rfl) rfl (Nat.le_of_ble_eq_true rfl) (c_byteAt hT i (by omega)) ?_
    refine Go.iaddN dX4_numberHere_43 ?_
    refine Go.at 44 rfl ?_
    refine Go.bipush (v := nI 48) dX4_numberHere_44 rfl ?_
    refine Go.isubN dX4_numberHere_46 (by omega) ?_
    refine Go.istore_n (ls' := [some (vR 33), some (vI (nI (((a * 10) + (B i)) - 48))), some (vI (nI i))]) dX4_numberHere_47 (by decide) rfl ?_
    refine Go.iinc (v := nI (i + 1)) (ls' := [some (vR 33), some (vI (nI (((a * 10) + (B i)) - 48))), some (vI (nI (i + 1)))]) dX4_numberHere_48 rfl (nI_add _ _) (by decide) rfl ?_
    refine Go.goto (tgt := 23) dX4_numberHere_51 (by decide) ?_
    exact c_num_lp hT heN h6 j (i + 1) (dgN a (B i)) (by omega) (fun t ht => by have := hd (t + 1) (by omega); rw [show i + 1 + t = i + (t + 1) by omega]; exact this)
theorem c_numberHere {V : VV} {d : Nat} {μ : Memo} {N : Nat} {B : Nat → Nat} (hT : TpC μ N B) {b e : Nat} (hbe : b ≤ e) (heN : e ≤ N) (h5 : μ 33 5 = nI b) (h6 : μ 33 6 = nI e) (hd : ∀ t, t < e - b → 48 ≤ B (b + t) ∧ B (b + t) ≤ 57) : Ret V (d + 1) mX4_numberHere [vR 33] μ (some (vI (if e - b ≤ 4 then nI (numN B 0 b (e - b)) else (-1000000005)))) μ := by
  show Go V (d + 1) mX4_numberHere 0 [some (vR 33), none, none] [] μ _
  have hN := hT.1
  by_cases h4 : e - b ≤ 4
  · rw [if_pos h4]
    refine Go.aload_n dX4_numberHere_0 rfl ?_
    refine Go.getI dX4_numberHere_1 flX4_75 rfl ?_
    refine Go.topE (y := nI e) h6 ?_
    refine Go.aload_n dX4_numberHere_4 rfl ?_
    refine Go.getI dX4_numberHere_5 flX4_34 rfl ?_
    refine Go.topE (y := nI b) h5 ?_
    refine Go.isubN dX4_numberHere_8 hbe ?_
    refine Go.iconst (v := nI 4) dX4_numberHere_9 rfl ?_
    refine Go.at 10 rfl ?_
    refine Go.icmp_le_t (tgt := 16) dX4_numberHere_10 (by decide) (by rw [sI_le, nT, nT]; omega) ?_
    refine Go.iconst (v := nI 0) dX4_numberHere_16 rfl ?_
    refine Go.istore_n (ls' := [some (vR 33), some (vI (nI 0)), none]) dX4_numberHere_17 (by decide) rfl ?_
    refine Go.aload_n dX4_numberHere_18 rfl ?_
    refine Go.getI dX4_numberHere_19 flX4_34 rfl ?_
    refine Go.topE (y := nI b) h5 ?_
    refine Go.istore_n (ls' := [some (vR 33), some (vI (nI 0)), some (vI (nI b))]) dX4_numberHere_22 (by decide) rfl ?_
    refine Go.at 23 rfl ?_
    exact c_num_lp hT heN h6 (e - b) b 0 (by omega) hd
  · rw [if_neg h4]
    refine Go.aload_n dX4_numberHere_0 rfl ?_
    refine Go.getI dX4_numberHere_1 flX4_75 rfl ?_
    refine Go.topE (y := nI e) h6 ?_
    refine Go.aload_n dX4_numberHere_4 rfl ?_
    refine Go.getI dX4_numberHere_5 flX4_34 rfl ?_
    refine Go.topE (y := nI b) h5 ?_
    refine Go.isubN dX4_numberHere_8 hbe ?_
    refine Go.iconst (v := nI 4) dX4_numberHere_9 rfl ?_
    refine Go.at 10 rfl ?_
    refine Go.icmp_le_f (tgt := 16) dX4_numberHere_10 (by decide) (by rw [sI_le, nT, nT]; omega) ?_
    refine Go.ldc dX4_numberHere_13 cnX4_33 ?_
    refine Go.ireturn .int dX4_numberHere_15 rfl rfl ?_
    exact ⟨rfl, rfl⟩
theorem c_canEnc_3 {V : VV} {d : Nat} {μ : Memo} (c : Nat) (h : c < 256) : Ret V (d) mJ1_canEncode_9a6ad [vI (nI c)] μ (some (vI (nI 1))) μ := by
  show Go V (d) mJ1_canEncode_9a6ad 0 [some (vI (nI c))] [] μ _
  refine Go.iload_n dJ1_canEncode_9a6ad_0 rfl ?_
  refine Go.if_lt_f (tgt := 15) dJ1_canEncode_9a6ad_1 (by decide) (nI_pos (by omega)) ?_
  refine Go.iload_n dJ1_canEncode_9a6ad_4 rfl ?_
  refine Go.sipush (v := nI 255) dJ1_canEncode_9a6ad_5 rfl ?_
  refine Go.icmp_gt_f (tgt := 15) dJ1_canEncode_9a6ad_8 (by decide) (by rw [sI_lt, nT, nT]; omega) ?_
  refine Go.iconst (v := nI 1) dJ1_canEncode_9a6ad_11 rfl ?_
  refine Go.at 12 rfl ?_
  refine Go.goto (tgt := 16) dJ1_canEncode_9a6ad_12 (by decide) ?_
  refine Go.ireturn .boolean dJ1_canEncode_9a6ad_16 rfl rfl ?_
  exact ⟨rfl, rfl⟩
theorem c_idxL_3 {V : VV} {d : Nat} {μ : Memo} (c : Nat) (h : c < 256) : Ret V d mJ1_indexOfChar_4cfef [vR 214, vI (nI c), vI (nI 0), vI (nI 3)] μ (some (vI (oI (nmF 0 c)))) μ := by
  show Go V d mJ1_indexOfChar_4cfef 0 [some (vR 214), some (vI (nI c)), some (vI (nI 0)), some (vI (nI 3)), none, none] [] μ _
  refine Go.iload_n dJ1_indexOfChar_4cfef_0 rfl ?_
  refine Go.i2b dJ1_indexOfChar_4cfef_1 ?_
  refine Go.istore (ls' := [some (vR 214), some (vI (nI c)), some (vI (nI 0)), some (vI (nI 3)), some (vI ((nI c).toInt8.toInt32)), none]) dJ1_indexOfChar_4cfef_2 (by decide) rfl ?_
  refine Go.iload_n dJ1_indexOfChar_4cfef_4 rfl ?_
  refine Go.istore (ls' := [some (vR 214), some (vI (nI c)), some (vI (nI 0)), some (vI (nI 3)), some (vI ((nI c).toInt8.toInt32)), some (vI (nI 0))]) dJ1_indexOfChar_4cfef_5 (by decide) rfl ?_
  refine Go.iload dJ1_indexOfChar_4cfef_7 rfl ?_
  refine Go.at 9 rfl ?_
  refine Go.iload_n dJ1_indexOfChar_4cfef_9 rfl ?_
  refine Go.icmp_ge_f (tgt := 31) dJ1_indexOfChar_4cfef_10 (by decide) (by decide) ?_
  refine Go.aload_n dJ1_indexOfChar_4cfef_13 rfl ?_
  refine Go.iload dJ1_indexOfChar_4cfef_14 rfl ?_
  refine Go.baload 3 0 dJ1_indexOfChar_4cfef_16 (by decide) (by decide) rfl ?_
  refine Go.topE (y := nI 104) (by decide) ?_
  refine Go.iload dJ1_indexOfChar_4cfef_17 rfl ?_
  refine Go.at 19 rfl ?_
  refine Go.icmp_ne (tgt := 25) dJ1_indexOfChar_4cfef_19 (by decide) (fun g0_ => ?_) (fun g0_ => ?_)
  · -- 19 taken
    have g0 : ¬ (nI c).toInt8.toInt32 = nI 104 := fun z => g0_ z.symm
    refine Go.iinc (v := nI 1) (ls' := [some (vR 214), some (vI (nI c)), some (vI (nI 0)), some (vI (nI 3)), some (vI ((nI c).toInt8.toInt32)), some (vI (nI 1))]) dJ1_indexOfChar_4cfef_25 rfl (by decide) (by decide) rfl ?_
    refine Go.goto (tgt := 7) dJ1_indexOfChar_4cfef_28 (by decide) ?_
    refine Go.iload dJ1_indexOfChar_4cfef_7 rfl ?_
    refine Go.iload_n dJ1_indexOfChar_4cfef_9 rfl ?_
    refine Go.icmp_ge_f (tgt := 31) dJ1_indexOfChar_4cfef_10 (by decide) (by decide) ?_
    refine Go.aload_n dJ1_indexOfChar_4cfef_13 rfl ?_
    refine Go.at 14 rfl ?_
    refine Go.iload dJ1_indexOfChar_4cfef_14 rfl ?_
    refine Go.baload 3 1 dJ1_indexOfChar_4cfef_16 (by decide) (by decide) rfl ?_
    refine Go.topE (y := nI 100) (by decide) ?_
    refine Go.iload dJ1_indexOfChar_4cfef_17 rfl ?_
    refine Go.icmp_ne (tgt := 25) dJ1_indexOfChar_4cfef_19 (by decide) (fun g1_ => ?_) (fun g1_ => ?_)
    · -- 19 taken
      have g1 : ¬ (nI c).toInt8.toInt32 = nI 100 := fun z => g1_ z.symm
      refine Go.iinc (v := nI 2) (ls' := [some (vR 214), some (vI (nI c)), some (vI (nI 0)), some (vI (nI 3)), some (vI ((nI c).toInt8.toInt32)), some (vI (nI 2))]) dJ1_indexOfChar_4cfef_25 rfl (by decide) (by decide) rfl ?_
      refine Go.goto (tgt := 7) dJ1_indexOfChar_4cfef_28 (by decide) ?_
      refine Go.iload dJ1_indexOfChar_4cfef_7 rfl ?_
      refine Go.iload_n dJ1_indexOfChar_4cfef_9 rfl ?_
      refine Go.icmp_ge_f (tgt := 31) dJ1_indexOfChar_4cfef_10 (by decide) (by decide) ?_
      refine Go.aload_n dJ1_indexOfChar_4cfef_13 rfl ?_
      refine Go.at 14 rfl ?_
      refine Go.iload dJ1_indexOfChar_4cfef_14 rfl ?_
      refine Go.baload 3 2 dJ1_indexOfChar_4cfef_16 (by decide) (by decide) rfl ?_
      refine Go.topE (y := nI 115) (by decide) ?_
      refine Go.iload dJ1_indexOfChar_4cfef_17 rfl ?_
      refine Go.icmp_ne (tgt := 25) dJ1_indexOfChar_4cfef_19 (by decide) (fun g2_ => ?_) (fun g2_ => ?_)
      · -- 19 taken
        have g2 : ¬ (nI c).toInt8.toInt32 = nI 115 := fun z => g2_ z.symm
        refine Go.iinc (v := nI 3) (ls' := [some (vR 214), some (vI (nI c)), some (vI (nI 0)), some (vI (nI 3)), some (vI ((nI c).toInt8.toInt32)), some (vI (nI 3))]) dJ1_indexOfChar_4cfef_25 rfl (by decide) (by decide) rfl ?_
        refine Go.goto (tgt := 7) dJ1_indexOfChar_4cfef_28 (by decide) ?_
        refine Go.iload dJ1_indexOfChar_4cfef_7 rfl ?_
        refine Go.iload_n dJ1_indexOfChar_4cfef_9 rfl ?_
        refine Go.icmp_ge_t (tgt := 31) dJ1_indexOfChar_4cfef_10 (by decide) (by decide) ?_
        refine Go.iconst (v := (-1)) dJ1_indexOfChar_4cfef_31 rfl ?_
        refine Go.at 32 rfl ?_
        refine Go.ireturn .int dJ1_indexOfChar_4cfef_32 rfl rfl ?_
        exact ⟨congrArg (fun z => some (vI z)) (by unfold nmF; rw [if_pos rfl]; rw [if_neg (fun z => g0 ((i2b_n h (by decide)).mpr z)), if_neg (fun z => g1 ((i2b_n h (by decide)).mpr z)), if_neg (fun z => g2 ((i2b_n h (by decide)).mpr z))]; rfl), rfl⟩
      · -- 19 not
        have g2 : (nI c).toInt8.toInt32 = nI 115 := g2_.symm
        refine Go.iload dJ1_indexOfChar_4cfef_22 rfl ?_
        refine Go.ireturn .int dJ1_indexOfChar_4cfef_24 rfl rfl ?_
        exact ⟨congrArg (fun z => some (vI z)) (by unfold nmF; rw [if_pos rfl]; rw [if_neg (fun z => g0 ((i2b_n h (by decide)).mpr z)), if_neg (fun z => g1 ((i2b_n h (by decide)).mpr z)), if_pos ((i2b_n h (by decide)).mp g2)]; rfl), rfl⟩
    · -- 19 not
      have g1 : (nI c).toInt8.toInt32 = nI 100 := g1_.symm
      refine Go.iload dJ1_indexOfChar_4cfef_22 rfl ?_
      refine Go.ireturn .int dJ1_indexOfChar_4cfef_24 rfl rfl ?_
      exact ⟨congrArg (fun z => some (vI z)) (by unfold nmF; rw [if_pos rfl]; rw [if_neg (fun z => g0 ((i2b_n h (by decide)).mpr z)), if_pos ((i2b_n h (by decide)).mp g1)]; rfl), rfl⟩
  · -- 19 not
    have g0 : (nI c).toInt8.toInt32 = nI 104 := g0_.symm
    refine Go.iload dJ1_indexOfChar_4cfef_22 rfl ?_
    refine Go.ireturn .int dJ1_indexOfChar_4cfef_24 rfl rfl ?_
    exact ⟨congrArg (fun z => some (vI z)) (by unfold nmF; rw [if_pos rfl]; rw [if_pos ((i2b_n h (by decide)).mp g0)]; rfl), rfl⟩
theorem c_idx1_3 {V : VV} {d : Nat} {μ : Memo} (c : Nat) (h : c < 256) : Ret V (d + 1) mJ1_indexOf_4cfef [vR 214, vI (nI c), vI (nI 0), vI (nI 3)] μ (some (vI (oI (nmF 0 c)))) μ := by
  show Go V (d + 1) mJ1_indexOf_4cfef 0 [some (vR 214), some (vI (nI c)), some (vI (nI 0)), some (vI (nI 3))] [] μ _
  refine Go.iload_n dJ1_indexOf_4cfef_0 rfl ?_
  refine Go.callSi [vI (nI c)] [] dJ1_indexOf_4cfef_1 lkJ1_88 rfl (Nat.le_of_ble_eq_true rfl) rfl (Nat.le_of_ble_eq_true rfl) (c_canEnc_3 c h) ?_
  refine Go.if_ne_t (tgt := 9) dJ1_indexOf_4cfef_4 (by decide) (by decide) ?_
  refine Go.iload_n dJ1_indexOf_4cfef_9 rfl ?_
  refine Go.iconst (v := nI 0) dJ1_indexOf_4cfef_10 rfl ?_
  refine Go.mmaxE dJ1_indexOf_4cfef_11 lkJ1_92 (Nat.le_of_ble_eq_true rfl) ?_
  refine Go.topE (y := nI 0) (by decide) ?_
  refine Go.at 14 rfl ?_
  refine Go.istore_n (ls' := [some (vR 214), some (vI (nI c)), some (vI (nI 0)), some (vI (nI 3))]) dJ1_indexOf_4cfef_14 (by decide) rfl ?_
  refine Go.iload_n dJ1_indexOf_4cfef_15 rfl ?_
  refine Go.aload_n dJ1_indexOf_4cfef_16 rfl ?_
  refine Go.blength 3 dJ1_indexOf_4cfef_17 (by decide) ?_
  refine Go.mminE dJ1_indexOf_4cfef_18 lkJ1_38 (Nat.le_of_ble_eq_true rfl) ?_
  refine Go.topE (y := nI 3) (by decide) ?_
  refine Go.istore_n (ls' := [some (vR 214), some (vI (nI c)), some (vI (nI 0)), some (vI (nI 3))]) dJ1_indexOf_4cfef_21 (by decide) rfl ?_
  refine Go.at 22 rfl ?_
  refine Go.iload_n dJ1_indexOf_4cfef_22 rfl ?_
  refine Go.iload_n dJ1_indexOf_4cfef_23 rfl ?_
  refine Go.icmp_lt_t (tgt := 29) dJ1_indexOf_4cfef_24 (by decide) (by decide) ?_
  refine Go.aload_n dJ1_indexOf_4cfef_29 rfl ?_
  refine Go.iload_n dJ1_indexOf_4cfef_30 rfl ?_
  refine Go.iload_n dJ1_indexOf_4cfef_31 rfl ?_
  refine Go.at 32 rfl ?_
  refine Go.iload_n dJ1_indexOf_4cfef_32 rfl ?_
  refine Go.callSi [vR 214, vI (nI c), vI (nI 0), vI (nI 3)] [] dJ1_indexOf_4cfef_33 lkJ1_95 rfl (Nat.le_of_ble_eq_true rfl) rfl (Nat.le_of_ble_eq_true rfl) (c_idxL_3 c h) ?_
  refine Go.ireturn .int dJ1_indexOf_4cfef_36 rfl rfl ?_
  exact ⟨rfl, rfl⟩
theorem c_idx2_3 {V : VV} {d : Nat} {μ : Memo} (c : Nat) (h : c < 256) : Ret V (d + 2) mJ0_indexOf_7cf53 [vR 204, vI (nI c), vI (nI 0)] μ (some (vI (oI (nmF 0 c)))) μ := by
  show Go V (d + 2) mJ0_indexOf_7cf53 0 [some (vR 204), some (vI (nI c)), some (vI (nI 0))] [] μ _
  refine Go.aload_n dJ0_indexOf_7cf53_0 rfl ?_
  refine Go.callVi 204 [] [] dJ0_indexOf_7cf53_1 lkJ0_492 (Or.inr ⟨3, by decide, rfl, rfl⟩) rfl (Nat.le_of_ble_eq_true rfl) rfl (Nat.le_of_ble_eq_true rfl) c_isLatin1_3 ?_
  refine Go.if_eq_f (tgt := 23) dJ0_indexOf_7cf53_4 (by decide) (by decide) ?_
  refine Go.aload_n dJ0_indexOf_7cf53_7 rfl ?_
  refine Go.strValue 3 dJ0_indexOf_7cf53_8 (by decide) flJ0_9 ?_
  refine Go.iload_n dJ0_indexOf_7cf53_11 rfl ?_
  refine Go.at 12 rfl ?_
  refine Go.iload_n dJ0_indexOf_7cf53_12 rfl ?_
  refine Go.aload_n dJ0_indexOf_7cf53_13 rfl ?_
  refine Go.callVi 204 [] [vI (nI 0), vI (nI c), vR 214] dJ0_indexOf_7cf53_14 lkJ0_505 (Or.inr ⟨3, by decide, rfl, rfl⟩) rfl (Nat.le_of_ble_eq_true rfl) rfl (Nat.le_of_ble_eq_true rfl) c_length_3 ?_
  refine Go.callSi [vR 214, vI (nI c), vI (nI 0), vI (nI 3)] [] dJ0_indexOf_7cf53_17 lkJ0_637 rfl (Nat.le_of_ble_eq_true rfl) rfl (Nat.le_of_ble_eq_true rfl) (c_idx1_3 c h) ?_
  refine Go.goto (tgt := 36) dJ0_indexOf_7cf53_20 (by decide) ?_
  refine Go.ireturn .int dJ0_indexOf_7cf53_36 rfl rfl ?_
  exact ⟨rfl, rfl⟩
theorem c_idx3_3 {V : VV} {d : Nat} {μ : Memo} (c : Nat) (h : c < 256) : Ret V (d + 3) mJ0_indexOf_0f7a4 [vR 204, vI (nI c)] μ (some (vI (oI (nmF 0 c)))) μ := by
  show Go V (d + 3) mJ0_indexOf_0f7a4 0 [some (vR 204), some (vI (nI c))] [] μ _
  refine Go.aload_n dJ0_indexOf_0f7a4_0 rfl ?_
  refine Go.iload_n dJ0_indexOf_0f7a4_1 rfl ?_
  refine Go.iconst (v := nI 0) dJ0_indexOf_0f7a4_2 rfl ?_
  refine Go.callVi 204 [vI (nI c), vI (nI 0)] [] dJ0_indexOf_0f7a4_3 lkJ0_633 (Or.inr ⟨3, by decide, rfl, rfl⟩) rfl (Nat.le_of_ble_eq_true rfl) rfl (Nat.le_of_ble_eq_true rfl) (c_idx2_3 c h) ?_
  refine Go.ireturn .int dJ0_indexOf_0f7a4_6 rfl rfl ?_
  exact ⟨rfl, rfl⟩
theorem c_names_0 {V : VV} {d : Nat} {μ : Memo} (hk : μ 33 0 = nI 0) : Ret V (d) mX4_namesOfKey [vR 33] μ (some (vR 204)) μ := by
  show Go V (d) mX4_namesOfKey 0 [some (vR 33)] [] μ _
  refine Go.aload_n dX4_namesOfKey_0 rfl ?_
  refine Go.getI dX4_namesOfKey_1 flX4_29 rfl ?_
  refine Go.topE (y := nI 0) hk ?_
  refine Go.lswV (tgt := 32) (nI 0) rfl dX4_namesOfKey_4 (by decide) rfl (by decide) ?_
  refine Go.ldcS 3 dX4_namesOfKey_32 (by decide) rfl rfl ?_
  refine Go.areturn dX4_namesOfKey_34 rfl ?_
  exact ⟨rfl, rfl⟩
theorem c_nameHere_0 {V : VV} {d : Nat} {μ : Memo} {N : Nat} {B : Nat → Nat} (hT : TpC μ N B) {b e : Nat} (hb : b < N) (hbe : b ≤ e) (heN : e ≤ N) (h5 : μ 33 5 = nI b) (h6 : μ 33 6 = nI e) (hk : μ 33 0 = nI 0) : Ret V (d + 4) mX4_nameHere [vR 33] μ (some (vI (if e = b + 1 then (match nmF 0 (B b) with | some q => (-1) - nI q | none => (-1000000005)) else (-1000000005)))) μ := by
  show Go V (d + 4) mX4_nameHere 0 [some (vR 33), none] [] μ _
  have hN := hT.1
  by_cases h1 : e = b + 1
  · rw [if_pos h1]
    cases hq : nmF 0 (B b) with
    | none =>
      refine Go.aload_n dX4_nameHere_0 rfl ?_
      refine Go.callVr 33 [] [] dX4_nameHere_1 lkX4_124 (Or.inl ⟨_, _, _, rfl, rfl, rfl⟩) rfl (Nat.le_of_ble_eq_true rfl) rfl (Nat.le_of_ble_eq_true rfl) (c_names_0 hk) ?_
      refine Go.aload_n dX4_nameHere_4 rfl ?_
      refine Go.getR dX4_nameHere_5 flX4_18 rfl ?_
      refine Go.aload_n dX4_nameHere_8 rfl ?_
      refine Go.getI dX4_nameHere_9 flX4_34 rfl ?_
      refine Go.topE (y := nI b) h5 ?_
      refine Go.at 12 rfl ?_
      refine Go.callVi 31 [vI (nI b)] [vR 204] dX4_nameHere_12 lkX4_96 (Or.inl ⟨_, _, _, rfl, rfl, rfl⟩) rfl (Nat.le_of_ble_eq_true rfl) rfl (Nat.le_of_ble_eq_true rfl) (c_byteAt hT b (by omega)) ?_
      refine Go.i2c dX4_nameHere_15 ?_
      refine Go.topE (y := nI (B b)) (i2c_n (hT.2.2 b hb).2) ?_
      refine Go.callVi 204 [vI (nI (B b))] [] dX4_nameHere_16 lkX4_128 (Or.inr ⟨3, by decide, rfl, rfl⟩) rfl (Nat.le_of_ble_eq_true rfl) rfl (Nat.le_of_ble_eq_true rfl) (c_idx3_3 (B b) (hT.2.2 b hb).2) ?_
      refine Go.topE (y := (-1)) (by rw [hq]; rfl) ?_
      refine Go.istore_n (ls' := [some (vR 33), some (vI (-1))]) dX4_nameHere_19 (by decide) rfl ?_
      refine Go.aload_n dX4_nameHere_20 rfl ?_
      refine Go.getI dX4_nameHere_21 flX4_75 rfl ?_
      refine Go.topE (y := nI e) h6 ?_
      refine Go.at 24 rfl ?_
      refine Go.aload_n dX4_nameHere_24 rfl ?_
      refine Go.getI dX4_nameHere_25 flX4_34 rfl ?_
      refine Go.topE (y := nI b) h5 ?_
      refine Go.isubN dX4_nameHere_28 hbe ?_
      refine Go.iconst (v := nI 1) dX4_nameHere_29 rfl ?_
      refine Go.icmp_ne_f (tgt := 43) dX4_nameHere_30 (by decide) (by rw [sI_eq, nT, nT]; omega) ?_
      refine Go.iload_n dX4_nameHere_33 rfl ?_
      refine Go.at 34 rfl ?_
      refine Go.if_lt_t (tgt := 43) dX4_nameHere_34 (by decide) (by decide) ?_
      refine Go.ldc dX4_nameHere_43 cnX4_33 ?_
      refine Go.ireturn .int dX4_nameHere_45 rfl rfl ?_
      exact ⟨rfl, rfl⟩
    | some q =>
      have hq3 : q < 1000 := by
        unfold nmF at hq
        revert hq; (repeat' split) <;> intro hq <;> first | (injection hq with hq; omega) | contradiction
      refine Go.aload_n dX4_nameHere_0 rfl ?_
      refine Go.callVr 33 [] [] dX4_nameHere_1 lkX4_124 (Or.inl ⟨_, _, _, rfl, rfl, rfl⟩) rfl (Nat.le_of_ble_eq_true rfl) rfl (Nat.le_of_ble_eq_true rfl) (c_names_0 hk) ?_
      refine Go.aload_n dX4_nameHere_4 rfl ?_
      refine Go.getR dX4_nameHere_5 flX4_18 rfl ?_
      refine Go.aload_n dX4_nameHere_8 rfl ?_
      refine Go.getI dX4_nameHere_9 flX4_34 rfl ?_
      refine Go.topE (y := nI b) h5 ?_
      refine Go.at 12 rfl ?_
      refine Go.callVi 31 [vI (nI b)] [vR 204] dX4_nameHere_12 lkX4_96 (Or.inl ⟨_, _, _, rfl, rfl, rfl⟩) rfl (Nat.le_of_ble_eq_true rfl) rfl (Nat.le_of_ble_eq_true rfl) (c_byteAt hT b (by omega)) ?_
      refine Go.i2c dX4_nameHere_15 ?_
      refine Go.topE (y := nI (B b)) (i2c_n (hT.2.2 b hb).2) ?_
      refine Go.callVi 204 [vI (nI (B b))] [] dX4_nameHere_16 lkX4_128 (Or.inr ⟨3, by decide, rfl, rfl⟩) rfl (Nat.le_of_ble_eq_true rfl) rfl (Nat.le_of_ble_eq_true rfl) (c_idx3_3 (B b) (hT.2.2 b hb).2) ?_
      refine Go.topE (y := nI q) (by rw [hq]; rfl) ?_
      refine Go.istore_n (ls' := [some (vR 33), some (vI (nI q))]) dX4_nameHere_19 (by decide) rfl ?_
      refine Go.aload_n dX4_nameHere_20 rfl ?_
      refine Go.getI dX4_nameHere_21 flX4_75 rfl ?_
      refine Go.topE (y := nI e) h6 ?_
      refine Go.at 24 rfl ?_
      refine Go.aload_n dX4_nameHere_24 rfl ?_
      refine Go.getI dX4_nameHere_25 flX4_34 rfl ?_
      refine Go.topE (y := nI b) h5 ?_
      refine Go.isubN dX4_nameHere_28 hbe ?_
      refine Go.iconst (v := nI 1) dX4_nameHere_29 rfl ?_
      refine Go.icmp_ne_f (tgt := 43) dX4_nameHere_30 (by decide) (by rw [sI_eq, nT, nT]; omega) ?_
      refine Go.iload_n dX4_nameHere_33 rfl ?_
      refine Go.at 34 rfl ?_
      refine Go.if_lt_f (tgt := 43) dX4_nameHere_34 (by decide) (nI_pos (by omega)) ?_
      refine Go.iconst (v := (-1)) dX4_nameHere_37 rfl ?_
      refine Go.iload_n dX4_nameHere_38 rfl ?_
      refine Go.isub dX4_nameHere_39 ?_
      refine Go.goto (tgt := 45) dX4_nameHere_40 (by decide) ?_
      refine Go.ireturn .int dX4_nameHere_45 rfl rfl ?_
      exact ⟨rfl, rfl⟩
  · rw [if_neg h1]
    refine Go.aload_n dX4_nameHere_0 rfl ?_
    refine Go.callVr 33 [] [] dX4_nameHere_1 lkX4_124 (Or.inl ⟨_, _, _, rfl, rfl, rfl⟩) rfl (Nat.le_of_ble_eq_true rfl) rfl (Nat.le_of_ble_eq_true rfl) (c_names_0 hk) ?_
    refine Go.aload_n dX4_nameHere_4 rfl ?_
    refine Go.getR dX4_nameHere_5 flX4_18 rfl ?_
    refine Go.aload_n dX4_nameHere_8 rfl ?_
    refine Go.getI dX4_nameHere_9 flX4_34 rfl ?_
    refine Go.topE (y := nI b) h5 ?_
    refine Go.at 12 rfl ?_
    refine Go.callVi 31 [vI (nI b)] [vR 204] dX4_nameHere_12 lkX4_96 (Or.inl ⟨_, _, _, rfl, rfl, rfl⟩) rfl (Nat.le_of_ble_eq_true rfl) rfl (Nat.le_of_ble_eq_true rfl) (c_byteAt hT b (by omega)) ?_
    refine Go.i2c dX4_nameHere_15 ?_
    refine Go.topE (y := nI (B b)) (i2c_n (hT.2.2 b hb).2) ?_
    refine Go.callVi 204 [vI (nI (B b))] [] dX4_nameHere_16 lkX4_128 (Or.inr ⟨3, by decide, rfl, rfl⟩) rfl (Nat.le_of_ble_eq_true rfl) rfl (Nat.le_of_ble_eq_true rfl) (c_idx3_3 (B b) (hT.2.2 b hb).2) ?_
    refine Go.istore_n (ls' := [some (vR 33), some (vI (oI (nmF 0 (B b))))]) dX4_nameHere_19 (by decide) rfl ?_
    refine Go.aload_n dX4_nameHere_20 rfl ?_
    refine Go.getI dX4_nameHere_21 flX4_75 rfl ?_
    refine Go.topE (y := nI e) h6 ?_
    refine Go.at 24 rfl ?_
    refine Go.aload_n dX4_nameHere_24 rfl ?_
    refine Go.getI dX4_nameHere_25 flX4_34 rfl ?_
    refine Go.topE (y := nI b) h5 ?_
    refine Go.isubN dX4_nameHere_28 hbe ?_
    refine Go.iconst (v := nI 1) dX4_nameHere_29 rfl ?_
    refine Go.icmp_ne_t (tgt := 43) dX4_nameHere_30 (by decide) (by rw [sI_eq, nT, nT]; omega) ?_
    refine Go.ldc dX4_nameHere_43 cnX4_33 ?_
    refine Go.at 45 rfl ?_
    refine Go.ireturn .int dX4_nameHere_45 rfl rfl ?_
    exact ⟨rfl, rfl⟩
theorem c_canEnc_4 {V : VV} {d : Nat} {μ : Memo} (c : Nat) (h : c < 256) : Ret V (d) mJ1_canEncode_9a6ad [vI (nI c)] μ (some (vI (nI 1))) μ := by
  show Go V (d) mJ1_canEncode_9a6ad 0 [some (vI (nI c))] [] μ _
  refine Go.iload_n dJ1_canEncode_9a6ad_0 rfl ?_
  refine Go.if_lt_f (tgt := 15) dJ1_canEncode_9a6ad_1 (by decide) (nI_pos (by omega)) ?_
  refine Go.iload_n dJ1_canEncode_9a6ad_4 rfl ?_
  refine Go.sipush (v := nI 255) dJ1_canEncode_9a6ad_5 rfl ?_
  refine Go.icmp_gt_f (tgt := 15) dJ1_canEncode_9a6ad_8 (by decide) (by rw [sI_lt, nT, nT]; omega) ?_
  refine Go.iconst (v := nI 1) dJ1_canEncode_9a6ad_11 rfl ?_
  refine Go.at 12 rfl ?_
  refine Go.goto (tgt := 16) dJ1_canEncode_9a6ad_12 (by decide) ?_
  refine Go.ireturn .boolean dJ1_canEncode_9a6ad_16 rfl rfl ?_
  exact ⟨rfl, rfl⟩
theorem c_idxL_4 {V : VV} {d : Nat} {μ : Memo} (c : Nat) (h : c < 256) : Ret V d mJ1_indexOfChar_4cfef [vR 215, vI (nI c), vI (nI 0), vI (nI 2)] μ (some (vI (oI (nmF 1 c)))) μ := by
  show Go V d mJ1_indexOfChar_4cfef 0 [some (vR 215), some (vI (nI c)), some (vI (nI 0)), some (vI (nI 2)), none, none] [] μ _
  refine Go.iload_n dJ1_indexOfChar_4cfef_0 rfl ?_
  refine Go.i2b dJ1_indexOfChar_4cfef_1 ?_
  refine Go.istore (ls' := [some (vR 215), some (vI (nI c)), some (vI (nI 0)), some (vI (nI 2)), some (vI ((nI c).toInt8.toInt32)), none]) dJ1_indexOfChar_4cfef_2 (by decide) rfl ?_
  refine Go.iload_n dJ1_indexOfChar_4cfef_4 rfl ?_
  refine Go.istore (ls' := [some (vR 215), some (vI (nI c)), some (vI (nI 0)), some (vI (nI 2)), some (vI ((nI c).toInt8.toInt32)), some (vI (nI 0))]) dJ1_indexOfChar_4cfef_5 (by decide) rfl ?_
  refine Go.iload dJ1_indexOfChar_4cfef_7 rfl ?_
  refine Go.at 9 rfl ?_
  refine Go.iload_n dJ1_indexOfChar_4cfef_9 rfl ?_
  refine Go.icmp_ge_f (tgt := 31) dJ1_indexOfChar_4cfef_10 (by decide) (by decide) ?_
  refine Go.aload_n dJ1_indexOfChar_4cfef_13 rfl ?_
  refine Go.iload dJ1_indexOfChar_4cfef_14 rfl ?_
  refine Go.baload 4 0 dJ1_indexOfChar_4cfef_16 (by decide) (by decide) rfl ?_
  refine Go.topE (y := nI 99) (by decide) ?_
  refine Go.iload dJ1_indexOfChar_4cfef_17 rfl ?_
  refine Go.at 19 rfl ?_
  refine Go.icmp_ne (tgt := 25) dJ1_indexOfChar_4cfef_19 (by decide) (fun g0_ => ?_) (fun g0_ => ?_)
  · -- 19 taken
    have g0 : ¬ (nI c).toInt8.toInt32 = nI 99 := fun z => g0_ z.symm
    refine Go.iinc (v := nI 1) (ls' := [some (vR 215), some (vI (nI c)), some (vI (nI 0)), some (vI (nI 2)), some (vI ((nI c).toInt8.toInt32)), some (vI (nI 1))]) dJ1_indexOfChar_4cfef_25 rfl (by decide) (by decide) rfl ?_
    refine Go.goto (tgt := 7) dJ1_indexOfChar_4cfef_28 (by decide) ?_
    refine Go.iload dJ1_indexOfChar_4cfef_7 rfl ?_
    refine Go.iload_n dJ1_indexOfChar_4cfef_9 rfl ?_
    refine Go.icmp_ge_f (tgt := 31) dJ1_indexOfChar_4cfef_10 (by decide) (by decide) ?_
    refine Go.aload_n dJ1_indexOfChar_4cfef_13 rfl ?_
    refine Go.at 14 rfl ?_
    refine Go.iload dJ1_indexOfChar_4cfef_14 rfl ?_
    refine Go.baload 4 1 dJ1_indexOfChar_4cfef_16 (by decide) (by decide) rfl ?_
    refine Go.topE (y := nI 104) (by decide) ?_
    refine Go.iload dJ1_indexOfChar_4cfef_17 rfl ?_
    refine Go.icmp_ne (tgt := 25) dJ1_indexOfChar_4cfef_19 (by decide) (fun g1_ => ?_) (fun g1_ => ?_)
    · -- 19 taken
      have g1 : ¬ (nI c).toInt8.toInt32 = nI 104 := fun z => g1_ z.symm
      refine Go.iinc (v := nI 2) (ls' := [some (vR 215), some (vI (nI c)), some (vI (nI 0)), some (vI (nI 2)), some (vI ((nI c).toInt8.toInt32)), some (vI (nI 2))]) dJ1_indexOfChar_4cfef_25 rfl (by decide) (by decide) rfl ?_
      refine Go.goto (tgt := 7) dJ1_indexOfChar_4cfef_28 (by decide) ?_
      refine Go.iload dJ1_indexOfChar_4cfef_7 rfl ?_
      refine Go.iload_n dJ1_indexOfChar_4cfef_9 rfl ?_
      refine Go.icmp_ge_t (tgt := 31) dJ1_indexOfChar_4cfef_10 (by decide) (by decide) ?_
      refine Go.iconst (v := (-1)) dJ1_indexOfChar_4cfef_31 rfl ?_
      refine Go.at 32 rfl ?_
      refine Go.ireturn .int dJ1_indexOfChar_4cfef_32 rfl rfl ?_
      exact ⟨congrArg (fun z => some (vI z)) (by unfold nmF; rw [if_neg (by decide), if_pos rfl]; rw [if_neg (fun z => g0 ((i2b_n h (by decide)).mpr z)), if_neg (fun z => g1 ((i2b_n h (by decide)).mpr z))]; rfl), rfl⟩
    · -- 19 not
      have g1 : (nI c).toInt8.toInt32 = nI 104 := g1_.symm
      refine Go.iload dJ1_indexOfChar_4cfef_22 rfl ?_
      refine Go.ireturn .int dJ1_indexOfChar_4cfef_24 rfl rfl ?_
      exact ⟨congrArg (fun z => some (vI z)) (by unfold nmF; rw [if_neg (by decide), if_pos rfl]; rw [if_neg (fun z => g0 ((i2b_n h (by decide)).mpr z)), if_pos ((i2b_n h (by decide)).mp g1)]; rfl), rfl⟩
  · -- 19 not
    have g0 : (nI c).toInt8.toInt32 = nI 99 := g0_.symm
    refine Go.iload dJ1_indexOfChar_4cfef_22 rfl ?_
    refine Go.ireturn .int dJ1_indexOfChar_4cfef_24 rfl rfl ?_
    exact ⟨congrArg (fun z => some (vI z)) (by unfold nmF; rw [if_neg (by decide), if_pos rfl]; rw [if_pos ((i2b_n h (by decide)).mp g0)]; rfl), rfl⟩
theorem c_idx1_4 {V : VV} {d : Nat} {μ : Memo} (c : Nat) (h : c < 256) : Ret V (d + 1) mJ1_indexOf_4cfef [vR 215, vI (nI c), vI (nI 0), vI (nI 2)] μ (some (vI (oI (nmF 1 c)))) μ := by
  show Go V (d + 1) mJ1_indexOf_4cfef 0 [some (vR 215), some (vI (nI c)), some (vI (nI 0)), some (vI (nI 2))] [] μ _
  refine Go.iload_n dJ1_indexOf_4cfef_0 rfl ?_
  refine Go.callSi [vI (nI c)] [] dJ1_indexOf_4cfef_1 lkJ1_88 rfl (Nat.le_of_ble_eq_true rfl) rfl (Nat.le_of_ble_eq_true rfl) (c_canEnc_4 c h) ?_
  refine Go.if_ne_t (tgt := 9) dJ1_indexOf_4cfef_4 (by decide) (by decide) ?_
  refine Go.iload_n dJ1_indexOf_4cfef_9 rfl ?_
  refine Go.iconst (v := nI 0) dJ1_indexOf_4cfef_10 rfl ?_
  refine Go.mmaxE dJ1_indexOf_4cfef_11 lkJ1_92 (Nat.le_of_ble_eq_true rfl) ?_
  refine Go.topE (y := nI 0) (by decide) ?_
  refine Go.at 14 rfl ?_
  refine Go.istore_n (ls' := [some (vR 215), some (vI (nI c)), some (vI (nI 0)), some (vI (nI 2))]) dJ1_indexOf_4cfef_14 (by decide) rfl ?_
  refine Go.iload_n dJ1_indexOf_4cfef_15 rfl ?_
  refine Go.aload_n dJ1_indexOf_4cfef_16 rfl ?_
  refine Go.blength 4 dJ1_indexOf_4cfef_17 (by decide) ?_
  refine Go.mminE dJ1_indexOf_4cfef_18 lkJ1_38 (Nat.le_of_ble_eq_true rfl) ?_
  refine Go.topE (y := nI 2) (by decide) ?_
  refine Go.istore_n (ls' := [some (vR 215), some (vI (nI c)), some (vI (nI 0)), some (vI (nI 2))]) dJ1_indexOf_4cfef_21 (by decide) rfl ?_
  refine Go.at 22 rfl ?_
  refine Go.iload_n dJ1_indexOf_4cfef_22 rfl ?_
  refine Go.iload_n dJ1_indexOf_4cfef_23 rfl ?_
  refine Go.icmp_lt_t (tgt := 29) dJ1_indexOf_4cfef_24 (by decide) (by decide) ?_
  refine Go.aload_n dJ1_indexOf_4cfef_29 rfl ?_
  refine Go.iload_n dJ1_indexOf_4cfef_30 rfl ?_
  refine Go.iload_n dJ1_indexOf_4cfef_31 rfl ?_
  refine Go.at 32 rfl ?_
  refine Go.iload_n dJ1_indexOf_4cfef_32 rfl ?_
  refine Go.callSi [vR 215, vI (nI c), vI (nI 0), vI (nI 2)] [] dJ1_indexOf_4cfef_33 lkJ1_95 rfl (Nat.le_of_ble_eq_true rfl) rfl (Nat.le_of_ble_eq_true rfl) (c_idxL_4 c h) ?_
  refine Go.ireturn .int dJ1_indexOf_4cfef_36 rfl rfl ?_
  exact ⟨rfl, rfl⟩
theorem c_idx2_4 {V : VV} {d : Nat} {μ : Memo} (c : Nat) (h : c < 256) : Ret V (d + 2) mJ0_indexOf_7cf53 [vR 205, vI (nI c), vI (nI 0)] μ (some (vI (oI (nmF 1 c)))) μ := by
  show Go V (d + 2) mJ0_indexOf_7cf53 0 [some (vR 205), some (vI (nI c)), some (vI (nI 0))] [] μ _
  refine Go.aload_n dJ0_indexOf_7cf53_0 rfl ?_
  refine Go.callVi 205 [] [] dJ0_indexOf_7cf53_1 lkJ0_492 (Or.inr ⟨4, by decide, rfl, rfl⟩) rfl (Nat.le_of_ble_eq_true rfl) rfl (Nat.le_of_ble_eq_true rfl) c_isLatin1_4 ?_
  refine Go.if_eq_f (tgt := 23) dJ0_indexOf_7cf53_4 (by decide) (by decide) ?_
  refine Go.aload_n dJ0_indexOf_7cf53_7 rfl ?_
  refine Go.strValue 4 dJ0_indexOf_7cf53_8 (by decide) flJ0_9 ?_
  refine Go.iload_n dJ0_indexOf_7cf53_11 rfl ?_
  refine Go.at 12 rfl ?_
  refine Go.iload_n dJ0_indexOf_7cf53_12 rfl ?_
  refine Go.aload_n dJ0_indexOf_7cf53_13 rfl ?_
  refine Go.callVi 205 [] [vI (nI 0), vI (nI c), vR 215] dJ0_indexOf_7cf53_14 lkJ0_505 (Or.inr ⟨4, by decide, rfl, rfl⟩) rfl (Nat.le_of_ble_eq_true rfl) rfl (Nat.le_of_ble_eq_true rfl) c_length_4 ?_
  refine Go.callSi [vR 215, vI (nI c), vI (nI 0), vI (nI 2)] [] dJ0_indexOf_7cf53_17 lkJ0_637 rfl (Nat.le_of_ble_eq_true rfl) rfl (Nat.le_of_ble_eq_true rfl) (c_idx1_4 c h) ?_
  refine Go.goto (tgt := 36) dJ0_indexOf_7cf53_20 (by decide) ?_
  refine Go.ireturn .int dJ0_indexOf_7cf53_36 rfl rfl ?_
  exact ⟨rfl, rfl⟩
theorem c_idx3_4 {V : VV} {d : Nat} {μ : Memo} (c : Nat) (h : c < 256) : Ret V (d + 3) mJ0_indexOf_0f7a4 [vR 205, vI (nI c)] μ (some (vI (oI (nmF 1 c)))) μ := by
  show Go V (d + 3) mJ0_indexOf_0f7a4 0 [some (vR 205), some (vI (nI c))] [] μ _
  refine Go.aload_n dJ0_indexOf_0f7a4_0 rfl ?_
  refine Go.iload_n dJ0_indexOf_0f7a4_1 rfl ?_
  refine Go.iconst (v := nI 0) dJ0_indexOf_0f7a4_2 rfl ?_
  refine Go.callVi 205 [vI (nI c), vI (nI 0)] [] dJ0_indexOf_0f7a4_3 lkJ0_633 (Or.inr ⟨4, by decide, rfl, rfl⟩) rfl (Nat.le_of_ble_eq_true rfl) rfl (Nat.le_of_ble_eq_true rfl) (c_idx2_4 c h) ?_
  refine Go.ireturn .int dJ0_indexOf_0f7a4_6 rfl rfl ?_
  exact ⟨rfl, rfl⟩
theorem c_names_1 {V : VV} {d : Nat} {μ : Memo} (hk : μ 33 0 = nI 1) : Ret V (d) mX4_namesOfKey [vR 33] μ (some (vR 205)) μ := by
  show Go V (d) mX4_namesOfKey 0 [some (vR 33)] [] μ _
  refine Go.aload_n dX4_namesOfKey_0 rfl ?_
  refine Go.getI dX4_namesOfKey_1 flX4_29 rfl ?_
  refine Go.topE (y := nI 1) hk ?_
  refine Go.lswV (tgt := 35) (nI 1) rfl dX4_namesOfKey_4 (by decide) rfl (by decide) ?_
  refine Go.ldcS 4 dX4_namesOfKey_35 (by decide) rfl rfl ?_
  refine Go.areturn dX4_namesOfKey_37 rfl ?_
  exact ⟨rfl, rfl⟩
theorem c_nameHere_1 {V : VV} {d : Nat} {μ : Memo} {N : Nat} {B : Nat → Nat} (hT : TpC μ N B) {b e : Nat} (hb : b < N) (hbe : b ≤ e) (heN : e ≤ N) (h5 : μ 33 5 = nI b) (h6 : μ 33 6 = nI e) (hk : μ 33 0 = nI 1) : Ret V (d + 4) mX4_nameHere [vR 33] μ (some (vI (if e = b + 1 then (match nmF 1 (B b) with | some q => (-1) - nI q | none => (-1000000005)) else (-1000000005)))) μ := by
  show Go V (d + 4) mX4_nameHere 0 [some (vR 33), none] [] μ _
  have hN := hT.1
  by_cases h1 : e = b + 1
  · rw [if_pos h1]
    cases hq : nmF 1 (B b) with
    | none =>
      refine Go.aload_n dX4_nameHere_0 rfl ?_
      refine Go.callVr 33 [] [] dX4_nameHere_1 lkX4_124 (Or.inl ⟨_, _, _, rfl, rfl, rfl⟩) rfl (Nat.le_of_ble_eq_true rfl) rfl (Nat.le_of_ble_eq_true rfl) (c_names_1 hk) ?_
      refine Go.aload_n dX4_nameHere_4 rfl ?_
      refine Go.getR dX4_nameHere_5 flX4_18 rfl ?_
      refine Go.aload_n dX4_nameHere_8 rfl ?_
      refine Go.getI dX4_nameHere_9 flX4_34 rfl ?_
      refine Go.topE (y := nI b) h5 ?_
      refine Go.at 12 rfl ?_
      refine Go.callVi 31 [vI (nI b)] [vR 205] dX4_nameHere_12 lkX4_96 (Or.inl ⟨_, _, _, rfl, rfl, rfl⟩) rfl (Nat.le_of_ble_eq_true rfl) rfl (Nat.le_of_ble_eq_true rfl) (c_byteAt hT b (by omega)) ?_
      refine Go.i2c dX4_nameHere_15 ?_
      refine Go.topE (y := nI (B b)) (i2c_n (hT.2.2 b hb).2) ?_
      refine Go.callVi 205 [vI (nI (B b))] [] dX4_nameHere_16 lkX4_128 (Or.inr ⟨4, by decide, rfl, rfl⟩) rfl (Nat.le_of_ble_eq_true rfl) rfl (Nat.le_of_ble_eq_true rfl) (c_idx3_4 (B b) (hT.2.2 b hb).2) ?_
      refine Go.topE (y := (-1)) (by rw [hq]; rfl) ?_
      refine Go.istore_n (ls' := [some (vR 33), some (vI (-1))]) dX4_nameHere_19 (by decide) rfl ?_
      refine Go.aload_n dX4_nameHere_20 rfl ?_
      refine Go.getI dX4_nameHere_21 flX4_75 rfl ?_
      refine Go.topE (y := nI e) h6 ?_
      refine Go.at 24 rfl ?_
      refine Go.aload_n dX4_nameHere_24 rfl ?_
      refine Go.getI dX4_nameHere_25 flX4_34 rfl ?_
      refine Go.topE (y := nI b) h5 ?_
      refine Go.isubN dX4_nameHere_28 hbe ?_
      refine Go.iconst (v := nI 1) dX4_nameHere_29 rfl ?_
      refine Go.icmp_ne_f (tgt := 43) dX4_nameHere_30 (by decide) (by rw [sI_eq, nT, nT]; omega) ?_
      refine Go.iload_n dX4_nameHere_33 rfl ?_
      refine Go.at 34 rfl ?_
      refine Go.if_lt_t (tgt := 43) dX4_nameHere_34 (by decide) (by decide) ?_
      refine Go.ldc dX4_nameHere_43 cnX4_33 ?_
      refine Go.ireturn .int dX4_nameHere_45 rfl rfl ?_
      exact ⟨rfl, rfl⟩
    | some q =>
      have hq3 : q < 1000 := by
        unfold nmF at hq
        revert hq; (repeat' split) <;> intro hq <;> first | (injection hq with hq; omega) | contradiction
      refine Go.aload_n dX4_nameHere_0 rfl ?_
      refine Go.callVr 33 [] [] dX4_nameHere_1 lkX4_124 (Or.inl ⟨_, _, _, rfl, rfl, rfl⟩) rfl (Nat.le_of_ble_eq_true rfl) rfl (Nat.le_of_ble_eq_true rfl) (c_names_1 hk) ?_
      refine Go.aload_n dX4_nameHere_4 rfl ?_
      refine Go.getR dX4_nameHere_5 flX4_18 rfl ?_
      refine Go.aload_n dX4_nameHere_8 rfl ?_
      refine Go.getI dX4_nameHere_9 flX4_34 rfl ?_
      refine Go.topE (y := nI b) h5 ?_
      refine Go.at 12 rfl ?_
      refine Go.callVi 31 [vI (nI b)] [vR 205] dX4_nameHere_12 lkX4_96 (Or.inl ⟨_, _, _, rfl, rfl, rfl⟩) rfl (Nat.le_of_ble_eq_true rfl) rfl (Nat.le_of_ble_eq_true rfl) (c_byteAt hT b (by omega)) ?_
      refine Go.i2c dX4_nameHere_15 ?_
      refine Go.topE (y := nI (B b)) (i2c_n (hT.2.2 b hb).2) ?_
      refine Go.callVi 205 [vI (nI (B b))] [] dX4_nameHere_16 lkX4_128 (Or.inr ⟨4, by decide, rfl, rfl⟩) rfl (Nat.le_of_ble_eq_true rfl) rfl (Nat.le_of_ble_eq_true rfl) (c_idx3_4 (B b) (hT.2.2 b hb).2) ?_
      refine Go.topE (y := nI q) (by rw [hq]; rfl) ?_
      refine Go.istore_n (ls' := [some (vR 33), some (vI (nI q))]) dX4_nameHere_19 (by decide) rfl ?_
      refine Go.aload_n dX4_nameHere_20 rfl ?_
      refine Go.getI dX4_nameHere_21 flX4_75 rfl ?_
      refine Go.topE (y := nI e) h6 ?_
      refine Go.at 24 rfl ?_
      refine Go.aload_n dX4_nameHere_24 rfl ?_
      refine Go.getI dX4_nameHere_25 flX4_34 rfl ?_
      refine Go.topE (y := nI b) h5 ?_
      refine Go.isubN dX4_nameHere_28 hbe ?_
      refine Go.iconst (v := nI 1) dX4_nameHere_29 rfl ?_
      refine Go.icmp_ne_f (tgt := 43) dX4_nameHere_30 (by decide) (by rw [sI_eq, nT, nT]; omega) ?_
      refine Go.iload_n dX4_nameHere_33 rfl ?_
      refine Go.at 34 rfl ?_
      refine Go.if_lt_f (tgt := 43) dX4_nameHere_34 (by decide) (nI_pos (by omega)) ?_
      refine Go.iconst (v := (-1)) dX4_nameHere_37 rfl ?_
      refine Go.iload_n dX4_nameHere_38 rfl ?_
      refine Go.isub dX4_nameHere_39 ?_
      refine Go.goto (tgt := 45) dX4_nameHere_40 (by decide) ?_
      refine Go.ireturn .int dX4_nameHere_45 rfl rfl ?_
      exact ⟨rfl, rfl⟩
  · rw [if_neg h1]
    refine Go.aload_n dX4_nameHere_0 rfl ?_
    refine Go.callVr 33 [] [] dX4_nameHere_1 lkX4_124 (Or.inl ⟨_, _, _, rfl, rfl, rfl⟩) rfl (Nat.le_of_ble_eq_true rfl) rfl (Nat.le_of_ble_eq_true rfl) (c_names_1 hk) ?_
    refine Go.aload_n dX4_nameHere_4 rfl ?_
    refine Go.getR dX4_nameHere_5 flX4_18 rfl ?_
    refine Go.aload_n dX4_nameHere_8 rfl ?_
    refine Go.getI dX4_nameHere_9 flX4_34 rfl ?_
    refine Go.topE (y := nI b) h5 ?_
    refine Go.at 12 rfl ?_
    refine Go.callVi 31 [vI (nI b)] [vR 205] dX4_nameHere_12 lkX4_96 (Or.inl ⟨_, _, _, rfl, rfl, rfl⟩) rfl (Nat.le_of_ble_eq_true rfl) rfl (Nat.le_of_ble_eq_true rfl) (c_byteAt hT b (by omega)) ?_
    refine Go.i2c dX4_nameHere_15 ?_
    refine Go.topE (y := nI (B b)) (i2c_n (hT.2.2 b hb).2) ?_
    refine Go.callVi 205 [vI (nI (B b))] [] dX4_nameHere_16 lkX4_128 (Or.inr ⟨4, by decide, rfl, rfl⟩) rfl (Nat.le_of_ble_eq_true rfl) rfl (Nat.le_of_ble_eq_true rfl) (c_idx3_4 (B b) (hT.2.2 b hb).2) ?_
    refine Go.istore_n (ls' := [some (vR 33), some (vI (oI (nmF 1 (B b))))]) dX4_nameHere_19 (by decide) rfl ?_
    refine Go.aload_n dX4_nameHere_20 rfl ?_
    refine Go.getI dX4_nameHere_21 flX4_75 rfl ?_
    refine Go.topE (y := nI e) h6 ?_
    refine Go.at 24 rfl ?_
    refine Go.aload_n dX4_nameHere_24 rfl ?_
    refine Go.getI dX4_nameHere_25 flX4_34 rfl ?_
    refine Go.topE (y := nI b) h5 ?_
    refine Go.isubN dX4_nameHere_28 hbe ?_
    refine Go.iconst (v := nI 1) dX4_nameHere_29 rfl ?_
    refine Go.icmp_ne_t (tgt := 43) dX4_nameHere_30 (by decide) (by rw [sI_eq, nT, nT]; omega) ?_
    refine Go.ldc dX4_nameHere_43 cnX4_33 ?_
    refine Go.at 45 rfl ?_
    refine Go.ireturn .int dX4_nameHere_45 rfl rfl ?_
    exact ⟨rfl, rfl⟩
theorem c_canEnc_5 {V : VV} {d : Nat} {μ : Memo} (c : Nat) (h : c < 256) : Ret V (d) mJ1_canEncode_9a6ad [vI (nI c)] μ (some (vI (nI 1))) μ := by
  show Go V (d) mJ1_canEncode_9a6ad 0 [some (vI (nI c))] [] μ _
  refine Go.iload_n dJ1_canEncode_9a6ad_0 rfl ?_
  refine Go.if_lt_f (tgt := 15) dJ1_canEncode_9a6ad_1 (by decide) (nI_pos (by omega)) ?_
  refine Go.iload_n dJ1_canEncode_9a6ad_4 rfl ?_
  refine Go.sipush (v := nI 255) dJ1_canEncode_9a6ad_5 rfl ?_
  refine Go.icmp_gt_f (tgt := 15) dJ1_canEncode_9a6ad_8 (by decide) (by rw [sI_lt, nT, nT]; omega) ?_
  refine Go.iconst (v := nI 1) dJ1_canEncode_9a6ad_11 rfl ?_
  refine Go.at 12 rfl ?_
  refine Go.goto (tgt := 16) dJ1_canEncode_9a6ad_12 (by decide) ?_
  refine Go.ireturn .boolean dJ1_canEncode_9a6ad_16 rfl rfl ?_
  exact ⟨rfl, rfl⟩
theorem c_idxL_5 {V : VV} {d : Nat} {μ : Memo} (c : Nat) (h : c < 256) : Ret V d mJ1_indexOfChar_4cfef [vR 216, vI (nI c), vI (nI 0), vI (nI 2)] μ (some (vI (oI (nmF 2 c)))) μ := by
  show Go V d mJ1_indexOfChar_4cfef 0 [some (vR 216), some (vI (nI c)), some (vI (nI 0)), some (vI (nI 2)), none, none] [] μ _
  refine Go.iload_n dJ1_indexOfChar_4cfef_0 rfl ?_
  refine Go.i2b dJ1_indexOfChar_4cfef_1 ?_
  refine Go.istore (ls' := [some (vR 216), some (vI (nI c)), some (vI (nI 0)), some (vI (nI 2)), some (vI ((nI c).toInt8.toInt32)), none]) dJ1_indexOfChar_4cfef_2 (by decide) rfl ?_
  refine Go.iload_n dJ1_indexOfChar_4cfef_4 rfl ?_
  refine Go.istore (ls' := [some (vR 216), some (vI (nI c)), some (vI (nI 0)), some (vI (nI 2)), some (vI ((nI c).toInt8.toInt32)), some (vI (nI 0))]) dJ1_indexOfChar_4cfef_5 (by decide) rfl ?_
  refine Go.iload dJ1_indexOfChar_4cfef_7 rfl ?_
  refine Go.at 9 rfl ?_
  refine Go.iload_n dJ1_indexOfChar_4cfef_9 rfl ?_
  refine Go.icmp_ge_f (tgt := 31) dJ1_indexOfChar_4cfef_10 (by decide) (by decide) ?_
  refine Go.aload_n dJ1_indexOfChar_4cfef_13 rfl ?_
  refine Go.iload dJ1_indexOfChar_4cfef_14 rfl ?_
  refine Go.baload 5 0 dJ1_indexOfChar_4cfef_16 (by decide) (by decide) rfl ?_
  refine Go.topE (y := nI 116) (by decide) ?_
  refine Go.iload dJ1_indexOfChar_4cfef_17 rfl ?_
  refine Go.at 19 rfl ?_
  refine Go.icmp_ne (tgt := 25) dJ1_indexOfChar_4cfef_19 (by decide) (fun g0_ => ?_) (fun g0_ => ?_)
  · -- 19 taken
    have g0 : ¬ (nI c).toInt8.toInt32 = nI 116 := fun z => g0_ z.symm
    refine Go.iinc (v := nI 1) (ls' := [some (vR 216), some (vI (nI c)), some (vI (nI 0)), some (vI (nI 2)), some (vI ((nI c).toInt8.toInt32)), some (vI (nI 1))]) dJ1_indexOfChar_4cfef_25 rfl (by decide) (by decide) rfl ?_
    refine Go.goto (tgt := 7) dJ1_indexOfChar_4cfef_28 (by decide) ?_
    refine Go.iload dJ1_indexOfChar_4cfef_7 rfl ?_
    refine Go.iload_n dJ1_indexOfChar_4cfef_9 rfl ?_
    refine Go.icmp_ge_f (tgt := 31) dJ1_indexOfChar_4cfef_10 (by decide) (by decide) ?_
    refine Go.aload_n dJ1_indexOfChar_4cfef_13 rfl ?_
    refine Go.at 14 rfl ?_
    refine Go.iload dJ1_indexOfChar_4cfef_14 rfl ?_
    refine Go.baload 5 1 dJ1_indexOfChar_4cfef_16 (by decide) (by decide) rfl ?_
    refine Go.topE (y := nI 104) (by decide) ?_
    refine Go.iload dJ1_indexOfChar_4cfef_17 rfl ?_
    refine Go.icmp_ne (tgt := 25) dJ1_indexOfChar_4cfef_19 (by decide) (fun g1_ => ?_) (fun g1_ => ?_)
    · -- 19 taken
      have g1 : ¬ (nI c).toInt8.toInt32 = nI 104 := fun z => g1_ z.symm
      refine Go.iinc (v := nI 2) (ls' := [some (vR 216), some (vI (nI c)), some (vI (nI 0)), some (vI (nI 2)), some (vI ((nI c).toInt8.toInt32)), some (vI (nI 2))]) dJ1_indexOfChar_4cfef_25 rfl (by decide) (by decide) rfl ?_
      refine Go.goto (tgt := 7) dJ1_indexOfChar_4cfef_28 (by decide) ?_
      refine Go.iload dJ1_indexOfChar_4cfef_7 rfl ?_
      refine Go.iload_n dJ1_indexOfChar_4cfef_9 rfl ?_
      refine Go.icmp_ge_t (tgt := 31) dJ1_indexOfChar_4cfef_10 (by decide) (by decide) ?_
      refine Go.iconst (v := (-1)) dJ1_indexOfChar_4cfef_31 rfl ?_
      refine Go.at 32 rfl ?_
      refine Go.ireturn .int dJ1_indexOfChar_4cfef_32 rfl rfl ?_
      exact ⟨congrArg (fun z => some (vI z)) (by unfold nmF; rw [if_neg (by decide), if_neg (by decide)]; rw [if_neg (fun z => g0 ((i2b_n h (by decide)).mpr z)), if_neg (fun z => g1 ((i2b_n h (by decide)).mpr z))]; rfl), rfl⟩
    · -- 19 not
      have g1 : (nI c).toInt8.toInt32 = nI 104 := g1_.symm
      refine Go.iload dJ1_indexOfChar_4cfef_22 rfl ?_
      refine Go.ireturn .int dJ1_indexOfChar_4cfef_24 rfl rfl ?_
      exact ⟨congrArg (fun z => some (vI z)) (by unfold nmF; rw [if_neg (by decide), if_neg (by decide)]; rw [if_neg (fun z => g0 ((i2b_n h (by decide)).mpr z)), if_pos ((i2b_n h (by decide)).mp g1)]; rfl), rfl⟩
  · -- 19 not
    have g0 : (nI c).toInt8.toInt32 = nI 116 := g0_.symm
    refine Go.iload dJ1_indexOfChar_4cfef_22 rfl ?_
    refine Go.ireturn .int dJ1_indexOfChar_4cfef_24 rfl rfl ?_
    exact ⟨congrArg (fun z => some (vI z)) (by unfold nmF; rw [if_neg (by decide), if_neg (by decide)]; rw [if_pos ((i2b_n h (by decide)).mp g0)]; rfl), rfl⟩
theorem c_idx1_5 {V : VV} {d : Nat} {μ : Memo} (c : Nat) (h : c < 256) : Ret V (d + 1) mJ1_indexOf_4cfef [vR 216, vI (nI c), vI (nI 0), vI (nI 2)] μ (some (vI (oI (nmF 2 c)))) μ := by
  show Go V (d + 1) mJ1_indexOf_4cfef 0 [some (vR 216), some (vI (nI c)), some (vI (nI 0)), some (vI (nI 2))] [] μ _
  refine Go.iload_n dJ1_indexOf_4cfef_0 rfl ?_
  refine Go.callSi [vI (nI c)] [] dJ1_indexOf_4cfef_1 lkJ1_88 rfl (Nat.le_of_ble_eq_true rfl) rfl (Nat.le_of_ble_eq_true rfl) (c_canEnc_5 c h) ?_
  refine Go.if_ne_t (tgt := 9) dJ1_indexOf_4cfef_4 (by decide) (by decide) ?_
  refine Go.iload_n dJ1_indexOf_4cfef_9 rfl ?_
  refine Go.iconst (v := nI 0) dJ1_indexOf_4cfef_10 rfl ?_
  refine Go.mmaxE dJ1_indexOf_4cfef_11 lkJ1_92 (Nat.le_of_ble_eq_true rfl) ?_
  refine Go.topE (y := nI 0) (by decide) ?_
  refine Go.at 14 rfl ?_
  refine Go.istore_n (ls' := [some (vR 216), some (vI (nI c)), some (vI (nI 0)), some (vI (nI 2))]) dJ1_indexOf_4cfef_14 (by decide) rfl ?_
  refine Go.iload_n dJ1_indexOf_4cfef_15 rfl ?_
  refine Go.aload_n dJ1_indexOf_4cfef_16 rfl ?_
  refine Go.blength 5 dJ1_indexOf_4cfef_17 (by decide) ?_
  refine Go.mminE dJ1_indexOf_4cfef_18 lkJ1_38 (Nat.le_of_ble_eq_true rfl) ?_
  refine Go.topE (y := nI 2) (by decide) ?_
  refine Go.istore_n (ls' := [some (vR 216), some (vI (nI c)), some (vI (nI 0)), some (vI (nI 2))]) dJ1_indexOf_4cfef_21 (by decide) rfl ?_
  refine Go.at 22 rfl ?_
  refine Go.iload_n dJ1_indexOf_4cfef_22 rfl ?_
  refine Go.iload_n dJ1_indexOf_4cfef_23 rfl ?_
  refine Go.icmp_lt_t (tgt := 29) dJ1_indexOf_4cfef_24 (by decide) (by decide) ?_
  refine Go.aload_n dJ1_indexOf_4cfef_29 rfl ?_
  refine Go.iload_n dJ1_indexOf_4cfef_30 rfl ?_
  refine Go.iload_n dJ1_indexOf_4cfef_31 rfl ?_
  refine Go.at 32 rfl ?_
  refine Go.iload_n dJ1_indexOf_4cfef_32 rfl ?_
  refine Go.callSi [vR 216, vI (nI c), vI (nI 0), vI (nI 2)] [] dJ1_indexOf_4cfef_33 lkJ1_95 rfl (Nat.le_of_ble_eq_true rfl) rfl (Nat.le_of_ble_eq_true rfl) (c_idxL_5 c h) ?_
  refine Go.ireturn .int dJ1_indexOf_4cfef_36 rfl rfl ?_
  exact ⟨rfl, rfl⟩
theorem c_idx2_5 {V : VV} {d : Nat} {μ : Memo} (c : Nat) (h : c < 256) : Ret V (d + 2) mJ0_indexOf_7cf53 [vR 206, vI (nI c), vI (nI 0)] μ (some (vI (oI (nmF 2 c)))) μ := by
  show Go V (d + 2) mJ0_indexOf_7cf53 0 [some (vR 206), some (vI (nI c)), some (vI (nI 0))] [] μ _
  refine Go.aload_n dJ0_indexOf_7cf53_0 rfl ?_
  refine Go.callVi 206 [] [] dJ0_indexOf_7cf53_1 lkJ0_492 (Or.inr ⟨5, by decide, rfl, rfl⟩) rfl (Nat.le_of_ble_eq_true rfl) rfl (Nat.le_of_ble_eq_true rfl) c_isLatin1_5 ?_
  refine Go.if_eq_f (tgt := 23) dJ0_indexOf_7cf53_4 (by decide) (by decide) ?_
  refine Go.aload_n dJ0_indexOf_7cf53_7 rfl ?_
  refine Go.strValue 5 dJ0_indexOf_7cf53_8 (by decide) flJ0_9 ?_
  refine Go.iload_n dJ0_indexOf_7cf53_11 rfl ?_
  refine Go.at 12 rfl ?_
  refine Go.iload_n dJ0_indexOf_7cf53_12 rfl ?_
  refine Go.aload_n dJ0_indexOf_7cf53_13 rfl ?_
  refine Go.callVi 206 [] [vI (nI 0), vI (nI c), vR 216] dJ0_indexOf_7cf53_14 lkJ0_505 (Or.inr ⟨5, by decide, rfl, rfl⟩) rfl (Nat.le_of_ble_eq_true rfl) rfl (Nat.le_of_ble_eq_true rfl) c_length_5 ?_
  refine Go.callSi [vR 216, vI (nI c), vI (nI 0), vI (nI 2)] [] dJ0_indexOf_7cf53_17 lkJ0_637 rfl (Nat.le_of_ble_eq_true rfl) rfl (Nat.le_of_ble_eq_true rfl) (c_idx1_5 c h) ?_
  refine Go.goto (tgt := 36) dJ0_indexOf_7cf53_20 (by decide) ?_
  refine Go.ireturn .int dJ0_indexOf_7cf53_36 rfl rfl ?_
  exact ⟨rfl, rfl⟩
theorem c_idx3_5 {V : VV} {d : Nat} {μ : Memo} (c : Nat) (h : c < 256) : Ret V (d + 3) mJ0_indexOf_0f7a4 [vR 206, vI (nI c)] μ (some (vI (oI (nmF 2 c)))) μ := by
  show Go V (d + 3) mJ0_indexOf_0f7a4 0 [some (vR 206), some (vI (nI c))] [] μ _
  refine Go.aload_n dJ0_indexOf_0f7a4_0 rfl ?_
  refine Go.iload_n dJ0_indexOf_0f7a4_1 rfl ?_
  refine Go.iconst (v := nI 0) dJ0_indexOf_0f7a4_2 rfl ?_
  refine Go.callVi 206 [vI (nI c), vI (nI 0)] [] dJ0_indexOf_0f7a4_3 lkJ0_633 (Or.inr ⟨5, by decide, rfl, rfl⟩) rfl (Nat.le_of_ble_eq_true rfl) rfl (Nat.le_of_ble_eq_true rfl) (c_idx2_5 c h) ?_
  refine Go.ireturn .int dJ0_indexOf_0f7a4_6 rfl rfl ?_
  exact ⟨rfl, rfl⟩
theorem c_names_2 {V : VV} {d : Nat} {μ : Memo} (hk : μ 33 0 = nI 2) : Ret V (d) mX4_namesOfKey [vR 33] μ (some (vR 206)) μ := by
  show Go V (d) mX4_namesOfKey 0 [some (vR 33)] [] μ _
  refine Go.aload_n dX4_namesOfKey_0 rfl ?_
  refine Go.getI dX4_namesOfKey_1 flX4_29 rfl ?_
  refine Go.topE (y := nI 2) hk ?_
  refine Go.lsw (tgt := 38) dX4_namesOfKey_4 (by decide) rfl (by decide) ?_
  refine Go.ldcS 5 dX4_namesOfKey_38 (by decide) rfl rfl ?_
  refine Go.areturn dX4_namesOfKey_40 rfl ?_
  exact ⟨rfl, rfl⟩
theorem c_nameHere_2 {V : VV} {d : Nat} {μ : Memo} {N : Nat} {B : Nat → Nat} (hT : TpC μ N B) {b e : Nat} (hb : b < N) (hbe : b ≤ e) (heN : e ≤ N) (h5 : μ 33 5 = nI b) (h6 : μ 33 6 = nI e) (hk : μ 33 0 = nI 2) : Ret V (d + 4) mX4_nameHere [vR 33] μ (some (vI (if e = b + 1 then (match nmF 2 (B b) with | some q => (-1) - nI q | none => (-1000000005)) else (-1000000005)))) μ := by
  show Go V (d + 4) mX4_nameHere 0 [some (vR 33), none] [] μ _
  have hN := hT.1
  by_cases h1 : e = b + 1
  · rw [if_pos h1]
    cases hq : nmF 2 (B b) with
    | none =>
      refine Go.aload_n dX4_nameHere_0 rfl ?_
      refine Go.callVr 33 [] [] dX4_nameHere_1 lkX4_124 (Or.inl ⟨_, _, _, rfl, rfl, rfl⟩) rfl (Nat.le_of_ble_eq_true rfl) rfl (Nat.le_of_ble_eq_true rfl) (c_names_2 hk) ?_
      refine Go.aload_n dX4_nameHere_4 rfl ?_
      refine Go.getR dX4_nameHere_5 flX4_18 rfl ?_
      refine Go.aload_n dX4_nameHere_8 rfl ?_
      refine Go.getI dX4_nameHere_9 flX4_34 rfl ?_
      refine Go.topE (y := nI b) h5 ?_
      refine Go.at 12 rfl ?_
      refine Go.callVi 31 [vI (nI b)] [vR 206] dX4_nameHere_12 lkX4_96 (Or.inl ⟨_, _, _, rfl, rfl, rfl⟩) rfl (Nat.le_of_ble_eq_true rfl) rfl (Nat.le_of_ble_eq_true rfl) (c_byteAt hT b (by omega)) ?_
      refine Go.i2c dX4_nameHere_15 ?_
      refine Go.topE (y := nI (B b)) (i2c_n (hT.2.2 b hb).2) ?_
      refine Go.callVi 206 [vI (nI (B b))] [] dX4_nameHere_16 lkX4_128 (Or.inr ⟨5, by decide, rfl, rfl⟩) rfl (Nat.le_of_ble_eq_true rfl) rfl (Nat.le_of_ble_eq_true rfl) (c_idx3_5 (B b) (hT.2.2 b hb).2) ?_
      refine Go.topE (y := (-1)) (by rw [hq]; rfl) ?_
      refine Go.istore_n (ls' := [some (vR 33), some (vI (-1))]) dX4_nameHere_19 (by decide) rfl ?_
      refine Go.aload_n dX4_nameHere_20 rfl ?_
      refine Go.getI dX4_nameHere_21 flX4_75 rfl ?_
      refine Go.topE (y := nI e) h6 ?_
      refine Go.at 24 rfl ?_
      refine Go.aload_n dX4_nameHere_24 rfl ?_
      refine Go.getI dX4_nameHere_25 flX4_34 rfl ?_
      refine Go.topE (y := nI b) h5 ?_
      refine Go.isubN dX4_nameHere_28 hbe ?_
      refine Go.iconst (v := nI 1) dX4_nameHere_29 rfl ?_
      refine Go.icmp_ne_f (tgt := 43) dX4_nameHere_30 (by decide) (by rw [sI_eq, nT, nT]; omega) ?_
      refine Go.iload_n dX4_nameHere_33 rfl ?_
      refine Go.at 34 rfl ?_
      refine Go.if_lt_t (tgt := 43) dX4_nameHere_34 (by decide) (by decide) ?_
      refine Go.ldc dX4_nameHere_43 cnX4_33 ?_
      refine Go.ireturn .int dX4_nameHere_45 rfl rfl ?_
      exact ⟨rfl, rfl⟩
    | some q =>
      have hq3 : q < 1000 := by
        unfold nmF at hq
        revert hq; (repeat' split) <;> intro hq <;> first | (injection hq with hq; omega) | contradiction
      refine Go.aload_n dX4_nameHere_0 rfl ?_
      refine Go.callVr 33 [] [] dX4_nameHere_1 lkX4_124 (Or.inl ⟨_, _, _, rfl, rfl, rfl⟩) rfl (Nat.le_of_ble_eq_true rfl) rfl (Nat.le_of_ble_eq_true rfl) (c_names_2 hk) ?_
      refine Go.aload_n dX4_nameHere_4 rfl ?_
      refine Go.getR dX4_nameHere_5 flX4_18 rfl ?_
      refine Go.aload_n dX4_nameHere_8 rfl ?_
      refine Go.getI dX4_nameHere_9 flX4_34 rfl ?_
      refine Go.topE (y := nI b) h5 ?_
      refine Go.at 12 rfl ?_
      refine Go.callVi 31 [vI (nI b)] [vR 206] dX4_nameHere_12 lkX4_96 (Or.inl ⟨_, _, _, rfl, rfl, rfl⟩) rfl (Nat.le_of_ble_eq_true rfl) rfl (Nat.le_of_ble_eq_true rfl) (c_byteAt hT b (by omega)) ?_
      refine Go.i2c dX4_nameHere_15 ?_
      refine Go.topE (y := nI (B b)) (i2c_n (hT.2.2 b hb).2) ?_
      refine Go.callVi 206 [vI (nI (B b))] [] dX4_nameHere_16 lkX4_128 (Or.inr ⟨5, by decide, rfl, rfl⟩) rfl (Nat.le_of_ble_eq_true rfl) rfl (Nat.le_of_ble_eq_true rfl) (c_idx3_5 (B b) (hT.2.2 b hb).2) ?_
      refine Go.topE (y := nI q) (by rw [hq]; rfl) ?_
      refine Go.istore_n (ls' := [some (vR 33), some (vI (nI q))]) dX4_nameHere_19 (by decide) rfl ?_
      refine Go.aload_n dX4_nameHere_20 rfl ?_
      refine Go.getI dX4_nameHere_21 flX4_75 rfl ?_
      refine Go.topE (y := nI e) h6 ?_
      refine Go.at 24 rfl ?_
      refine Go.aload_n dX4_nameHere_24 rfl ?_
      refine Go.getI dX4_nameHere_25 flX4_34 rfl ?_
      refine Go.topE (y := nI b) h5 ?_
      refine Go.isubN dX4_nameHere_28 hbe ?_
      refine Go.iconst (v := nI 1) dX4_nameHere_29 rfl ?_
      refine Go.icmp_ne_f (tgt := 43) dX4_nameHere_30 (by decide) (by rw [sI_eq, nT, nT]; omega) ?_
      refine Go.iload_n dX4_nameHere_33 rfl ?_
      refine Go.at 34 rfl ?_
      refine Go.if_lt_f (tgt := 43) dX4_nameHere_34 (by decide) (nI_pos (by omega)) ?_
      refine Go.iconst (v := (-1)) dX4_nameHere_37 rfl ?_
      refine Go.iload_n dX4_nameHere_38 rfl ?_
      refine Go.isub dX4_nameHere_39 ?_
      refine Go.goto (tgt := 45) dX4_nameHere_40 (by decide) ?_
      refine Go.ireturn .int dX4_nameHere_45 rfl rfl ?_
      exact ⟨rfl, rfl⟩
  · rw [if_neg h1]
    refine Go.aload_n dX4_nameHere_0 rfl ?_
    refine Go.callVr 33 [] [] dX4_nameHere_1 lkX4_124 (Or.inl ⟨_, _, _, rfl, rfl, rfl⟩) rfl (Nat.le_of_ble_eq_true rfl) rfl (Nat.le_of_ble_eq_true rfl) (c_names_2 hk) ?_
    refine Go.aload_n dX4_nameHere_4 rfl ?_
    refine Go.getR dX4_nameHere_5 flX4_18 rfl ?_
    refine Go.aload_n dX4_nameHere_8 rfl ?_
    refine Go.getI dX4_nameHere_9 flX4_34 rfl ?_
    refine Go.topE (y := nI b) h5 ?_
    refine Go.at 12 rfl ?_
    refine Go.callVi 31 [vI (nI b)] [vR 206] dX4_nameHere_12 lkX4_96 (Or.inl ⟨_, _, _, rfl, rfl, rfl⟩) rfl (Nat.le_of_ble_eq_true rfl) rfl (Nat.le_of_ble_eq_true rfl) (c_byteAt hT b (by omega)) ?_
    refine Go.i2c dX4_nameHere_15 ?_
    refine Go.topE (y := nI (B b)) (i2c_n (hT.2.2 b hb).2) ?_
    refine Go.callVi 206 [vI (nI (B b))] [] dX4_nameHere_16 lkX4_128 (Or.inr ⟨5, by decide, rfl, rfl⟩) rfl (Nat.le_of_ble_eq_true rfl) rfl (Nat.le_of_ble_eq_true rfl) (c_idx3_5 (B b) (hT.2.2 b hb).2) ?_
    refine Go.istore_n (ls' := [some (vR 33), some (vI (oI (nmF 2 (B b))))]) dX4_nameHere_19 (by decide) rfl ?_
    refine Go.aload_n dX4_nameHere_20 rfl ?_
    refine Go.getI dX4_nameHere_21 flX4_75 rfl ?_
    refine Go.topE (y := nI e) h6 ?_
    refine Go.at 24 rfl ?_
    refine Go.aload_n dX4_nameHere_24 rfl ?_
    refine Go.getI dX4_nameHere_25 flX4_34 rfl ?_
    refine Go.topE (y := nI b) h5 ?_
    refine Go.isubN dX4_nameHere_28 hbe ?_
    refine Go.iconst (v := nI 1) dX4_nameHere_29 rfl ?_
    refine Go.icmp_ne_t (tgt := 43) dX4_nameHere_30 (by decide) (by rw [sI_eq, nT, nT]; omega) ?_
    refine Go.ldc dX4_nameHere_43 cnX4_33 ?_
    refine Go.at 45 rfl ?_
    refine Go.ireturn .int dX4_nameHere_45 rfl rfl ?_
    exact ⟨rfl, rfl⟩
