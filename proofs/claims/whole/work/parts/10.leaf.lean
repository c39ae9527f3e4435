/-! ===== ints as whole numbers: what omega can take ===== -/
theorem bm32 (x : Int) : x.bmod (2 ^ 32) = (x + 2147483648) % 4294967296 - 2147483648 := by
  have : ((2 : Nat) ^ 32 : Nat) = 4294967296 := by decide
  unfold Int.bmod
  rw [this]
  show (if x % (4294967296 : Int) < ((4294967296 : Int) + 1) / 2 then x % (4294967296 : Int) else x % (4294967296 : Int) - 4294967296) = _
  split <;> omega
theorem nT (n : Nat) : (nI n).toInt = ((n : Int) + 2147483648) % 4294967296 - 2147483648 := by
  rw [← bm32]
  exact Int32.toInt_ofNat
theorem tI_add (a b : Int32) : (a + b).toInt = (a.toInt + b.toInt + 2147483648) % 4294967296 - 2147483648 := by
  rw [← bm32]; exact Int32.toInt_add a b
theorem tI_sub (a b : Int32) : (a - b).toInt = (a.toInt - b.toInt + 2147483648) % 4294967296 - 2147483648 := by
  rw [← bm32]; exact Int32.toInt_sub a b
theorem tI_mul (a b : Int32) : (a * b).toInt = (a.toInt * b.toInt + 2147483648) % 4294967296 - 2147483648 := by
  rw [← bm32]; exact Int32.toInt_mul a b
theorem tI_neg (a : Int32) : (-a).toInt = (-a.toInt + 2147483648) % 4294967296 - 2147483648 := by
  rw [← bm32]; exact Int32.toInt_neg a
theorem tI_n1 : (-1 : Int32).toInt = -1 := by decide
theorem tI_NONE : (-1000000005 : Int32).toInt = -1000000005 := by decide
theorem rngI (x : Int32) : -2147483648 ≤ x.toInt ∧ x.toInt < 2147483648 := ⟨Int32.le_toInt x, Int32.toInt_lt x⟩
/-! ===== leaves: what the small methods give ===== -/
def oN (v : Int32) : Int32 := if v < 0 then (-1000000005) else v
def wiF (v b : Int32) : Int32 := if v < 0 then nI 0 else if b < v then b else v
abbrev isOfP (k j : Int32) : Prop := k = j ∨ j = 0 ∨ (j = nI 1 ∧ k = nI 3) ∨ (j = nI 2 ∧ k = nI 4)
def mostF (k : Int32) : Int32 := if k = nI 2 ∨ k = nI 3 then nI 9 else if k = nI 4 then nI 100 else nI 20
def topF (k h st : Int32) : Int32 := if k = nI 2 then h + nI 2 else if k = nI 3 then h + nI 1 else if k = nI 4 then h + nI 3 else if k = nI 5 then h + st else h
def worthF (k h : Int32) : Int32 := if k = nI 1 then h + nI 3 else if k = nI 2 then nI 20 - h else if k = nI 3 then nI 2 * (h + nI 3) else if k = nI 4 then nI 20 - h + nI 9 else if k = nI 5 then nI 50 else h
def roomC (k r co : Int32) : Int32 := if k = nI 1 then maxI (nI 0) (r - co / nI 10) else if k = nI 2 then maxI (nI 0) (r - nI 4) else if k = nI 3 then maxI (nI 0) (r - co / nI 10) / nI 2 else if k = nI 4 then maxI (nI 0) (r - nI 4) else if k = nI 5 then nI 1 else r
def sprF (x : Int32) : Int32 := (x ||| (x <<< (nI 6 &&& 31) ||| iush x (nI 6)) ||| ((x &&& (-545392673)) <<< (nI 1 &&& 31) ||| iush (x &&& (-17043522)) (nI 1))) &&& nI 1073741823
def rankF (c : Int32) : Int32 := if c = nI 124 then nI 1 else if c = nI 38 then nI 2 else if c = nI 60 ∨ c = nI 61 ∨ c = nI 62 then nI 3 else if c = nI 43 ∨ c = nI 45 then nI 4 else if c = nI 42 ∨ c = nI 47 then nI 5 else nI 0
def joinC (c x y : Int32) : Int32 := if c = nI 38 then (if x = 0 then nI 0 else if y = 0 then nI 0 else nI 1) else if c = nI 42 then x * y else if c = nI 43 then x + y else if c = nI 45 then x - y else if c = nI 47 then (if y = 0 then nI 0 else x / y)
  else if c = nI 60 then (if y ≤ x then nI 0 else nI 1) else if c = nI 61 then (if x = y then nI 1 else nI 0) else if c = nI 62 then (if x ≤ y then nI 0 else nI 1) else if c = nI 124 then (if x = 0 then (if y = 0 then nI 0 else nI 1) else nI 1) else nI 0
def joinM (c x y : Int32) : Int32 := if c = nI 38 then (if x = 0 then nI 0 else if y = 0 then nI 0 else nI 1) else if c = nI 42 then x * y else if c = nI 43 then x + y else if c = nI 45 then x - y else if c = nI 47 then (if y = 0 then nI 0 else if y = (-1) then -x else x / y)
  else if c = nI 60 then (if y ≤ x then nI 0 else nI 1) else if c = nI 61 then (if x = y then nI 1 else nI 0) else if c = nI 62 then (if x ≤ y then nI 0 else nI 1) else (if x = 0 then (if y = 0 then nI 0 else nI 1) else nI 1)
abbrev nameP (k c : Int32) : Prop := if k = nI 0 then (c = nI 104 ∨ c = nI 100 ∨ c = nI 115) else if k = nI 1 then (c = nI 99 ∨ c = nI 104) else (c = nI 116 ∨ c = nI 104)
def bc1 (x : Int32) : Int32 := x - (iush x (nI 1) &&& nI 1431655765)
def bc2 (x : Int32) : Int32 := (x &&& nI 858993459) + (iush x (nI 2) &&& nI 858993459)
def bc3 (x : Int32) : Int32 := (x + iush x (nI 4)) &&& nI 252645135
def bc4 (x : Int32) : Int32 := x + iush x (nI 8)
def bc5 (x : Int32) : Int32 := x + iush x (nI 16)
def bitC (x : Int32) : Int32 := bc5 (bc4 (bc3 (bc2 (bc1 x)))) &&& nI 63
theorem lg_lt (x y : Int32) : lg_cmp x.toInt64 y.toInt64 < 0 ↔ x < y := by
  unfold lg_cmp
  simp only [gt_iff_lt, sI_lt64, sI_w, sI_lt]
  split
  · constructor
    · intro h; exact absurd h (by decide)
    · intro h; omega
  · split
    · rename_i h1 h2
      have : x.toInt = y.toInt := by rw [← sI_w, ← sI_w, h2]
      constructor
      · intro h; exact absurd h (by decide)
      · intro h; omega
    · rename_i h1 h2
      have : x.toInt ≠ y.toInt := fun e => h2 (Int64.toInt_inj.mp (by rw [sI_w, sI_w]; exact e))
      constructor
      · intro _; omega
      · intro _; decide
theorem lg_gt (x y : Int32) : 0 < lg_cmp x.toInt64 y.toInt64 ↔ y < x := by
  unfold lg_cmp
  simp only [gt_iff_lt, sI_lt64, sI_w, sI_lt]
  split
  · rename_i h1
    exact ⟨fun _ => h1, fun _ => by decide⟩
  · rename_i h1
    split
    · exact ⟨fun h => absurd h (by decide), fun h => absurd h h1⟩
    · exact ⟨fun h => absurd h (by decide), fun h => absurd h h1⟩

theorem c_within {V : VV} {d : Nat} {μ : Memo} (v a b : Int32) : Ret V (d) mX8_within [vI v, vI a, vI b] μ (some (vI (bI (a ≤ v ∧ v ≤ b)))) μ := by
  show Go V (d) mX8_within 0 [some (vI v), some (vI a), some (vI b)] [] μ _
  refine Go.iload_n dX8_within_0 rfl ?_
  refine Go.iload_n dX8_within_1 rfl ?_
  refine Go.icmp_lt (tgt := 14) dX8_within_2 (by decide) (fun h2 => ?_) (fun h2 => ?_)
  · -- 2 taken
    refine Go.iconst (v := nI 0) dX8_within_14 rfl ?_
    refine Go.ireturn .boolean dX8_within_15 rfl rfl ?_
    exact ⟨congrArg (fun z => some (vI z)) (bI_f (by ((try simp only [sI_lt, sI_le, sI_eq, nT, Int32.toInt_zero, tI_n1, tI_NONE, and_true, true_and, or_true, true_or, or_false, false_or, and_false, false_and, not_true, not_false_iff] at *) <;> omega))).symm, rfl⟩
  · -- 2 not
    refine Go.iload_n dX8_within_5 rfl ?_
    refine Go.iload_n dX8_within_6 rfl ?_
    refine Go.icmp_gt (tgt := 14) dX8_within_7 (by decide) (fun h7 => ?_) (fun h7 => ?_)
    · -- 7 taken
      refine Go.iconst (v := nI 0) dX8_within_14 rfl ?_
      refine Go.ireturn .boolean dX8_within_15 rfl rfl ?_
      exact ⟨congrArg (fun z => some (vI z)) (bI_f (by ((try simp only [sI_lt, sI_le, sI_eq, nT, Int32.toInt_zero, tI_n1, tI_NONE, and_true, true_and, or_true, true_or, or_false, false_or, and_false, false_and, not_true, not_false_iff] at *) <;> omega))).symm, rfl⟩
    · -- 7 not
      refine Go.iconst (v := nI 1) dX8_within_10 rfl ?_
      refine Go.goto (tgt := 15) dX8_within_11 (by decide) ?_
      refine Go.ireturn .boolean dX8_within_15 rfl rfl ?_
      exact ⟨congrArg (fun z => some (vI z)) (bI_t (by ((try simp only [sI_lt, sI_le, sI_eq, nT, Int32.toInt_zero, tI_n1, tI_NONE, and_true, true_and, or_true, true_or, or_false, false_or, and_false, false_and, not_true, not_false_iff] at *) <;> omega))).symm, rfl⟩
theorem m_isIn {V : VV} {d : Nat} {μ : Memo} (v a b : Int32) : Ret V (d) mX9_isIn [vL v.toInt64, vL a.toInt64, vL b.toInt64] μ (some (vI (bI (a ≤ v ∧ v ≤ b)))) μ := by
  show Go V (d) mX9_isIn 0 [some (vL v.toInt64), none, some (vL a.toInt64), none, some (vL b.toInt64), none] [] μ _
  refine Go.lload_n dX9_isIn_0 rfl ?_
  refine Go.lload_n dX9_isIn_1 rfl ?_
  refine Go.lcmp dX9_isIn_2 ?_
  refine Go.if_lt (tgt := 17) dX9_isIn_3 (by decide) (fun h3 => ?_) (fun h3 => ?_)
  · -- 3 taken
    refine Go.iconst (v := nI 0) dX9_isIn_17 rfl ?_
    refine Go.ireturn .boolean dX9_isIn_18 rfl rfl ?_
    exact ⟨congrArg (fun z => some (vI z)) (bI_f (by simp only [lg_lt, lg_gt] at *; ((try simp only [sI_lt, sI_le, sI_eq, nT, Int32.toInt_zero, tI_n1, tI_NONE, and_true, true_and, or_true, true_or, or_false, false_or, and_false, false_and, not_true, not_false_iff] at *) <;> omega))).symm, rfl⟩
  · -- 3 not
    refine Go.lload_n dX9_isIn_6 rfl ?_
    refine Go.lload dX9_isIn_7 rfl ?_
    refine Go.lcmp dX9_isIn_9 ?_
    refine Go.if_gt (tgt := 17) dX9_isIn_10 (by decide) (fun h10 => ?_) (fun h10 => ?_)
    · -- 10 taken
      refine Go.iconst (v := nI 0) dX9_isIn_17 rfl ?_
      refine Go.ireturn .boolean dX9_isIn_18 rfl rfl ?_
      exact ⟨congrArg (fun z => some (vI z)) (bI_f (by simp only [lg_lt, lg_gt] at *; ((try simp only [sI_lt, sI_le, sI_eq, nT, Int32.toInt_zero, tI_n1, tI_NONE, and_true, true_and, or_true, true_or, or_false, false_or, and_false, false_and, not_true, not_false_iff] at *) <;> omega))).symm, rfl⟩
    · -- 10 not
      refine Go.iconst (v := nI 1) dX9_isIn_13 rfl ?_
      refine Go.goto (tgt := 18) dX9_isIn_14 (by decide) ?_
      refine Go.ireturn .boolean dX9_isIn_18 rfl rfl ?_
      exact ⟨congrArg (fun z => some (vI z)) (bI_t (by simp only [lg_lt, lg_gt] at *; ((try simp only [sI_lt, sI_le, sI_eq, nT, Int32.toInt_zero, tI_n1, tI_NONE, and_true, true_and, or_true, true_or, or_false, false_or, and_false, false_and, not_true, not_false_iff] at *) <;> omega))).symm, rfl⟩
theorem m_orNone {V : VV} {d : Nat} {μ : Memo} (v : Int32) : Ret V (d) mX9_orNone [vI v] μ (some (vI (oN v))) μ := by
  show Go V (d) mX9_orNone 0 [some (vI v)] [] μ _
  refine Go.iload_n dX9_orNone_0 rfl ?_
  refine Go.if_ge (tgt := 9) dX9_orNone_1 (by decide) (fun h1 => ?_) (fun h1 => ?_)
  · -- 1 taken
    refine Go.iload_n dX9_orNone_9 rfl ?_
    refine Go.ireturn .int dX9_orNone_10 rfl rfl ?_
    exact ⟨congrArg (fun z => some (vI z)) (by unfold oN; (repeat' split) <;> first | rfl | (exfalso; (try simp only [sI_lt, sI_le, sI_eq, nT, Int32.toInt_zero, tI_n1, tI_NONE] at *); omega)), rfl⟩
  · -- 1 not
    refine Go.ldc dX9_orNone_4 cnX9_64 ?_
    refine Go.goto (tgt := 10) dX9_orNone_6 (by decide) ?_
    refine Go.ireturn .int dX9_orNone_10 rfl rfl ?_
    exact ⟨congrArg (fun z => some (vI z)) (by unfold oN; (repeat' split) <;> first | rfl | (exfalso; (try simp only [sI_lt, sI_le, sI_eq, nT, Int32.toInt_zero, tI_n1, tI_NONE] at *); omega)), rfl⟩
theorem m_within {V : VV} {d : Nat} {μ : Memo} (v b : Int32) : Ret V (d) mX9_within [vI v, vI b] μ (some (vI (wiF v b))) μ := by
  show Go V (d) mX9_within 0 [some (vI v), some (vI b)] [] μ _
  refine Go.iload_n dX9_within_0 rfl ?_
  refine Go.if_ge (tgt := 8) dX9_within_1 (by decide) (fun h1 => ?_) (fun h1 => ?_)
  · -- 1 taken
    refine Go.iload_n dX9_within_8 rfl ?_
    refine Go.iload_n dX9_within_9 rfl ?_
    refine Go.icmp_le (tgt := 17) dX9_within_10 (by decide) (fun h10 => ?_) (fun h10 => ?_)
    · -- 10 taken
      refine Go.iload_n dX9_within_17 rfl ?_
      refine Go.ireturn .int dX9_within_18 rfl rfl ?_
      exact ⟨congrArg (fun z => some (vI z)) (by unfold wiF; (repeat' split) <;> first | rfl | (exfalso; (try simp only [sI_lt, sI_le, sI_eq, nT, Int32.toInt_zero, tI_n1, tI_NONE] at *); omega)), rfl⟩
    · -- 10 not
      refine Go.iload_n dX9_within_13 rfl ?_
      refine Go.goto (tgt := 18) dX9_within_14 (by decide) ?_
      refine Go.ireturn .int dX9_within_18 rfl rfl ?_
      exact ⟨congrArg (fun z => some (vI z)) (by unfold wiF; (repeat' split) <;> first | rfl | (exfalso; (try simp only [sI_lt, sI_le, sI_eq, nT, Int32.toInt_zero, tI_n1, tI_NONE] at *); omega)), rfl⟩
  · -- 1 not
    refine Go.iconst (v := nI 0) dX9_within_4 rfl ?_
    refine Go.goto (tgt := 18) dX9_within_5 (by decide) ?_
    refine Go.ireturn .int dX9_within_18 rfl rfl ?_
    exact ⟨congrArg (fun z => some (vI z)) (by unfold wiF; (repeat' split) <;> first | rfl | (exfalso; (try simp only [sI_lt, sI_le, sI_eq, nT, Int32.toInt_zero, tI_n1, tI_NONE] at *); omega)), rfl⟩
theorem c_isCell {V : VV} {d : Nat} {μ : Memo} (v : Int32) : Ret V (d + 1) mX8_isCell [vI v] μ (some (vI (bI (nI 0 ≤ v ∧ v ≤ nI 29)))) μ := by
  show Go V (d + 1) mX8_isCell 0 [some (vI v)] [] μ _
  refine Go.iload_n dX8_isCell_0 rfl ?_
  refine Go.iconst (v := nI 0) dX8_isCell_1 rfl ?_
  refine Go.bipush (v := nI 29) dX8_isCell_2 rfl ?_
  refine Go.callSi [vI v, vI (nI 0), vI (nI 29)] [] dX8_isCell_4 lkX8_72 rfl (Nat.le_of_ble_eq_true rfl) rfl (Nat.le_of_ble_eq_true rfl) (c_within v (nI 0) (nI 29)) ?_
  refine Go.ireturn .boolean dX8_isCell_7 rfl (nar_b ()) ?_
  exact ⟨rfl, rfl⟩
theorem c_isKind {V : VV} {d : Nat} {μ : Memo} (v : Int32) : Ret V (d + 1) mX8_isKind [vI v] μ (some (vI (bI (nI 0 ≤ v ∧ v ≤ nI 5)))) μ := by
  show Go V (d + 1) mX8_isKind 0 [some (vI v)] [] μ _
  refine Go.iload_n dX8_isKind_0 rfl ?_
  refine Go.iconst (v := nI 0) dX8_isKind_1 rfl ?_
  refine Go.iconst (v := nI 5) dX8_isKind_2 rfl ?_
  refine Go.callSi [vI v, vI (nI 0), vI (nI 5)] [] dX8_isKind_3 lkX8_72 rfl (Nat.le_of_ble_eq_true rfl) rfl (Nat.le_of_ble_eq_true rfl) (c_within v (nI 0) (nI 5)) ?_
  refine Go.ireturn .boolean dX8_isKind_6 rfl (nar_b ()) ?_
  exact ⟨rfl, rfl⟩
theorem c_isOwner {V : VV} {d : Nat} {μ : Memo} (v : Int32) : Ret V (d + 1) mX8_isOwner [vI v] μ (some (vI (bI (nI 0 ≤ v ∧ v ≤ nI 7)))) μ := by
  show Go V (d + 1) mX8_isOwner 0 [some (vI v)] [] μ _
  refine Go.iload_n dX8_isOwner_0 rfl ?_
  refine Go.iconst (v := nI 0) dX8_isOwner_1 rfl ?_
  refine Go.bipush (v := nI 7) dX8_isOwner_2 rfl ?_
  refine Go.callSi [vI v, vI (nI 0), vI (nI 7)] [] dX8_isOwner_4 lkX8_72 rfl (Nat.le_of_ble_eq_true rfl) rfl (Nat.le_of_ble_eq_true rfl) (c_within v (nI 0) (nI 7)) ?_
  refine Go.ireturn .boolean dX8_isOwner_7 rfl (nar_b ()) ?_
  exact ⟨rfl, rfl⟩
theorem c_areHoursOn {V : VV} {d : Nat} {μ : Memo} (v : Int32) : Ret V (d + 1) mX8_areHoursOn [vI v] μ (some (vI (bI (nI 0 ≤ v ∧ v ≤ nI 199)))) μ := by
  show Go V (d + 1) mX8_areHoursOn 0 [some (vI v)] [] μ _
  refine Go.iload_n dX8_areHoursOn_0 rfl ?_
  refine Go.iconst (v := nI 0) dX8_areHoursOn_1 rfl ?_
  refine Go.sipush (v := nI 199) dX8_areHoursOn_2 rfl ?_
  refine Go.callSi [vI v, vI (nI 0), vI (nI 199)] [] dX8_areHoursOn_5 lkX8_72 rfl (Nat.le_of_ble_eq_true rfl) rfl (Nat.le_of_ble_eq_true rfl) (c_within v (nI 0) (nI 199)) ?_
  refine Go.ireturn .boolean dX8_areHoursOn_8 rfl (nar_b ()) ?_
  exact ⟨rfl, rfl⟩
theorem c_isSheet {V : VV} {d : Nat} {μ : Memo} (v : Int32) : Ret V (d + 1) mX8_isSheet [vI v] μ (some (vI (bI (nI 0 ≤ v ∧ v ≤ nI 3)))) μ := by
  show Go V (d + 1) mX8_isSheet 0 [some (vI v)] [] μ _
  refine Go.iload_n dX8_isSheet_0 rfl ?_
  refine Go.iconst (v := nI 0) dX8_isSheet_1 rfl ?_
  refine Go.iconst (v := nI 3) dX8_isSheet_2 rfl ?_
  refine Go.callSi [vI v, vI (nI 0), vI (nI 3)] [] dX8_isSheet_3 lkX8_72 rfl (Nat.le_of_ble_eq_true rfl) rfl (Nat.le_of_ble_eq_true rfl) (c_within v (nI 0) (nI 3)) ?_
  refine Go.ireturn .boolean dX8_isSheet_6 rfl (nar_b ()) ?_
  exact ⟨rfl, rfl⟩
theorem c_isSlot {V : VV} {d : Nat} {μ : Memo} (v : Int32) : Ret V (d + 1) mX8_isSlot [vI v] μ (some (vI (bI (nI 0 ≤ v ∧ v ≤ nI 4)))) μ := by
  show Go V (d + 1) mX8_isSlot 0 [some (vI v)] [] μ _
  refine Go.iload_n dX8_isSlot_0 rfl ?_
  refine Go.iconst (v := nI 0) dX8_isSlot_1 rfl ?_
  refine Go.iconst (v := nI 4) dX8_isSlot_2 rfl ?_
  refine Go.callSi [vI v, vI (nI 0), vI (nI 4)] [] dX8_isSlot_3 lkX8_72 rfl (Nat.le_of_ble_eq_true rfl) rfl (Nat.le_of_ble_eq_true rfl) (c_within v (nI 0) (nI 4)) ?_
  refine Go.ireturn .boolean dX8_isSlot_6 rfl (nar_b ()) ?_
  exact ⟨rfl, rfl⟩
theorem c_hold {V : VV} {d : Nat} {μ : Memo} (v a b : Int32) : Ret V (d + 1) mX8_hold [vI v, vI a, vI b] μ (some (vI (maxI a (minI b v)))) μ := by
  show Go V (d + 1) mX8_hold 0 [some (vI v), some (vI a), some (vI b)] [] μ _
  refine Go.iload_n dX8_hold_0 rfl ?_
  refine Go.iload_n dX8_hold_1 rfl ?_
  refine Go.iload_n dX8_hold_2 rfl ?_
  refine Go.mminE dX8_hold_3 lkX8_310 (Nat.le_of_ble_eq_true rfl) ?_
  refine Go.mmaxE dX8_hold_6 lkX8_315 (Nat.le_of_ble_eq_true rfl) ?_
  refine Go.ireturn .int dX8_hold_9 rfl rfl ?_
  exact ⟨rfl, rfl⟩
theorem m_isCell {V : VV} {d : Nat} {μ : Memo} (v : Int32) : Ret V (d) mX9_isCell [vI v] μ (some (vI (bI (nI 0 ≤ v ∧ v ≤ nI 29)))) μ := by
  show Go V (d) mX9_isCell 0 [some (vI v)] [] μ _
  refine Go.iload_n dX9_isCell_0 rfl ?_
  refine Go.if_lt (tgt := 14) dX9_isCell_1 (by decide) (fun h1 => ?_) (fun h1 => ?_)
  · -- 1 taken
    refine Go.iconst (v := nI 0) dX9_isCell_14 rfl ?_
    refine Go.ireturn .boolean dX9_isCell_15 rfl rfl ?_
    exact ⟨congrArg (fun z => some (vI z)) (bI_f (by ((try simp only [sI_lt, sI_le, sI_eq, nT, Int32.toInt_zero, tI_n1, tI_NONE, and_true, true_and, or_true, true_or, or_false, false_or, and_false, false_and, not_true, not_false_iff] at *) <;> omega))).symm, rfl⟩
  · -- 1 not
    refine Go.iload_n dX9_isCell_4 rfl ?_
    refine Go.bipush (v := nI 30) dX9_isCell_5 rfl ?_
    refine Go.icmp_ge (tgt := 14) dX9_isCell_7 (by decide) (fun h7 => ?_) (fun h7 => ?_)
    · -- 7 taken
      refine Go.iconst (v := nI 0) dX9_isCell_14 rfl ?_
      refine Go.ireturn .boolean dX9_isCell_15 rfl rfl ?_
      exact ⟨congrArg (fun z => some (vI z)) (bI_f (by ((try simp only [sI_lt, sI_le, sI_eq, nT, Int32.toInt_zero, tI_n1, tI_NONE, and_true, true_and, or_true, true_or, or_false, false_or, and_false, false_and, not_true, not_false_iff] at *) <;> omega))).symm, rfl⟩
    · -- 7 not
      refine Go.iconst (v := nI 1) dX9_isCell_10 rfl ?_
      refine Go.goto (tgt := 15) dX9_isCell_11 (by decide) ?_
      refine Go.ireturn .boolean dX9_isCell_15 rfl rfl ?_
      exact ⟨congrArg (fun z => some (vI z)) (bI_t (by ((try simp only [sI_lt, sI_le, sI_eq, nT, Int32.toInt_zero, tI_n1, tI_NONE, and_true, true_and, or_true, true_or, or_false, false_or, and_false, false_and, not_true, not_false_iff] at *) <;> omega))).symm, rfl⟩
theorem m_isOf {V : VV} {d : Nat} {μ : Memo} (k j : Int32) : Ret V (d) mX9_isOf [vI k, vI j] μ (some (vI (bI (isOfP k j)))) μ := by
  show Go V (d) mX9_isOf 0 [some (vI k), some (vI j)] [] μ _
  refine Go.iload_n dX9_isOf_0 rfl ?_
  refine Go.iload_n dX9_isOf_1 rfl ?_
  refine Go.icmp_eq (tgt := 29) dX9_isOf_2 (by decide) (fun h2 => ?_) (fun h2 => ?_)
  · -- 2 taken
    refine Go.iconst (v := nI 1) dX9_isOf_29 rfl ?_
    refine Go.goto (tgt := 34) dX9_isOf_30 (by decide) ?_
    refine Go.ireturn .boolean dX9_isOf_34 rfl rfl ?_
    exact ⟨congrArg (fun z => some (vI z)) (bI_t (by unfold isOfP; ((try simp only [sI_lt, sI_le, sI_eq, nT, Int32.toInt_zero, tI_n1, tI_NONE, and_true, true_and, or_true, true_or, or_false, false_or, and_false, false_and, not_true, not_false_iff] at *) <;> omega))).symm, rfl⟩
  · -- 2 not
    refine Go.iload_n dX9_isOf_5 rfl ?_
    refine Go.if_eq (tgt := 29) dX9_isOf_6 (by decide) (fun h6 => ?_) (fun h6 => ?_)
    · -- 6 taken
      refine Go.iconst (v := nI 1) dX9_isOf_29 rfl ?_
      refine Go.goto (tgt := 34) dX9_isOf_30 (by decide) ?_
      refine Go.ireturn .boolean dX9_isOf_34 rfl rfl ?_
      exact ⟨congrArg (fun z => some (vI z)) (bI_t (by unfold isOfP; ((try simp only [sI_lt, sI_le, sI_eq, nT, Int32.toInt_zero, tI_n1, tI_NONE, and_true, true_and, or_true, true_or, or_false, false_or, and_false, false_and, not_true, not_false_iff] at *) <;> omega))).symm, rfl⟩
    · -- 6 not
      refine Go.iload_n dX9_isOf_9 rfl ?_
      refine Go.iconst (v := nI 1) dX9_isOf_10 rfl ?_
      refine Go.icmp_ne (tgt := 19) dX9_isOf_11 (by decide) (fun h11 => ?_) (fun h11 => ?_)
      · -- 11 taken
        refine Go.iload_n dX9_isOf_19 rfl ?_
        refine Go.iconst (v := nI 2) dX9_isOf_20 rfl ?_
        refine Go.icmp_ne (tgt := 33) dX9_isOf_21 (by decide) (fun h21 => ?_) (fun h21 => ?_)
        · -- 21 taken
          refine Go.iconst (v := nI 0) dX9_isOf_33 rfl ?_
          refine Go.ireturn .boolean dX9_isOf_34 rfl rfl ?_
          exact ⟨congrArg (fun z => some (vI z)) (bI_f (by unfold isOfP; ((try simp only [sI_lt, sI_le, sI_eq, nT, Int32.toInt_zero, tI_n1, tI_NONE, and_true, true_and, or_true, true_or, or_false, false_or, and_false, false_and, not_true, not_false_iff] at *) <;> omega))).symm, rfl⟩
        · -- 21 not
          refine Go.iload_n dX9_isOf_24 rfl ?_
          refine Go.iconst (v := nI 4) dX9_isOf_25 rfl ?_
          refine Go.icmp_ne (tgt := 33) dX9_isOf_26 (by decide) (fun h26 => ?_) (fun h26 => ?_)
          · -- 26 taken
            refine Go.iconst (v := nI 0) dX9_isOf_33 rfl ?_
            refine Go.ireturn .boolean dX9_isOf_34 rfl rfl ?_
            exact ⟨congrArg (fun z => some (vI z)) (bI_f (by unfold isOfP; ((try simp only [sI_lt, sI_le, sI_eq, nT, Int32.toInt_zero, tI_n1, tI_NONE, and_true, true_and, or_true, true_or, or_false, false_or, and_false, false_and, not_true, not_false_iff] at *) <;> omega))).symm, rfl⟩
          · -- 26 not
            refine Go.iconst (v := nI 1) dX9_isOf_29 rfl ?_
            refine Go.goto (tgt := 34) dX9_isOf_30 (by decide) ?_
            refine Go.ireturn .boolean dX9_isOf_34 rfl rfl ?_
            exact ⟨congrArg (fun z => some (vI z)) (bI_t (by unfold isOfP; ((try simp only [sI_lt, sI_le, sI_eq, nT, Int32.toInt_zero, tI_n1, tI_NONE, and_true, true_and, or_true, true_or, or_false, false_or, and_false, false_and, not_true, not_false_iff] at *) <;> omega))).symm, rfl⟩
      · -- 11 not
        refine Go.iload_n dX9_isOf_14 rfl ?_
        refine Go.iconst (v := nI 3) dX9_isOf_15 rfl ?_
        refine Go.icmp_eq (tgt := 29) dX9_isOf_16 (by decide) (fun h16 => ?_) (fun h16 => ?_)
        · -- 16 taken
          refine Go.iconst (v := nI 1) dX9_isOf_29 rfl ?_
          refine Go.goto (tgt := 34) dX9_isOf_30 (by decide) ?_
          refine Go.ireturn .boolean dX9_isOf_34 rfl rfl ?_
          exact ⟨congrArg (fun z => some (vI z)) (bI_t (by unfold isOfP; ((try simp only [sI_lt, sI_le, sI_eq, nT, Int32.toInt_zero, tI_n1, tI_NONE, and_true, true_and, or_true, true_or, or_false, false_or, and_false, false_and, not_true, not_false_iff] at *) <;> omega))).symm, rfl⟩
        · -- 16 not
          refine Go.iload_n dX9_isOf_19 rfl ?_
          refine Go.iconst (v := nI 2) dX9_isOf_20 rfl ?_
          refine Go.icmp_ne (tgt := 33) dX9_isOf_21 (by decide) (fun h21 => ?_) (fun h21 => ?_)
          · -- 21 taken
            refine Go.iconst (v := nI 0) dX9_isOf_33 rfl ?_
            refine Go.ireturn .boolean dX9_isOf_34 rfl rfl ?_
            exact ⟨congrArg (fun z => some (vI z)) (bI_f (by unfold isOfP; ((try simp only [sI_lt, sI_le, sI_eq, nT, Int32.toInt_zero, tI_n1, tI_NONE, and_true, true_and, or_true, true_or, or_false, false_or, and_false, false_and, not_true, not_false_iff] at *) <;> omega))).symm, rfl⟩
          · -- 21 not
            refine Go.iload_n dX9_isOf_24 rfl ?_
            refine Go.iconst (v := nI 4) dX9_isOf_25 rfl ?_
            refine Go.icmp_ne (tgt := 33) dX9_isOf_26 (by decide) (fun h26 => ?_) (fun h26 => ?_)
            · -- 26 taken
              refine Go.iconst (v := nI 0) dX9_isOf_33 rfl ?_
              refine Go.ireturn .boolean dX9_isOf_34 rfl rfl ?_
              exact ⟨congrArg (fun z => some (vI z)) (bI_f (by unfold isOfP; ((try simp only [sI_lt, sI_le, sI_eq, nT, Int32.toInt_zero, tI_n1, tI_NONE, and_true, true_and, or_true, true_or, or_false, false_or, and_false, false_and, not_true, not_false_iff] at *) <;> omega))).symm, rfl⟩
            · -- 26 not
              refine Go.iconst (v := nI 1) dX9_isOf_29 rfl ?_
              refine Go.goto (tgt := 34) dX9_isOf_30 (by decide) ?_
              refine Go.ireturn .boolean dX9_isOf_34 rfl rfl ?_
              exact ⟨congrArg (fun z => some (vI z)) (bI_t (by unfold isOfP; ((try simp only [sI_lt, sI_le, sI_eq, nT, Int32.toInt_zero, tI_n1, tI_NONE, and_true, true_and, or_true, true_or, or_false, false_or, and_false, false_and, not_true, not_false_iff] at *) <;> omega))).symm, rfl⟩
theorem m_mostOf {V : VV} {d : Nat} {μ : Memo} (k : Int32) : Ret V (d) mX9_mostOf [vI k] μ (some (vI (mostF k))) μ := by
  show Go V (d) mX9_mostOf 0 [some (vI k)] [] μ _
  refine Go.iload_n dX9_mostOf_0 rfl ?_
  refine Go.iconst (v := nI 2) dX9_mostOf_1 rfl ?_
  refine Go.icmp_eq (tgt := 10) dX9_mostOf_2 (by decide) (fun h2 => ?_) (fun h2 => ?_)
  · -- 2 taken
    refine Go.bipush (v := nI 9) dX9_mostOf_10 rfl ?_
    refine Go.goto (tgt := 27) dX9_mostOf_12 (by decide) ?_
    refine Go.ireturn .int dX9_mostOf_27 rfl rfl ?_
    exact ⟨congrArg (fun z => some (vI z)) (by unfold mostF; (repeat' split) <;> first | rfl | (exfalso; (try simp only [sI_lt, sI_le, sI_eq, nT, Int32.toInt_zero, tI_n1, tI_NONE] at *); omega)), rfl⟩
  · -- 2 not
    refine Go.iload_n dX9_mostOf_5 rfl ?_
    refine Go.iconst (v := nI 3) dX9_mostOf_6 rfl ?_
    refine Go.icmp_ne (tgt := 15) dX9_mostOf_7 (by decide) (fun h7 => ?_) (fun h7 => ?_)
    · -- 7 taken
      refine Go.iload_n dX9_mostOf_15 rfl ?_
      refine Go.iconst (v := nI 4) dX9_mostOf_16 rfl ?_
      refine Go.icmp_ne (tgt := 25) dX9_mostOf_17 (by decide) (fun h17 => ?_) (fun h17 => ?_)
      · -- 17 taken
        refine Go.bipush (v := nI 20) dX9_mostOf_25 rfl ?_
        refine Go.ireturn .int dX9_mostOf_27 rfl rfl ?_
        exact ⟨congrArg (fun z => some (vI z)) (by unfold mostF; (repeat' split) <;> first | rfl | (exfalso; (try simp only [sI_lt, sI_le, sI_eq, nT, Int32.toInt_zero, tI_n1, tI_NONE] at *); omega)), rfl⟩
      · -- 17 not
        refine Go.bipush (v := nI 100) dX9_mostOf_20 rfl ?_
        refine Go.goto (tgt := 27) dX9_mostOf_22 (by decide) ?_
        refine Go.ireturn .int dX9_mostOf_27 rfl rfl ?_
        exact ⟨congrArg (fun z => some (vI z)) (by unfold mostF; (repeat' split) <;> first | rfl | (exfalso; (try simp only [sI_lt, sI_le, sI_eq, nT, Int32.toInt_zero, tI_n1, tI_NONE] at *); omega)), rfl⟩
    · -- 7 not
      refine Go.bipush (v := nI 9) dX9_mostOf_10 rfl ?_
      refine Go.goto (tgt := 27) dX9_mostOf_12 (by decide) ?_
      refine Go.ireturn .int dX9_mostOf_27 rfl rfl ?_
      exact ⟨congrArg (fun z => some (vI z)) (by unfold mostF; (repeat' split) <;> first | rfl | (exfalso; (try simp only [sI_lt, sI_le, sI_eq, nT, Int32.toInt_zero, tI_n1, tI_NONE] at *); omega)), rfl⟩
theorem c_above_0 {V : VV} {d : Nat} {μ : Memo} : Ret V (d) mX2_above [vI (nI 0)] μ (some (vI ((-1000000005)))) μ := by
  show Go V (d) mX2_above 0 [some (vI (nI 0))] [] μ _
  refine Go.iload_n dX2_above_0 rfl ?_
  refine Go.tswD (tgt := 42) dX2_above_1 (by decide) (by decide) ?_
  refine Go.ldc dX2_above_42 cnX2_9 ?_
  refine Go.ireturn .int dX2_above_44 rfl rfl ?_
  exact ⟨rfl, rfl⟩
theorem c_above_1 {V : VV} {d : Nat} {μ : Memo} : Ret V (d) mX2_above [vI (nI 1)] μ (some (vI (nI 0))) μ := by
  show Go V (d) mX2_above 0 [some (vI (nI 1))] [] μ _
  refine Go.iload_n dX2_above_0 rfl ?_
  refine Go.tsw (tgt := 36) (nI 1) rfl dX2_above_1 (by decide) (by decide) rfl (by decide) ?_
  refine Go.iconst (v := nI 0) dX2_above_36 rfl ?_
  refine Go.ireturn .int dX2_above_37 rfl rfl ?_
  exact ⟨rfl, rfl⟩
theorem c_above_2 {V : VV} {d : Nat} {μ : Memo} : Ret V (d) mX2_above [vI (nI 2)] μ (some (vI (nI 0))) μ := by
  show Go V (d) mX2_above 0 [some (vI (nI 2))] [] μ _
  refine Go.iload_n dX2_above_0 rfl ?_
  refine Go.tsw (tgt := 36) (nI 2) rfl dX2_above_1 (by decide) (by decide) rfl (by decide) ?_
  refine Go.iconst (v := nI 0) dX2_above_36 rfl ?_
  refine Go.ireturn .int dX2_above_37 rfl rfl ?_
  exact ⟨rfl, rfl⟩
theorem c_above_3 {V : VV} {d : Nat} {μ : Memo} : Ret V (d) mX2_above [vI (nI 3)] μ (some (vI (nI 1))) μ := by
  show Go V (d) mX2_above 0 [some (vI (nI 3))] [] μ _
  refine Go.iload_n dX2_above_0 rfl ?_
  refine Go.tsw (tgt := 38) (nI 3) rfl dX2_above_1 (by decide) (by decide) rfl (by decide) ?_
  refine Go.iconst (v := nI 1) dX2_above_38 rfl ?_
  refine Go.ireturn .int dX2_above_39 rfl rfl ?_
  exact ⟨rfl, rfl⟩
theorem c_above_4 {V : VV} {d : Nat} {μ : Memo} : Ret V (d) mX2_above [vI (nI 4)] μ (some (vI (nI 2))) μ := by
  show Go V (d) mX2_above 0 [some (vI (nI 4))] [] μ _
  refine Go.iload_n dX2_above_0 rfl ?_
  refine Go.tsw (tgt := 40) (nI 4) rfl dX2_above_1 (by decide) (by decide) rfl (by decide) ?_
  refine Go.iconst (v := nI 2) dX2_above_40 rfl ?_
  refine Go.ireturn .int dX2_above_41 rfl rfl ?_
  exact ⟨rfl, rfl⟩
theorem c_above_5 {V : VV} {d : Nat} {μ : Memo} : Ret V (d) mX2_above [vI (nI 5)] μ (some (vI (nI 0))) μ := by
  show Go V (d) mX2_above 0 [some (vI (nI 5))] [] μ _
  refine Go.iload_n dX2_above_0 rfl ?_
  refine Go.tsw (tgt := 36) (nI 5) rfl dX2_above_1 (by decide) (by decide) rfl (by decide) ?_
  refine Go.iconst (v := nI 0) dX2_above_36 rfl ?_
  refine Go.ireturn .int dX2_above_37 rfl rfl ?_
  exact ⟨rfl, rfl⟩
theorem c_isUnder_0 {V : VV} {d : Nat} {μ : Memo} (j : Int32) (hj : nI 0 ≤ j ∧ j ≤ nI 5) : Ret V (d + 1) mX2_isUnder [vI (nI 0), vI j] μ (some (vI (bI (isOfP (nI 0) j)))) μ := by
  show Go V (d + 1) mX2_isUnder 0 [some (vI (nI 0)), some (vI j), none, none] [] μ _
  refine Go.iload_n dX2_isUnder_0 rfl ?_
  refine Go.istore_n (ls' := [some (vI (nI 0)), some (vI j), some (vI (nI 0)), none]) dX2_isUnder_1 (by decide) rfl ?_
  refine Go.iconst (v := nI 0) dX2_isUnder_2 rfl ?_
  refine Go.istore_n (ls' := [some (vI (nI 0)), some (vI j), some (vI (nI 0)), some (vI (nI 0))]) dX2_isUnder_3 (by decide) rfl ?_
  refine Go.iload_n dX2_isUnder_4 rfl ?_
  refine Go.iconst (v := nI 5) dX2_isUnder_5 rfl ?_
  refine Go.at 6 rfl ?_
  refine Go.icmp_gt_f (tgt := 33) dX2_isUnder_6 (by decide) (by decide) ?_
  refine Go.iload_n dX2_isUnder_9 rfl ?_
  refine Go.ldc dX2_isUnder_10 cnX2_9 ?_
  refine Go.icmp_eq_f (tgt := 33) dX2_isUnder_12 (by decide) (by decide) ?_
  refine Go.iload_n dX2_isUnder_15 rfl ?_
  refine Go.iload_n dX2_isUnder_16 rfl ?_
  refine Go.at 17 rfl ?_
  refine Go.icmp_ne (tgt := 22) dX2_isUnder_17 (by decide) (fun h17 => ?_) (fun h17 => ?_)
  · -- 17 taken
    refine Go.iload_n dX2_isUnder_22 rfl ?_
    refine Go.callSi [vI (nI 0)] [] dX2_isUnder_23 lkX2_10 rfl (Nat.le_of_ble_eq_true rfl) rfl (Nat.le_of_ble_eq_true rfl) c_above_0 ?_
    refine Go.istore_n (ls' := [some (vI (nI 0)), some (vI j), some (vI (-1000000005)), some (vI (nI 0))]) dX2_isUnder_26 (by decide) rfl ?_
    refine Go.iinc (v := nI 1) (ls' := [some (vI (nI 0)), some (vI j), some (vI (-1000000005)), some (vI (nI 1))]) dX2_isUnder_27 rfl (by decide) (by decide) rfl ?_
    refine Go.goto (tgt := 4) dX2_isUnder_30 (by decide) ?_
    refine Go.iload_n dX2_isUnder_4 rfl ?_
    refine Go.at 5 rfl ?_
    refine Go.iconst (v := nI 5) dX2_isUnder_5 rfl ?_
    refine Go.icmp_gt_f (tgt := 33) dX2_isUnder_6 (by decide) (by decide) ?_
    refine Go.iload_n dX2_isUnder_9 rfl ?_
    refine Go.ldc dX2_isUnder_10 cnX2_9 ?_
    refine Go.icmp_eq_t (tgt := 33) dX2_isUnder_12 (by decide) (by decide) ?_
    refine Go.iconst (v := nI 0) dX2_isUnder_33 rfl ?_
    refine Go.at 34 rfl ?_
    refine Go.ireturn .boolean dX2_isUnder_34 rfl rfl ?_
    exact ⟨congrArg (fun z => some (vI z)) (bI_f (by unfold isOfP; ((try simp only [sI_lt, sI_le, sI_eq, nT, Int32.toInt_zero, tI_n1, tI_NONE, and_true, true_and, or_true, true_or, or_false, false_or, and_false, false_and, not_true, not_false_iff] at *) <;> omega))).symm, rfl⟩
  · -- 17 not
    refine Go.iconst (v := nI 1) dX2_isUnder_20 rfl ?_
    refine Go.ireturn .boolean dX2_isUnder_21 rfl rfl ?_
    exact ⟨congrArg (fun z => some (vI z)) (bI_t (by unfold isOfP; ((try simp only [sI_lt, sI_le, sI_eq, nT, Int32.toInt_zero, tI_n1, tI_NONE, and_true, true_and, or_true, true_or, or_false, false_or, and_false, false_and, not_true, not_false_iff] at *) <;> omega))).symm, rfl⟩
theorem c_isUnder_1 {V : VV} {d : Nat} {μ : Memo} (j : Int32) (hj : nI 0 ≤ j ∧ j ≤ nI 5) : Ret V (d + 1) mX2_isUnder [vI (nI 1), vI j] μ (some (vI (bI (isOfP (nI 1) j)))) μ := by
  show Go V (d + 1) mX2_isUnder 0 [some (vI (nI 1)), some (vI j), none, none] [] μ _
  refine Go.iload_n dX2_isUnder_0 rfl ?_
  refine Go.istore_n (ls' := [some (vI (nI 1)), some (vI j), some (vI (nI 1)), none]) dX2_isUnder_1 (by decide) rfl ?_
  refine Go.iconst (v := nI 0) dX2_isUnder_2 rfl ?_
  refine Go.istore_n (ls' := [some (vI (nI 1)), some (vI j), some (vI (nI 1)), some (vI (nI 0))]) dX2_isUnder_3 (by decide) rfl ?_
  refine Go.iload_n dX2_isUnder_4 rfl ?_
  refine Go.iconst (v := nI 5) dX2_isUnder_5 rfl ?_
  refine Go.at 6 rfl ?_
  refine Go.icmp_gt_f (tgt := 33) dX2_isUnder_6 (by decide) (by decide) ?_
  refine Go.iload_n dX2_isUnder_9 rfl ?_
  refine Go.ldc dX2_isUnder_10 cnX2_9 ?_
  refine Go.icmp_eq_f (tgt := 33) dX2_isUnder_12 (by decide) (by decide) ?_
  refine Go.iload_n dX2_isUnder_15 rfl ?_
  refine Go.iload_n dX2_isUnder_16 rfl ?_
  refine Go.at 17 rfl ?_
  refine Go.icmp_ne (tgt := 22) dX2_isUnder_17 (by decide) (fun h17 => ?_) (fun h17 => ?_)
  · -- 17 taken
    refine Go.iload_n dX2_isUnder_22 rfl ?_
    refine Go.callSi [vI (nI 1)] [] dX2_isUnder_23 lkX2_10 rfl (Nat.le_of_ble_eq_true rfl) rfl (Nat.le_of_ble_eq_true rfl) c_above_1 ?_
    refine Go.istore_n (ls' := [some (vI (nI 1)), some (vI j), some (vI (nI 0)), some (vI (nI 0))]) dX2_isUnder_26 (by decide) rfl ?_
    refine Go.iinc (v := nI 1) (ls' := [some (vI (nI 1)), some (vI j), some (vI (nI 0)), some (vI (nI 1))]) dX2_isUnder_27 rfl (by decide) (by decide) rfl ?_
    refine Go.goto (tgt := 4) dX2_isUnder_30 (by decide) ?_
    refine Go.iload_n dX2_isUnder_4 rfl ?_
    refine Go.at 5 rfl ?_
    refine Go.iconst (v := nI 5) dX2_isUnder_5 rfl ?_
    refine Go.icmp_gt_f (tgt := 33) dX2_isUnder_6 (by decide) (by decide) ?_
    refine Go.iload_n dX2_isUnder_9 rfl ?_
    refine Go.ldc dX2_isUnder_10 cnX2_9 ?_
    refine Go.icmp_eq_f (tgt := 33) dX2_isUnder_12 (by decide) (by decide) ?_
    refine Go.iload_n dX2_isUnder_15 rfl ?_
    refine Go.at 16 rfl ?_
    refine Go.iload_n dX2_isUnder_16 rfl ?_
    refine Go.icmp_ne (tgt := 22) dX2_isUnder_17 (by decide) (fun h17 => ?_) (fun h17 => ?_)
    · -- 17 taken
      refine Go.iload_n dX2_isUnder_22 rfl ?_
      refine Go.callSi [vI (nI 0)] [] dX2_isUnder_23 lkX2_10 rfl (Nat.le_of_ble_eq_true rfl) rfl (Nat.le_of_ble_eq_true rfl) c_above_0 ?_
      refine Go.istore_n (ls' := [some (vI (nI 1)), some (vI j), some (vI (-1000000005)), some (vI (nI 1))]) dX2_isUnder_26 (by decide) rfl ?_
      refine Go.iinc (v := nI 2) (ls' := [some (vI (nI 1)), some (vI j), some (vI (-1000000005)), some (vI (nI 2))]) dX2_isUnder_27 rfl (by decide) (by decide) rfl ?_
      refine Go.goto (tgt := 4) dX2_isUnder_30 (by decide) ?_
      refine Go.iload_n dX2_isUnder_4 rfl ?_
      refine Go.at 5 rfl ?_
      refine Go.iconst (v := nI 5) dX2_isUnder_5 rfl ?_
      refine Go.icmp_gt_f (tgt := 33) dX2_isUnder_6 (by decide) (by decide) ?_
      refine Go.iload_n dX2_isUnder_9 rfl ?_
      refine Go.ldc dX2_isUnder_10 cnX2_9 ?_
      refine Go.icmp_eq_t (tgt := 33) dX2_isUnder_12 (by decide) (by decide) ?_
      refine Go.iconst (v := nI 0) dX2_isUnder_33 rfl ?_
      refine Go.at 34 rfl ?_
      refine Go.ireturn .boolean dX2_isUnder_34 rfl rfl ?_
      exact ⟨congrArg (fun z => some (vI z)) (bI_f (by unfold isOfP; ((try simp only [sI_lt, sI_le, sI_eq, nT, Int32.toInt_zero, tI_n1, tI_NONE, and_true, true_and, or_true, true_or, or_false, false_or, and_false, false_and, not_true, not_false_iff] at *) <;> omega))).symm, rfl⟩
    · -- 17 not
      refine Go.iconst (v := nI 1) dX2_isUnder_20 rfl ?_
      refine Go.ireturn .boolean dX2_isUnder_21 rfl rfl ?_
      exact ⟨congrArg (fun z => some (vI z)) (bI_t (by unfold isOfP; ((try simp only [sI_lt, sI_le, sI_eq, nT, Int32.toInt_zero, tI_n1, tI_NONE, and_true, true_and, or_true, true_or, or_false, false_or, and_false, false_and, not_true, not_false_iff] at *) <;> omega))).symm, rfl⟩
  · -- 17 not
    refine Go.iconst (v := nI 1) dX2_isUnder_20 rfl ?_
    refine Go.ireturn .boolean dX2_isUnder_21 rfl rfl ?_
    exact ⟨congrArg (fun z => some (vI z)) (bI_t (by unfold isOfP; ((try simp only [sI_lt, sI_le, sI_eq, nT, Int32.toInt_zero, tI_n1, tI_NONE, and_true, true_and, or_true, true_or, or_false, false_or, and_false, false_and, not_true, not_false_iff] at *) <;> omega))).symm, rfl⟩
theorem c_isUnder_2 {V : VV} {d : Nat} {μ : Memo} (j : Int32) (hj : nI 0 ≤ j ∧ j ≤ nI 5) : Ret V (d + 1) mX2_isUnder [vI (nI 2), vI j] μ (some (vI (bI (isOfP (nI 2) j)))) μ := by
  show Go V (d + 1) mX2_isUnder 0 [some (vI (nI 2)), some (vI j), none, none] [] μ _
  refine Go.iload_n dX2_isUnder_0 rfl ?_
  refine Go.istore_n (ls' := [some (vI (nI 2)), some (vI j), some (vI (nI 2)), none]) dX2_isUnder_1 (by decide) rfl ?_
  refine Go.iconst (v := nI 0) dX2_isUnder_2 rfl ?_
  refine Go.istore_n (ls' := [some (vI (nI 2)), some (vI j), some (vI (nI 2)), some (vI (nI 0))]) dX2_isUnder_3 (by decide) rfl ?_
  refine Go.iload_n dX2_isUnder_4 rfl ?_
  refine Go.iconst (v := nI 5) dX2_isUnder_5 rfl ?_
  refine Go.at 6 rfl ?_
  refine Go.icmp_gt_f (tgt := 33) dX2_isUnder_6 (by decide) (by decide) ?_
  refine Go.iload_n dX2_isUnder_9 rfl ?_
  refine Go.ldc dX2_isUnder_10 cnX2_9 ?_
  refine Go.icmp_eq_f (tgt := 33) dX2_isUnder_12 (by decide) (by decide) ?_
  refine Go.iload_n dX2_isUnder_15 rfl ?_
  refine Go.iload_n dX2_isUnder_16 rfl ?_
  refine Go.at 17 rfl ?_
  refine Go.icmp_ne (tgt := 22) dX2_isUnder_17 (by decide) (fun h17 => ?_) (fun h17 => ?_)
  · -- 17 taken
    refine Go.iload_n dX2_isUnder_22 rfl ?_
    refine Go.callSi [vI (nI 2)] [] dX2_isUnder_23 lkX2_10 rfl (Nat.le_of_ble_eq_true rfl) rfl (Nat.le_of_ble_eq_true rfl) c_above_2 ?_
    refine Go.istore_n (ls' := [some (vI (nI 2)), some (vI j), some (vI (nI 0)), some (vI (nI 0))]) dX2_isUnder_26 (by decide) rfl ?_
    refine Go.iinc (v := nI 1) (ls' := [some (vI (nI 2)), some (vI j), some (vI (nI 0)), some (vI (nI 1))]) dX2_isUnder_27 rfl (by decide) (by decide) rfl ?_
    refine Go.goto (tgt := 4) dX2_isUnder_30 (by decide) ?_
    refine Go.iload_n dX2_isUnder_4 rfl ?_
    refine Go.at 5 rfl ?_
    refine Go.iconst (v := nI 5) dX2_isUnder_5 rfl ?_
    refine Go.icmp_gt_f (tgt := 33) dX2_isUnder_6 (by decide) (by decide) ?_
    refine Go.iload_n dX2_isUnder_9 rfl ?_
    refine Go.ldc dX2_isUnder_10 cnX2_9 ?_
    refine Go.icmp_eq_f (tgt := 33) dX2_isUnder_12 (by decide) (by decide) ?_
    refine Go.iload_n dX2_isUnder_15 rfl ?_
    refine Go.at 16 rfl ?_
    refine Go.iload_n dX2_isUnder_16 rfl ?_
    refine Go.icmp_ne (tgt := 22) dX2_isUnder_17 (by decide) (fun h17 => ?_) (fun h17 => ?_)
    · -- 17 taken
      refine Go.iload_n dX2_isUnder_22 rfl ?_
      refine Go.callSi [vI (nI 0)] [] dX2_isUnder_23 lkX2_10 rfl (Nat.le_of_ble_eq_true rfl) rfl (Nat.le_of_ble_eq_true rfl) c_above_0 ?_
      refine Go.istore_n (ls' := [some (vI (nI 2)), some (vI j), some (vI (-1000000005)), some (vI (nI 1))]) dX2_isUnder_26 (by decide) rfl ?_
      refine Go.iinc (v := nI 2) (ls' := [some (vI (nI 2)), some (vI j), some (vI (-1000000005)), some (vI (nI 2))]) dX2_isUnder_27 rfl (by decide) (by decide) rfl ?_
      refine Go.goto (tgt := 4) dX2_isUnder_30 (by decide) ?_
      refine Go.iload_n dX2_isUnder_4 rfl ?_
      refine Go.at 5 rfl ?_
      refine Go.iconst (v := nI 5) dX2_isUnder_5 rfl ?_
      refine Go.icmp_gt_f (tgt := 33) dX2_isUnder_6 (by decide) (by decide) ?_
      refine Go.iload_n dX2_isUnder_9 rfl ?_
      refine Go.ldc dX2_isUnder_10 cnX2_9 ?_
      refine Go.icmp_eq_t (tgt := 33) dX2_isUnder_12 (by decide) (by decide) ?_
      refine Go.iconst (v := nI 0) dX2_isUnder_33 rfl ?_
      refine Go.at 34 rfl ?_
      refine Go.ireturn .boolean dX2_isUnder_34 rfl rfl ?_
      exact ⟨congrArg (fun z => some (vI z)) (bI_f (by unfold isOfP; ((try simp only [sI_lt, sI_le, sI_eq, nT, Int32.toInt_zero, tI_n1, tI_NONE, and_true, true_and, or_true, true_or, or_false, false_or, and_false, false_and, not_true, not_false_iff] at *) <;> omega))).symm, rfl⟩
    · -- 17 not
      refine Go.iconst (v := nI 1) dX2_isUnder_20 rfl ?_
      refine Go.ireturn .boolean dX2_isUnder_21 rfl rfl ?_
      exact ⟨congrArg (fun z => some (vI z)) (bI_t (by unfold isOfP; ((try simp only [sI_lt, sI_le, sI_eq, nT, Int32.toInt_zero, tI_n1, tI_NONE, and_true, true_and, or_true, true_or, or_false, false_or, and_false, false_and, not_true, not_false_iff] at *) <;> omega))).symm, rfl⟩
  · -- 17 not
    refine Go.iconst (v := nI 1) dX2_isUnder_20 rfl ?_
    refine Go.ireturn .boolean dX2_isUnder_21 rfl rfl ?_
    exact ⟨congrArg (fun z => some (vI z)) (bI_t (by unfold isOfP; ((try simp only [sI_lt, sI_le, sI_eq, nT, Int32.toInt_zero, tI_n1, tI_NONE, and_true, true_and, or_true, true_or, or_false, false_or, and_false, false_and, not_true, not_false_iff] at *) <;> omega))).symm, rfl⟩
theorem c_isUnder_3 {V : VV} {d : Nat} {μ : Memo} (j : Int32) (hj : nI 0 ≤ j ∧ j ≤ nI 5) : Ret V (d + 1) mX2_isUnder [vI (nI 3), vI j] μ (some (vI (bI (isOfP (nI 3) j)))) μ := by
  show Go V (d + 1) mX2_isUnder 0 [some (vI (nI 3)), some (vI j), none, none] [] μ _
  refine Go.iload_n dX2_isUnder_0 rfl ?_
  refine Go.istore_n (ls' := [some (vI (nI 3)), some (vI j), some (vI (nI 3)), none]) dX2_isUnder_1 (by decide) rfl ?_
  refine Go.iconst (v := nI 0) dX2_isUnder_2 rfl ?_
  refine Go.istore_n (ls' := [some (vI (nI 3)), some (vI j), some (vI (nI 3)), some (vI (nI 0))]) dX2_isUnder_3 (by decide) rfl ?_
  refine Go.iload_n dX2_isUnder_4 rfl ?_
  refine Go.iconst (v := nI 5) dX2_isUnder_5 rfl ?_
  refine Go.at 6 rfl ?_
  refine Go.icmp_gt_f (tgt := 33) dX2_isUnder_6 (by decide) (by decide) ?_
  refine Go.iload_n dX2_isUnder_9 rfl ?_
  refine Go.ldc dX2_isUnder_10 cnX2_9 ?_
  refine Go.icmp_eq_f (tgt := 33) dX2_isUnder_12 (by decide) (by decide) ?_
  refine Go.iload_n dX2_isUnder_15 rfl ?_
  refine Go.iload_n dX2_isUnder_16 rfl ?_
  refine Go.at 17 rfl ?_
  refine Go.icmp_ne (tgt := 22) dX2_isUnder_17 (by decide) (fun h17 => ?_) (fun h17 => ?_)
  · -- 17 taken
    refine Go.iload_n dX2_isUnder_22 rfl ?_
    refine Go.callSi [vI (nI 3)] [] dX2_isUnder_23 lkX2_10 rfl (Nat.le_of_ble_eq_true rfl) rfl (Nat.le_of_ble_eq_true rfl) c_above_3 ?_
    refine Go.istore_n (ls' := [some (vI (nI 3)), some (vI j), some (vI (nI 1)), some (vI (nI 0))]) dX2_isUnder_26 (by decide) rfl ?_
    refine Go.iinc (v := nI 1) (ls' := [some (vI (nI 3)), some (vI j), some (vI (nI 1)), some (vI (nI 1))]) dX2_isUnder_27 rfl (by decide) (by decide) rfl ?_
    refine Go.goto (tgt := 4) dX2_isUnder_30 (by decide) ?_
    refine Go.iload_n dX2_isUnder_4 rfl ?_
    refine Go.at 5 rfl ?_
    refine Go.iconst (v := nI 5) dX2_isUnder_5 rfl ?_
    refine Go.icmp_gt_f (tgt := 33) dX2_isUnder_6 (by decide) (by decide) ?_
    refine Go.iload_n dX2_isUnder_9 rfl ?_
    refine Go.ldc dX2_isUnder_10 cnX2_9 ?_
    refine Go.icmp_eq_f (tgt := 33) dX2_isUnder_12 (by decide) (by decide) ?_
    refine Go.iload_n dX2_isUnder_15 rfl ?_
    refine Go.at 16 rfl ?_
    refine Go.iload_n dX2_isUnder_16 rfl ?_
    refine Go.icmp_ne (tgt := 22) dX2_isUnder_17 (by decide) (fun h17 => ?_) (fun h17 => ?_)
    · -- 17 taken
      refine Go.iload_n dX2_isUnder_22 rfl ?_
      refine Go.callSi [vI (nI 1)] [] dX2_isUnder_23 lkX2_10 rfl (Nat.le_of_ble_eq_true rfl) rfl (Nat.le_of_ble_eq_true rfl) c_above_1 ?_
      refine Go.istore_n (ls' := [some (vI (nI 3)), some (vI j), some (vI (nI 0)), some (vI (nI 1))]) dX2_isUnder_26 (by decide) rfl ?_
      refine Go.iinc (v := nI 2) (ls' := [some (vI (nI 3)), some (vI j), some (vI (nI 0)), some (vI (nI 2))]) dX2_isUnder_27 rfl (by decide) (by decide) rfl ?_
      refine Go.goto (tgt := 4) dX2_isUnder_30 (by decide) ?_
      refine Go.iload_n dX2_isUnder_4 rfl ?_
      refine Go.at 5 rfl ?_
      refine Go.iconst (v := nI 5) dX2_isUnder_5 rfl ?_
      refine Go.icmp_gt_f (tgt := 33) dX2_isUnder_6 (by decide) (by decide) ?_
      refine Go.iload_n dX2_isUnder_9 rfl ?_
      refine Go.ldc dX2_isUnder_10 cnX2_9 ?_
      refine Go.icmp_eq_f (tgt := 33) dX2_isUnder_12 (by decide) (by decide) ?_
      refine Go.iload_n dX2_isUnder_15 rfl ?_
      refine Go.at 16 rfl ?_
      refine Go.iload_n dX2_isUnder_16 rfl ?_
      refine Go.icmp_ne (tgt := 22) dX2_isUnder_17 (by decide) (fun h17 => ?_) (fun h17 => ?_)
      · -- 17 taken
        refine Go.iload_n dX2_isUnder_22 rfl ?_
        refine Go.callSi [vI (nI 0)] [] dX2_isUnder_23 lkX2_10 rfl (Nat.le_of_ble_eq_true rfl) rfl (Nat.le_of_ble_eq_true rfl) c_above_0 ?_
        refine Go.istore_n (ls' := [some (vI (nI 3)), some (vI j), some (vI (-1000000005)), some (vI (nI 2))]) dX2_isUnder_26 (by decide) rfl ?_
        refine Go.iinc (v := nI 3) (ls' := [some (vI (nI 3)), some (vI j), some (vI (-1000000005)), some (vI (nI 3))]) dX2_isUnder_27 rfl (by decide) (by decide) rfl ?_
        refine Go.goto (tgt := 4) dX2_isUnder_30 (by decide) ?_
        refine Go.iload_n dX2_isUnder_4 rfl ?_
        refine Go.at 5 rfl ?_
        refine Go.iconst (v := nI 5) dX2_isUnder_5 rfl ?_
        refine Go.icmp_gt_f (tgt := 33) dX2_isUnder_6 (by decide) (by decide) ?_
        refine Go.iload_n dX2_isUnder_9 rfl ?_
        refine Go.ldc dX2_isUnder_10 cnX2_9 ?_
        refine Go.icmp_eq_t (tgt := 33) dX2_isUnder_12 (by decide) (by decide) ?_
        refine Go.iconst (v := nI 0) dX2_isUnder_33 rfl ?_
        refine Go.at 34 rfl ?_
        refine Go.ireturn .boolean dX2_isUnder_34 rfl rfl ?_
        exact ⟨congrArg (fun z => some (vI z)) (bI_f (by unfold isOfP; ((try simp only [sI_lt, sI_le, sI_eq, nT, Int32.toInt_zero, tI_n1, tI_NONE, and_true, true_and, or_true, true_or, or_false, false_or, and_false, false_and, not_true, not_false_iff] at *) <;> omega))).symm, rfl⟩
      · -- 17 not
        refine Go.iconst (v := nI 1) dX2_isUnder_20 rfl ?_
        refine Go.ireturn .boolean dX2_isUnder_21 rfl rfl ?_
        exact ⟨congrArg (fun z => some (vI z)) (bI_t (by unfold isOfP; ((try simp only [sI_lt, sI_le, sI_eq, nT, Int32.toInt_zero, tI_n1, tI_NONE, and_true, true_and, or_true, true_or, or_false, false_or, and_false, false_and, not_true, not_false_iff] at *) <;> omega))).symm, rfl⟩
    · -- 17 not
      refine Go.iconst (v := nI 1) dX2_isUnder_20 rfl ?_
      refine Go.ireturn .boolean dX2_isUnder_21 rfl rfl ?_
      exact ⟨congrArg (fun z => some (vI z)) (bI_t (by unfold isOfP; ((try simp only [sI_lt, sI_le, sI_eq, nT, Int32.toInt_zero, tI_n1, tI_NONE, and_true, true_and, or_true, true_or, or_false, false_or, and_false, false_and, not_true, not_false_iff] at *) <;> omega))).symm, rfl⟩
  · -- 17 not
    refine Go.iconst (v := nI 1) dX2_isUnder_20 rfl ?_
    refine Go.ireturn .boolean dX2_isUnder_21 rfl rfl ?_
    exact ⟨congrArg (fun z => some (vI z)) (bI_t (by unfold isOfP; ((try simp only [sI_lt, sI_le, sI_eq, nT, Int32.toInt_zero, tI_n1, tI_NONE, and_true, true_and, or_true, true_or, or_false, false_or, and_false, false_and, not_true, not_false_iff] at *) <;> omega))).symm, rfl⟩
theorem c_isUnder_4 {V : VV} {d : Nat} {μ : Memo} (j : Int32) (hj : nI 0 ≤ j ∧ j ≤ nI 5) : Ret V (d + 1) mX2_isUnder [vI (nI 4), vI j] μ (some (vI (bI (isOfP (nI 4) j)))) μ := by
  show Go V (d + 1) mX2_isUnder 0 [some (vI (nI 4)), some (vI j), none, none] [] μ _
  refine Go.iload_n dX2_isUnder_0 rfl ?_
  refine Go.istore_n (ls' := [some (vI (nI 4)), some (vI j), some (vI (nI 4)), none]) dX2_isUnder_1 (by decide) rfl ?_
  refine Go.iconst (v := nI 0) dX2_isUnder_2 rfl ?_
  refine Go.istore_n (ls' := [some (vI (nI 4)), some (vI j), some (vI (nI 4)), some (vI (nI 0))]) dX2_isUnder_3 (by decide) rfl ?_
  refine Go.iload_n dX2_isUnder_4 rfl ?_
  refine Go.iconst (v := nI 5) dX2_isUnder_5 rfl ?_
  refine Go.at 6 rfl ?_
  refine Go.icmp_gt_f (tgt := 33) dX2_isUnder_6 (by decide) (by decide) ?_
  refine Go.iload_n dX2_isUnder_9 rfl ?_
  refine Go.ldc dX2_isUnder_10 cnX2_9 ?_
  refine Go.icmp_eq_f (tgt := 33) dX2_isUnder_12 (by decide) (by decide) ?_
  refine Go.iload_n dX2_isUnder_15 rfl ?_
  refine Go.iload_n dX2_isUnder_16 rfl ?_
  refine Go.at 17 rfl ?_
  refine Go.icmp_ne (tgt := 22) dX2_isUnder_17 (by decide) (fun h17 => ?_) (fun h17 => ?_)
  · -- 17 taken
    refine Go.iload_n dX2_isUnder_22 rfl ?_
    refine Go.callSi [vI (nI 4)] [] dX2_isUnder_23 lkX2_10 rfl (Nat.le_of_ble_eq_true rfl) rfl (Nat.le_of_ble_eq_true rfl) c_above_4 ?_
    refine Go.istore_n (ls' := [some (vI (nI 4)), some (vI j), some (vI (nI 2)), some (vI (nI 0))]) dX2_isUnder_26 (by decide) rfl ?_
    refine Go.iinc (v := nI 1) (ls' := [some (vI (nI 4)), some (vI j), some (vI (nI 2)), some (vI (nI 1))]) dX2_isUnder_27 rfl (by decide) (by decide) rfl ?_
    refine Go.goto (tgt := 4) dX2_isUnder_30 (by decide) ?_
    refine Go.iload_n dX2_isUnder_4 rfl ?_
    refine Go.at 5 rfl ?_
    refine Go.iconst (v := nI 5) dX2_isUnder_5 rfl ?_
    refine Go.icmp_gt_f (tgt := 33) dX2_isUnder_6 (by decide) (by decide) ?_
    refine Go.iload_n dX2_isUnder_9 rfl ?_
    refine Go.ldc dX2_isUnder_10 cnX2_9 ?_
    refine Go.icmp_eq_f (tgt := 33) dX2_isUnder_12 (by decide) (by decide) ?_
    refine Go.iload_n dX2_isUnder_15 rfl ?_
    refine Go.at 16 rfl ?_
    refine Go.iload_n dX2_isUnder_16 rfl ?_
    refine Go.icmp_ne (tgt := 22) dX2_isUnder_17 (by decide) (fun h17 => ?_) (fun h17 => ?_)
    · -- 17 taken
      refine Go.iload_n dX2_isUnder_22 rfl ?_
      refine Go.callSi [vI (nI 2)] [] dX2_isUnder_23 lkX2_10 rfl (Nat.le_of_ble_eq_true rfl) rfl (Nat.le_of_ble_eq_true rfl) c_above_2 ?_
      refine Go.istore_n (ls' := [some (vI (nI 4)), some (vI j), some (vI (nI 0)), some (vI (nI 1))]) dX2_isUnder_26 (by decide) rfl ?_
      refine Go.iinc (v := nI 2) (ls' := [some (vI (nI 4)), some (vI j), some (vI (nI 0)), some (vI (nI 2))]) dX2_isUnder_27 rfl (by decide) (by decide) rfl ?_
      refine Go.goto (tgt := 4) dX2_isUnder_30 (by decide) ?_
      refine Go.iload_n dX2_isUnder_4 rfl ?_
      refine Go.at 5 rfl ?_
      refine Go.iconst (v := nI 5) dX2_isUnder_5 rfl ?_
      refine Go.icmp_gt_f (tgt := 33) dX2_isUnder_6 (by decide) (by decide) ?_
      refine Go.iload_n dX2_isUnder_9 rfl ?_
      refine Go.ldc dX2_isUnder_10 cnX2_9 ?_
      refine Go.icmp_eq_f (tgt := 33) dX2_isUnder_12 (by decide) (by decide) ?_
      refine Go.iload_n dX2_isUnder_15 rfl ?_
      refine Go.at 16 rfl ?_
      refine Go.iload_n dX2_isUnder_16 rfl ?_
      refine Go.icmp_ne (tgt := 22) dX2_isUnder_17 (by decide) (fun h17 => ?_) (fun h17 => ?_)
      · -- 17 taken
        refine Go.iload_n dX2_isUnder_22 rfl ?_
        refine Go.callSi [vI (nI 0)] [] dX2_isUnder_23 lkX2_10 rfl (Nat.le_of_ble_eq_true rfl) rfl (Nat.le_of_ble_eq_true rfl) c_above_0 ?_
        refine Go.istore_n (ls' := [some (vI (nI 4)), some (vI j), some (vI (-1000000005)), some (vI (nI 2))]) dX2_isUnder_26 (by decide) rfl ?_
        refine Go.iinc (v := nI 3) (ls' := [some (vI (nI 4)), some (vI j), some (vI (-1000000005)), some (vI (nI 3))]) dX2_isUnder_27 rfl (by decide) (by decide) rfl ?_
        refine Go.goto (tgt := 4) dX2_isUnder_30 (by decide) ?_
        refine Go.iload_n dX2_isUnder_4 rfl ?_
        refine Go.at 5 rfl ?_
        refine Go.iconst (v := nI 5) dX2_isUnder_5 rfl ?_
        refine Go.icmp_gt_f (tgt := 33) dX2_isUnder_6 (by decide) (by decide) ?_
        refine Go.iload_n dX2_isUnder_9 rfl ?_
        refine Go.ldc dX2_isUnder_10 cnX2_9 ?_
        refine Go.icmp_eq_t (tgt := 33) dX2_isUnder_12 (by decide) (by decide) ?_
        refine Go.iconst (v := nI 0) dX2_isUnder_33 rfl ?_
        refine Go.at 34 rfl ?_
        refine Go.ireturn .boolean dX2_isUnder_34 rfl rfl ?_
        exact ⟨congrArg (fun z => some (vI z)) (bI_f (by unfold isOfP; ((try simp only [sI_lt, sI_le, sI_eq, nT, Int32.toInt_zero, tI_n1, tI_NONE, and_true, true_and, or_true, true_or, or_false, false_or, and_false, false_and, not_true, not_false_iff] at *) <;> omega))).symm, rfl⟩
      · -- 17 not
        refine Go.iconst (v := nI 1) dX2_isUnder_20 rfl ?_
        refine Go.ireturn .boolean dX2_isUnder_21 rfl rfl ?_
        exact ⟨congrArg (fun z => some (vI z)) (bI_t (by unfold isOfP; ((try simp only [sI_lt, sI_le, sI_eq, nT, Int32.toInt_zero, tI_n1, tI_NONE, and_true, true_and, or_true, true_or, or_false, false_or, and_false, false_and, not_true, not_false_iff] at *) <;> omega))).symm, rfl⟩
    · -- 17 not
      refine Go.iconst (v := nI 1) dX2_isUnder_20 rfl ?_
      refine Go.ireturn .boolean dX2_isUnder_21 rfl rfl ?_
      exact ⟨congrArg (fun z => some (vI z)) (bI_t (by unfold isOfP; ((try simp only [sI_lt, sI_le, sI_eq, nT, Int32.toInt_zero, tI_n1, tI_NONE, and_true, true_and, or_true, true_or, or_false, false_or, and_false, false_and, not_true, not_false_iff] at *) <;> omega))).symm, rfl⟩
  · -- 17 not
    refine Go.iconst (v := nI 1) dX2_isUnder_20 rfl ?_
    refine Go.ireturn .boolean dX2_isUnder_21 rfl rfl ?_
    exact ⟨congrArg (fun z => some (vI z)) (bI_t (by unfold isOfP; ((try simp only [sI_lt, sI_le, sI_eq, nT, Int32.toInt_zero, tI_n1, tI_NONE, and_true, true_and, or_true, true_or, or_false, false_or, and_false, false_and, not_true, not_false_iff] at *) <;> omega))).symm, rfl⟩
theorem c_isUnder_5 {V : VV} {d : Nat} {μ : Memo} (j : Int32) (hj : nI 0 ≤ j ∧ j ≤ nI 5) : Ret V (d + 1) mX2_isUnder [vI (nI 5), vI j] μ (some (vI (bI (isOfP (nI 5) j)))) μ := by
  show Go V (d + 1) mX2_isUnder 0 [some (vI (nI 5)), some (vI j), none, none] [] μ _
  refine Go.iload_n dX2_isUnder_0 rfl ?_
  refine Go.istore_n (ls' := [some (vI (nI 5)), some (vI j), some (vI (nI 5)), none]) dX2_isUnder_1 (by decide) rfl ?_
  refine Go.iconst (v := nI 0) dX2_isUnder_2 rfl ?_
  refine Go.istore_n (ls' := [some (vI (nI 5)), some (vI j), some (vI (nI 5)), some (vI (nI 0))]) dX2_isUnder_3 (by decide) rfl ?_
  refine Go.iload_n dX2_isUnder_4 rfl ?_
  refine Go.iconst (v := nI 5) dX2_isUnder_5 rfl ?_
  refine Go.at 6 rfl ?_
  refine Go.icmp_gt_f (tgt := 33) dX2_isUnder_6 (by decide) (by decide) ?_
  refine Go.iload_n dX2_isUnder_9 rfl ?_
  refine Go.ldc dX2_isUnder_10 cnX2_9 ?_
  refine Go.icmp_eq_f (tgt := 33) dX2_isUnder_12 (by decide) (by decide) ?_
  refine Go.iload_n dX2_isUnder_15 rfl ?_
  refine Go.iload_n dX2_isUnder_16 rfl ?_
  refine Go.at 17 rfl ?_
  refine Go.icmp_ne (tgt := 22) dX2_isUnder_17 (by decide) (fun h17 => ?_) (fun h17 => ?_)
  · -- 17 taken
    refine Go.iload_n dX2_isUnder_22 rfl ?_
    refine Go.callSi [vI (nI 5)] [] dX2_isUnder_23 lkX2_10 rfl (Nat.le_of_ble_eq_true rfl) rfl (Nat.le_of_ble_eq_true rfl) c_above_5 ?_
    refine Go.istore_n (ls' := [some (vI (nI 5)), some (vI j), some (vI (nI 0)), some (vI (nI 0))]) dX2_isUnder_26 (by decide) rfl ?_
    refine Go.iinc (v := nI 1) (ls' := [some (vI (nI 5)), some (vI j), some (vI (nI 0)), some (vI (nI 1))]) dX2_isUnder_27 rfl (by decide) (by decide) rfl ?_
    refine Go.goto (tgt := 4) dX2_isUnder_30 (by decide) ?_
    refine Go.iload_n dX2_isUnder_4 rfl ?_
    refine Go.at 5 rfl ?_
    refine Go.iconst (v := nI 5) dX2_isUnder_5 rfl ?_
    refine Go.icmp_gt_f (tgt := 33) dX2_isUnder_6 (by decide) (by decide) ?_
    refine Go.iload_n dX2_isUnder_9 rfl ?_
    refine Go.ldc dX2_isUnder_10 cnX2_9 ?_
    refine Go.icmp_eq_f (tgt := 33) dX2_isUnder_12 (by decide) (by decide) ?_
    refine Go.iload_n dX2_isUnder_15 rfl ?_
    refine Go.at 16 rfl ?_
    refine Go.iload_n dX2_isUnder_16 rfl ?_
    refine Go.icmp_ne (tgt := 22) dX2_isUnder_17 (by decide) (fun h17 => ?_) (fun h17 => ?_)
    · -- 17 taken
      refine Go.iload_n dX2_isUnder_22 rfl ?_
      refine Go.callSi [vI (nI 0)] [] dX2_isUnder_23 lkX2_10 rfl (Nat.le_of_ble_eq_true rfl) rfl (Nat.le_of_ble_eq_true rfl) c_above_0 ?_
      refine Go.istore_n (ls' := [some (vI (nI 5)), some (vI j), some (vI (-1000000005)), some (vI (nI 1))]) dX2_isUnder_26 (by decide) rfl ?_
      refine Go.iinc (v := nI 2) (ls' := [some (vI (nI 5)), some (vI j), some (vI (-1000000005)), some (vI (nI 2))]) dX2_isUnder_27 rfl (by decide) (by decide) rfl ?_
      refine Go.goto (tgt := 4) dX2_isUnder_30 (by decide) ?_
      refine Go.iload_n dX2_isUnder_4 rfl ?_
      refine Go.at 5 rfl ?_
      refine Go.iconst (v := nI 5) dX2_isUnder_5 rfl ?_
      refine Go.icmp_gt_f (tgt := 33) dX2_isUnder_6 (by decide) (by decide) ?_
      refine Go.iload_n dX2_isUnder_9 rfl ?_
      refine Go.ldc dX2_isUnder_10 cnX2_9 ?_
      refine Go.icmp_eq_t (tgt := 33) dX2_isUnder_12 (by decide) (by decide) ?_
      refine Go.iconst (v := nI 0) dX2_isUnder_33 rfl ?_
      refine Go.at 34 rfl ?_
      refine Go.ireturn .boolean dX2_isUnder_34 rfl rfl ?_
      exact ⟨congrArg (fun z => some (vI z)) (bI_f (by unfold isOfP; ((try simp only [sI_lt, sI_le, sI_eq, nT, Int32.toInt_zero, tI_n1, tI_NONE, and_true, true_and, or_true, true_or, or_false, false_or, and_false, false_and, not_true, not_false_iff] at *) <;> omega))).symm, rfl⟩
    · -- 17 not
      refine Go.iconst (v := nI 1) dX2_isUnder_20 rfl ?_
      refine Go.ireturn .boolean dX2_isUnder_21 rfl rfl ?_
      exact ⟨congrArg (fun z => some (vI z)) (bI_t (by unfold isOfP; ((try simp only [sI_lt, sI_le, sI_eq, nT, Int32.toInt_zero, tI_n1, tI_NONE, and_true, true_and, or_true, true_or, or_false, false_or, and_false, false_and, not_true, not_false_iff] at *) <;> omega))).symm, rfl⟩
  · -- 17 not
    refine Go.iconst (v := nI 1) dX2_isUnder_20 rfl ?_
    refine Go.ireturn .boolean dX2_isUnder_21 rfl rfl ?_
    exact ⟨congrArg (fun z => some (vI z)) (bI_t (by unfold isOfP; ((try simp only [sI_lt, sI_le, sI_eq, nT, Int32.toInt_zero, tI_n1, tI_NONE, and_true, true_and, or_true, true_or, or_false, false_or, and_false, false_and, not_true, not_false_iff] at *) <;> omega))).symm, rfl⟩
theorem c_topOf {V : VV} {d : Nat} {μ : Memo} (k h st : Int32) : Ret V (d) mX2_topOf [vI k, vI h, vI st] μ (some (vI (topF k h st))) μ := by
  show Go V (d) mX2_topOf 0 [some (vI k), some (vI h), some (vI st)] [] μ _
  refine Go.iload_n dX2_topOf_0 rfl ?_
  by_cases h1_2 : k = nI 2
  · refine Go.tsw (tgt := 36) (nI 2) h1_2 dX2_topOf_1 (by decide) (by decide) rfl (by decide) ?_
    refine Go.iload_n dX2_topOf_36 rfl ?_
    refine Go.iconst (v := nI 2) dX2_topOf_37 rfl ?_
    refine Go.iadd dX2_topOf_38 ?_
    refine Go.ireturn .int dX2_topOf_39 rfl rfl ?_
    exact ⟨congrArg (fun z => some (vI z)) (by unfold topF; (repeat' split) <;> first | rfl | (exfalso; (try simp only [sI_lt, sI_le, sI_eq, nT, Int32.toInt_zero, tI_n1, tI_NONE] at *); omega)), rfl⟩
  by_cases h1_3 : k = nI 3
  · refine Go.tsw (tgt := 32) (nI 3) h1_3 dX2_topOf_1 (by decide) (by decide) rfl (by decide) ?_
    refine Go.iload_n dX2_topOf_32 rfl ?_
    refine Go.iconst (v := nI 1) dX2_topOf_33 rfl ?_
    refine Go.iadd dX2_topOf_34 ?_
    refine Go.ireturn .int dX2_topOf_35 rfl rfl ?_
    exact ⟨congrArg (fun z => some (vI z)) (by unfold topF; (repeat' split) <;> first | rfl | (exfalso; (try simp only [sI_lt, sI_le, sI_eq, nT, Int32.toInt_zero, tI_n1, tI_NONE] at *); omega)), rfl⟩
  by_cases h1_4 : k = nI 4
  · refine Go.tsw (tgt := 40) (nI 4) h1_4 dX2_topOf_1 (by decide) (by decide) rfl (by decide) ?_
    refine Go.iload_n dX2_topOf_40 rfl ?_
    refine Go.iconst (v := nI 3) dX2_topOf_41 rfl ?_
    refine Go.iadd dX2_topOf_42 ?_
    refine Go.ireturn .int dX2_topOf_43 rfl rfl ?_
    exact ⟨congrArg (fun z => some (vI z)) (by unfold topF; (repeat' split) <;> first | rfl | (exfalso; (try simp only [sI_lt, sI_le, sI_eq, nT, Int32.toInt_zero, tI_n1, tI_NONE] at *); omega)), rfl⟩
  by_cases h1_5 : k = nI 5
  · refine Go.tsw (tgt := 44) (nI 5) h1_5 dX2_topOf_1 (by decide) (by decide) rfl (by decide) ?_
    refine Go.iload_n dX2_topOf_44 rfl ?_
    refine Go.iload_n dX2_topOf_45 rfl ?_
    refine Go.iadd dX2_topOf_46 ?_
    refine Go.ireturn .int dX2_topOf_47 rfl rfl ?_
    exact ⟨congrArg (fun z => some (vI z)) (by unfold topF; (repeat' split) <;> first | rfl | (exfalso; (try simp only [sI_lt, sI_le, sI_eq, nT, Int32.toInt_zero, tI_n1, tI_NONE] at *); omega)), rfl⟩
  refine Go.tswD (tgt := 48) dX2_topOf_1 (by have a0 := lv_neT h1_2 (a := 2) rfl; have a1 := lv_neT h1_3 (a := 3) rfl; have a2 := lv_neT h1_4 (a := 4) rfl; have a3 := lv_neT h1_5 (a := 5) rfl; omega) (by decide) ?_
  refine Go.iload_n dX2_topOf_48 rfl ?_
  refine Go.ireturn .int dX2_topOf_49 rfl rfl ?_
  exact ⟨congrArg (fun z => some (vI z)) (by unfold topF; (repeat' split) <;> first | rfl | (exfalso; (try simp only [sI_lt, sI_le, sI_eq, nT, Int32.toInt_zero, tI_n1, tI_NONE] at *); omega)), rfl⟩
theorem c_worthOf {V : VV} {d : Nat} {μ : Memo} (k h : Int32) : Ret V (d) mX2_worthOf [vI k, vI h] μ (some (vI (worthF k h))) μ := by
  show Go V (d) mX2_worthOf 0 [some (vI k), some (vI h)] [] μ _
  refine Go.iload_n dX2_worthOf_0 rfl ?_
  by_cases h1_1 : k = nI 1
  · refine Go.tsw (tgt := 36) (nI 1) h1_1 dX2_worthOf_1 (by decide) (by decide) rfl (by decide) ?_
    refine Go.iload_n dX2_worthOf_36 rfl ?_
    refine Go.iconst (v := nI 3) dX2_worthOf_37 rfl ?_
    refine Go.iadd dX2_worthOf_38 ?_
    refine Go.ireturn .int dX2_worthOf_39 rfl rfl ?_
    exact ⟨congrArg (fun z => some (vI z)) (by unfold worthF; (repeat' split) <;> first | rfl | (exfalso; (try simp only [sI_lt, sI_le, sI_eq, nT, Int32.toInt_zero, tI_n1, tI_NONE] at *); omega)), rfl⟩
  by_cases h1_2 : k = nI 2
  · refine Go.tsw (tgt := 46) (nI 2) h1_2 dX2_worthOf_1 (by decide) (by decide) rfl (by decide) ?_
    refine Go.bipush (v := nI 20) dX2_worthOf_46 rfl ?_
    refine Go.iload_n dX2_worthOf_48 rfl ?_
    refine Go.isub dX2_worthOf_49 ?_
    refine Go.ireturn .int dX2_worthOf_50 rfl rfl ?_
    exact ⟨congrArg (fun z => some (vI z)) (by unfold worthF; (repeat' split) <;> first | rfl | (exfalso; (try simp only [sI_lt, sI_le, sI_eq, nT, Int32.toInt_zero, tI_n1, tI_NONE] at *); omega)), rfl⟩
  by_cases h1_3 : k = nI 3
  · refine Go.tsw (tgt := 40) (nI 3) h1_3 dX2_worthOf_1 (by decide) (by decide) rfl (by decide) ?_
    refine Go.iconst (v := nI 2) dX2_worthOf_40 rfl ?_
    refine Go.iload_n dX2_worthOf_41 rfl ?_
    refine Go.iconst (v := nI 3) dX2_worthOf_42 rfl ?_
    refine Go.iadd dX2_worthOf_43 ?_
    refine Go.imul dX2_worthOf_44 ?_
    refine Go.ireturn .int dX2_worthOf_45 rfl rfl ?_
    exact ⟨congrArg (fun z => some (vI z)) (by unfold worthF; (repeat' split) <;> first | rfl | (exfalso; (try simp only [sI_lt, sI_le, sI_eq, nT, Int32.toInt_zero, tI_n1, tI_NONE] at *); omega)), rfl⟩
  by_cases h1_4 : k = nI 4
  · refine Go.tsw (tgt := 51) (nI 4) h1_4 dX2_worthOf_1 (by decide) (by decide) rfl (by decide) ?_
    refine Go.bipush (v := nI 20) dX2_worthOf_51 rfl ?_
    refine Go.iload_n dX2_worthOf_53 rfl ?_
    refine Go.isub dX2_worthOf_54 ?_
    refine Go.bipush (v := nI 9) dX2_worthOf_55 rfl ?_
    refine Go.iadd dX2_worthOf_57 ?_
    refine Go.ireturn .int dX2_worthOf_58 rfl rfl ?_
    exact ⟨congrArg (fun z => some (vI z)) (by unfold worthF; (repeat' split) <;> first | rfl | (exfalso; (try simp only [sI_lt, sI_le, sI_eq, nT, Int32.toInt_zero, tI_n1, tI_NONE] at *); omega)), rfl⟩
  by_cases h1_5 : k = nI 5
  · refine Go.tsw (tgt := 59) (nI 5) h1_5 dX2_worthOf_1 (by decide) (by decide) rfl (by decide) ?_
    refine Go.bipush (v := nI 50) dX2_worthOf_59 rfl ?_
    refine Go.ireturn .int dX2_worthOf_61 rfl rfl ?_
    exact ⟨congrArg (fun z => some (vI z)) (by unfold worthF; (repeat' split) <;> first | rfl | (exfalso; (try simp only [sI_lt, sI_le, sI_eq, nT, Int32.toInt_zero, tI_n1, tI_NONE] at *); omega)), rfl⟩
  refine Go.tswD (tgt := 62) dX2_worthOf_1 (by have a0 := lv_neT h1_1 (a := 1) rfl; have a1 := lv_neT h1_2 (a := 2) rfl; have a2 := lv_neT h1_3 (a := 3) rfl; have a3 := lv_neT h1_4 (a := 4) rfl; have a4 := lv_neT h1_5 (a := 5) rfl; omega) (by decide) ?_
  refine Go.iload_n dX2_worthOf_62 rfl ?_
  refine Go.ireturn .int dX2_worthOf_63 rfl rfl ?_
  exact ⟨congrArg (fun z => some (vI z)) (by unfold worthF; (repeat' split) <;> first | rfl | (exfalso; (try simp only [sI_lt, sI_le, sI_eq, nT, Int32.toInt_zero, tI_n1, tI_NONE] at *); omega)), rfl⟩
theorem c_roomOf {V : VV} {d : Nat} {μ : Memo} (k r co : Int32) : Ret V (d + 1) mX2_roomOf [vI k, vI r, vI co] μ (some (vI (roomC k r co))) μ := by
  show Go V (d + 1) mX2_roomOf 0 [some (vI k), some (vI r), some (vI co), none] [] μ _
  refine Go.iconst (v := nI 0) dX2_roomOf_0 rfl ?_
  refine Go.iload_n dX2_roomOf_1 rfl ?_
  refine Go.iload_n dX2_roomOf_2 rfl ?_
  refine Go.bipush (v := nI 10) dX2_roomOf_3 rfl ?_
  refine Go.idiv dX2_roomOf_5 (by decide) ?_
  refine Go.isub dX2_roomOf_6 ?_
  refine Go.at 7 rfl ?_
  refine Go.mmaxE dX2_roomOf_7 lkX2_16 (Nat.le_of_ble_eq_true rfl) ?_
  refine Go.istore_n (ls' := [some (vI k), some (vI r), some (vI co), some (vI (maxI (nI 0) (r - (co / (nI 10)))))]) dX2_roomOf_10 (by decide) rfl ?_
  refine Go.iload_n dX2_roomOf_11 rfl ?_
  by_cases h12_1 : k = nI 1
  · refine Go.tsw (tgt := 48) (nI 1) h12_1 dX2_roomOf_12 (by decide) (by decide) rfl (by decide) ?_
    refine Go.iload_n dX2_roomOf_48 rfl ?_
    refine Go.ireturn .int dX2_roomOf_49 rfl rfl ?_
    exact ⟨congrArg (fun z => some (vI z)) (by unfold roomC; (repeat' split) <;> first | rfl | (exfalso; (try simp only [sI_lt, sI_le, sI_eq, nT, Int32.toInt_zero, tI_n1, tI_NONE] at *); omega)), rfl⟩
  by_cases h12_2 : k = nI 2
  · refine Go.tsw (tgt := 54) (nI 2) h12_2 dX2_roomOf_12 (by decide) (by decide) rfl (by decide) ?_
    refine Go.iconst (v := nI 0) dX2_roomOf_54 rfl ?_
    refine Go.iload_n dX2_roomOf_55 rfl ?_
    refine Go.iconst (v := nI 4) dX2_roomOf_56 rfl ?_
    refine Go.isub dX2_roomOf_57 ?_
    refine Go.mmaxE dX2_roomOf_58 lkX2_16 (Nat.le_of_ble_eq_true rfl) ?_
    refine Go.ireturn .int dX2_roomOf_61 rfl rfl ?_
    exact ⟨congrArg (fun z => some (vI z)) (by unfold roomC; (repeat' split) <;> first | rfl | (exfalso; (try simp only [sI_lt, sI_le, sI_eq, nT, Int32.toInt_zero, tI_n1, tI_NONE] at *); omega)), rfl⟩
  by_cases h12_3 : k = nI 3
  · refine Go.tsw (tgt := 50) (nI 3) h12_3 dX2_roomOf_12 (by decide) (by decide) rfl (by decide) ?_
    refine Go.iload_n dX2_roomOf_50 rfl ?_
    refine Go.iconst (v := nI 2) dX2_roomOf_51 rfl ?_
    refine Go.idiv dX2_roomOf_52 (by decide) ?_
    refine Go.ireturn .int dX2_roomOf_53 rfl rfl ?_
    exact ⟨congrArg (fun z => some (vI z)) (by unfold roomC; (repeat' split) <;> first | rfl | (exfalso; (try simp only [sI_lt, sI_le, sI_eq, nT, Int32.toInt_zero, tI_n1, tI_NONE] at *); omega)), rfl⟩
  by_cases h12_4 : k = nI 4
  · refine Go.tsw (tgt := 54) (nI 4) h12_4 dX2_roomOf_12 (by decide) (by decide) rfl (by decide) ?_
    refine Go.iconst (v := nI 0) dX2_roomOf_54 rfl ?_
    refine Go.iload_n dX2_roomOf_55 rfl ?_
    refine Go.iconst (v := nI 4) dX2_roomOf_56 rfl ?_
    refine Go.isub dX2_roomOf_57 ?_
    refine Go.mmaxE dX2_roomOf_58 lkX2_16 (Nat.le_of_ble_eq_true rfl) ?_
    refine Go.ireturn .int dX2_roomOf_61 rfl rfl ?_
    exact ⟨congrArg (fun z => some (vI z)) (by unfold roomC; (repeat' split) <;> first | rfl | (exfalso; (try simp only [sI_lt, sI_le, sI_eq, nT, Int32.toInt_zero, tI_n1, tI_NONE] at *); omega)), rfl⟩
  by_cases h12_5 : k = nI 5
  · refine Go.tsw (tgt := 62) (nI 5) h12_5 dX2_roomOf_12 (by decide) (by decide) rfl (by decide) ?_
    refine Go.iconst (v := nI 1) dX2_roomOf_62 rfl ?_
    refine Go.ireturn .int dX2_roomOf_63 rfl rfl ?_
    exact ⟨congrArg (fun z => some (vI z)) (by unfold roomC; (repeat' split) <;> first | rfl | (exfalso; (try simp only [sI_lt, sI_le, sI_eq, nT, Int32.toInt_zero, tI_n1, tI_NONE] at *); omega)), rfl⟩
  refine Go.tswD (tgt := 64) dX2_roomOf_12 (by have a0 := lv_neT h12_1 (a := 1) rfl; have a1 := lv_neT h12_2 (a := 2) rfl; have a2 := lv_neT h12_3 (a := 3) rfl; have a3 := lv_neT h12_4 (a := 4) rfl; have a4 := lv_neT h12_5 (a := 5) rfl; omega) (by decide) ?_
  refine Go.iload_n dX2_roomOf_64 rfl ?_
  refine Go.ireturn .int dX2_roomOf_65 rfl rfl ?_
  exact ⟨congrArg (fun z => some (vI z)) (by unfold roomC; (repeat' split) <;> first | rfl | (exfalso; (try simp only [sI_lt, sI_le, sI_eq, nT, Int32.toInt_zero, tI_n1, tI_NONE] at *); omega)), rfl⟩
theorem c_has {V : VV} {d : Nat} {μ : Memo} (x c : Int32) : Ret V (d) mX0_has [vI x, vI c] μ (some (vI (bI (¬ iush x c &&& nI 1 = 0)))) μ := by
  show Go V (d) mX0_has 0 [some (vI x), some (vI c)] [] μ _
  refine Go.iload_n dX0_has_0 rfl ?_
  refine Go.iload_n dX0_has_1 rfl ?_
  refine Go.iushrE dX0_has_2 ?_
  refine Go.iconst (v := nI 1) dX0_has_3 rfl ?_
  refine Go.iand dX0_has_4 ?_
  refine Go.if_eq (tgt := 12) dX0_has_5 (by decide) (fun h5 => ?_) (fun h5 => ?_)
  · -- 5 taken
    refine Go.iconst (v := nI 0) dX0_has_12 rfl ?_
    refine Go.ireturn .boolean dX0_has_13 rfl rfl ?_
    exact ⟨congrArg (fun z => some (vI z)) (bI_f (by simp [*])).symm, rfl⟩
  · -- 5 not
    refine Go.iconst (v := nI 1) dX0_has_8 rfl ?_
    refine Go.goto (tgt := 13) dX0_has_9 (by decide) ?_
    refine Go.ireturn .boolean dX0_has_13 rfl rfl ?_
    exact ⟨congrArg (fun z => some (vI z)) (bI_t (by simp [*])).symm, rfl⟩
theorem c_spread {V : VV} {d : Nat} {μ : Memo} (x : Int32) : Ret V (d) mX0_spread [vI x] μ (some (vI (sprF x))) μ := by
  show Go V (d) mX0_spread 0 [some (vI x), none, none] [] μ _
  refine Go.iload_n dX0_spread_0 rfl ?_
  refine Go.bipush (v := nI 6) dX0_spread_1 rfl ?_
  refine Go.ishl dX0_spread_3 ?_
  refine Go.iload_n dX0_spread_4 rfl ?_
  refine Go.bipush (v := nI 6) dX0_spread_5 rfl ?_
  refine Go.iushrE dX0_spread_7 ?_
  refine Go.at 8 rfl ?_
  refine Go.ior dX0_spread_8 ?_
  refine Go.istore_n (ls' := [some (vI x), some (vI ((x <<< ((nI 6) &&& 31)) ||| (iush x (nI 6)))), none]) dX0_spread_9 (by decide) rfl ?_
  refine Go.iload_n dX0_spread_10 rfl ?_
  refine Go.ldc dX0_spread_11 cnX0_11 ?_
  refine Go.iand dX0_spread_13 ?_
  refine Go.iconst (v := nI 1) dX0_spread_14 rfl ?_
  refine Go.at 15 rfl ?_
  refine Go.ishl dX0_spread_15 ?_
  refine Go.iload_n dX0_spread_16 rfl ?_
  refine Go.ldc dX0_spread_17 cnX0_12 ?_
  refine Go.iand dX0_spread_19 ?_
  refine Go.iconst (v := nI 1) dX0_spread_20 rfl ?_
  refine Go.iushrE dX0_spread_21 ?_
  refine Go.at 22 rfl ?_
  refine Go.ior dX0_spread_22 ?_
  refine Go.istore_n (ls' := [some (vI x), some (vI ((x <<< ((nI 6) &&& 31)) ||| (iush x (nI 6)))), some (vI (((x &&& (-545392673)) <<< ((nI 1) &&& 31)) ||| (iush (x &&& (-17043522)) (nI 1))))]) dX0_spread_23 (by decide) rfl ?_
  refine Go.iload_n dX0_spread_24 rfl ?_
  refine Go.iload_n dX0_spread_25 rfl ?_
  refine Go.ior dX0_spread_26 ?_
  refine Go.iload_n dX0_spread_27 rfl ?_
  refine Go.at 28 rfl ?_
  refine Go.ior dX0_spread_28 ?_
  refine Go.ldc dX0_spread_29 cnX0_13 ?_
  refine Go.iand dX0_spread_31 ?_
  refine Go.ireturn .int dX0_spread_32 rfl rfl ?_
  exact ⟨rfl, rfl⟩
theorem c_rankOf {V : VV} {d : Nat} {μ : Memo} (c : Int32) : Ret V (d) mX4_rankOf [vI c] μ (some (vI (rankF c))) μ := by
  show Go V (d) mX4_rankOf 0 [some (vI c)] [] μ _
  refine Go.iload_n dX4_rankOf_0 rfl ?_
  by_cases h1_38 : c = nI 38
  · refine Go.lswV (tgt := 86) (nI 38) h1_38 dX4_rankOf_1 (by decide) rfl (by decide) ?_
    refine Go.iconst (v := nI 2) dX4_rankOf_86 rfl ?_
    refine Go.ireturn .int dX4_rankOf_87 rfl rfl ?_
    exact ⟨congrArg (fun z => some (vI z)) (by unfold rankF; (repeat' split) <;> first | rfl | (exfalso; (try simp only [sI_lt, sI_le, sI_eq, nT, Int32.toInt_zero, tI_n1, tI_NONE] at *); omega)), rfl⟩
  by_cases h1_42 : c = nI 42
  · refine Go.lswV (tgt := 92) (nI 42) h1_42 dX4_rankOf_1 (by decide) rfl (by decide) ?_
    refine Go.iconst (v := nI 5) dX4_rankOf_92 rfl ?_
    refine Go.ireturn .int dX4_rankOf_93 rfl rfl ?_
    exact ⟨congrArg (fun z => some (vI z)) (by unfold rankF; (repeat' split) <;> first | rfl | (exfalso; (try simp only [sI_lt, sI_le, sI_eq, nT, Int32.toInt_zero, tI_n1, tI_NONE] at *); omega)), rfl⟩
  by_cases h1_43 : c = nI 43
  · refine Go.lswV (tgt := 90) (nI 43) h1_43 dX4_rankOf_1 (by decide) rfl (by decide) ?_
    refine Go.iconst (v := nI 4) dX4_rankOf_90 rfl ?_
    refine Go.ireturn .int dX4_rankOf_91 rfl rfl ?_
    exact ⟨congrArg (fun z => some (vI z)) (by unfold rankF; (repeat' split) <;> first | rfl | (exfalso; (try simp only [sI_lt, sI_le, sI_eq, nT, Int32.toInt_zero, tI_n1, tI_NONE] at *); omega)), rfl⟩
  by_cases h1_45 : c = nI 45
  · refine Go.lswV (tgt := 90) (nI 45) h1_45 dX4_rankOf_1 (by decide) rfl (by decide) ?_
    refine Go.iconst (v := nI 4) dX4_rankOf_90 rfl ?_
    refine Go.ireturn .int dX4_rankOf_91 rfl rfl ?_
    exact ⟨congrArg (fun z => some (vI z)) (by unfold rankF; (repeat' split) <;> first | rfl | (exfalso; (try simp only [sI_lt, sI_le, sI_eq, nT, Int32.toInt_zero, tI_n1, tI_NONE] at *); omega)), rfl⟩
  by_cases h1_47 : c = nI 47
  · refine Go.lswV (tgt := 92) (nI 47) h1_47 dX4_rankOf_1 (by decide) rfl (by decide) ?_
    refine Go.iconst (v := nI 5) dX4_rankOf_92 rfl ?_
    refine Go.ireturn .int dX4_rankOf_93 rfl rfl ?_
    exact ⟨congrArg (fun z => some (vI z)) (by unfold rankF; (repeat' split) <;> first | rfl | (exfalso; (try simp only [sI_lt, sI_le, sI_eq, nT, Int32.toInt_zero, tI_n1, tI_NONE] at *); omega)), rfl⟩
  by_cases h1_60 : c = nI 60
  · refine Go.lswV (tgt := 88) (nI 60) h1_60 dX4_rankOf_1 (by decide) rfl (by decide) ?_
    refine Go.iconst (v := nI 3) dX4_rankOf_88 rfl ?_
    refine Go.ireturn .int dX4_rankOf_89 rfl rfl ?_
    exact ⟨congrArg (fun z => some (vI z)) (by unfold rankF; (repeat' split) <;> first | rfl | (exfalso; (try simp only [sI_lt, sI_le, sI_eq, nT, Int32.toInt_zero, tI_n1, tI_NONE] at *); omega)), rfl⟩
  by_cases h1_61 : c = nI 61
  · refine Go.lswV (tgt := 88) (nI 61) h1_61 dX4_rankOf_1 (by decide) rfl (by decide) ?_
    refine Go.iconst (v := nI 3) dX4_rankOf_88 rfl ?_
    refine Go.ireturn .int dX4_rankOf_89 rfl rfl ?_
    exact ⟨congrArg (fun z => some (vI z)) (by unfold rankF; (repeat' split) <;> first | rfl | (exfalso; (try simp only [sI_lt, sI_le, sI_eq, nT, Int32.toInt_zero, tI_n1, tI_NONE] at *); omega)), rfl⟩
  by_cases h1_62 : c = nI 62
  · refine Go.lswV (tgt := 88) (nI 62) h1_62 dX4_rankOf_1 (by decide) rfl (by decide) ?_
    refine Go.iconst (v := nI 3) dX4_rankOf_88 rfl ?_
    refine Go.ireturn .int dX4_rankOf_89 rfl rfl ?_
    exact ⟨congrArg (fun z => some (vI z)) (by unfold rankF; (repeat' split) <;> first | rfl | (exfalso; (try simp only [sI_lt, sI_le, sI_eq, nT, Int32.toInt_zero, tI_n1, tI_NONE] at *); omega)), rfl⟩
  by_cases h1_124 : c = nI 124
  · refine Go.lswV (tgt := 84) (nI 124) h1_124 dX4_rankOf_1 (by decide) rfl (by decide) ?_
    refine Go.iconst (v := nI 1) dX4_rankOf_84 rfl ?_
    refine Go.ireturn .int dX4_rankOf_85 rfl rfl ?_
    exact ⟨congrArg (fun z => some (vI z)) (by unfold rankF; (repeat' split) <;> first | rfl | (exfalso; (try simp only [sI_lt, sI_le, sI_eq, nT, Int32.toInt_zero, tI_n1, tI_NONE] at *); omega)), rfl⟩
  refine Go.lsw (tgt := 94) (off := 93) dX4_rankOf_1 (by decide) (by show Op.lookupswitch.offset [(38, 85), (42, 91), (43, 89), (45, 89), (47, 91), (60, 87), (61, 87), (62, 87), (124, 83)] 93 _ = (93 : Int); rw [lv_osw (a := 38) h1_38 rfl, lv_osw (a := 42) h1_42 rfl, lv_osw (a := 43) h1_43 rfl, lv_osw (a := 45) h1_45 rfl, lv_osw (a := 47) h1_47 rfl, lv_osw (a := 60) h1_60 rfl, lv_osw (a := 61) h1_61 rfl, lv_osw (a := 62) h1_62 rfl, lv_osw (a := 124) h1_124 rfl]; rfl) (by decide) ?_
  refine Go.iconst (v := nI 0) dX4_rankOf_94 rfl ?_
  refine Go.ireturn .int dX4_rankOf_95 rfl rfl ?_
  exact ⟨congrArg (fun z => some (vI z)) (by unfold rankF; (repeat' split) <;> first | rfl | (exfalso; (try simp only [sI_lt, sI_le, sI_eq, nT, Int32.toInt_zero, tI_n1, tI_NONE] at *); omega)), rfl⟩
theorem c_join_38 {V : VV} {d : Nat} {μ : Memo} (x y : Int32) : Ret V (d) mX3_join [vI (nI 38), vI x, vI y] μ (some (vI (joinC (nI 38) x y))) μ := by
  show Go V (d) mX3_join 0 [some (vI (nI 38)), some (vI x), some (vI y)] [] μ _
  refine Go.iload_n dX3_join_0 rfl ?_
  refine Go.lswV (tgt := 98) (nI 38) rfl dX3_join_1 (by decide) rfl (by decide) ?_
  refine Go.iload_n dX3_join_98 rfl ?_
  refine Go.if_eq (tgt := 110) dX3_join_99 (by decide) (fun h99 => ?_) (fun h99 => ?_)
  · -- 99 taken
    refine Go.iconst (v := nI 0) dX3_join_110 rfl ?_
    refine Go.ireturn .int dX3_join_111 rfl rfl ?_
    exact ⟨congrArg (fun z => some (vI z)) (by show _ = (if x = 0 then nI 0 else if y = 0 then nI 0 else nI 1); (repeat' split) <;> first | rfl | contradiction), rfl⟩
  · -- 99 not
    refine Go.iload_n dX3_join_102 rfl ?_
    refine Go.if_eq (tgt := 110) dX3_join_103 (by decide) (fun h103 => ?_) (fun h103 => ?_)
    · -- 103 taken
      refine Go.iconst (v := nI 0) dX3_join_110 rfl ?_
      refine Go.ireturn .int dX3_join_111 rfl rfl ?_
      exact ⟨congrArg (fun z => some (vI z)) (by show _ = (if x = 0 then nI 0 else if y = 0 then nI 0 else nI 1); (repeat' split) <;> first | rfl | contradiction), rfl⟩
    · -- 103 not
      refine Go.iconst (v := nI 1) dX3_join_106 rfl ?_
      refine Go.goto (tgt := 111) dX3_join_107 (by decide) ?_
      refine Go.ireturn .int dX3_join_111 rfl rfl ?_
      exact ⟨congrArg (fun z => some (vI z)) (by show _ = (if x = 0 then nI 0 else if y = 0 then nI 0 else nI 1); (repeat' split) <;> first | rfl | contradiction), rfl⟩
theorem m_joined_38 {V : VV} {d : Nat} {μ : Memo} (x y : Int32) : Ret V (d) mX9_joined [vI (nI 38), vI x, vI y] μ (some (vI (joinM (nI 38) x y))) μ := by
  show Go V (d) mX9_joined 0 [some (vI (nI 38)), some (vI x), some (vI y)] [] μ _
  refine Go.iload_n dX9_joined_0 rfl ?_
  refine Go.tsw (tgt := 183) (nI 38) rfl dX9_joined_1 (by decide) (by decide) rfl (by decide) ?_
  refine Go.iload_n dX9_joined_183 rfl ?_
  refine Go.if_eq (tgt := 195) dX9_joined_184 (by decide) (fun h184 => ?_) (fun h184 => ?_)
  · -- 184 taken
    refine Go.iconst (v := nI 0) dX9_joined_195 rfl ?_
    refine Go.ireturn .int dX9_joined_196 rfl rfl ?_
    exact ⟨congrArg (fun z => some (vI z)) (by show _ = (if x = 0 then nI 0 else if y = 0 then nI 0 else nI 1); (repeat' split) <;> first | rfl | contradiction), rfl⟩
  · -- 184 not
    refine Go.iload_n dX9_joined_187 rfl ?_
    refine Go.if_eq (tgt := 195) dX9_joined_188 (by decide) (fun h188 => ?_) (fun h188 => ?_)
    · -- 188 taken
      refine Go.iconst (v := nI 0) dX9_joined_195 rfl ?_
      refine Go.ireturn .int dX9_joined_196 rfl rfl ?_
      exact ⟨congrArg (fun z => some (vI z)) (by show _ = (if x = 0 then nI 0 else if y = 0 then nI 0 else nI 1); (repeat' split) <;> first | rfl | contradiction), rfl⟩
    · -- 188 not
      refine Go.iconst (v := nI 1) dX9_joined_191 rfl ?_
      refine Go.goto (tgt := 196) dX9_joined_192 (by decide) ?_
      refine Go.ireturn .int dX9_joined_196 rfl rfl ?_
      exact ⟨congrArg (fun z => some (vI z)) (by show _ = (if x = 0 then nI 0 else if y = 0 then nI 0 else nI 1); (repeat' split) <;> first | rfl | contradiction), rfl⟩
theorem c_join_42 {V : VV} {d : Nat} {μ : Memo} (x y : Int32) : Ret V (d) mX3_join [vI (nI 42), vI x, vI y] μ (some (vI (joinC (nI 42) x y))) μ := by
  show Go V (d) mX3_join 0 [some (vI (nI 42)), some (vI x), some (vI y)] [] μ _
  refine Go.iload_n dX3_join_0 rfl ?_
  refine Go.lswV (tgt := 153) (nI 42) rfl dX3_join_1 (by decide) rfl (by decide) ?_
  refine Go.iload_n dX3_join_153 rfl ?_
  refine Go.iload_n dX3_join_154 rfl ?_
  refine Go.imul dX3_join_155 ?_
  refine Go.ireturn .int dX3_join_156 rfl rfl ?_
  exact ⟨congrArg (fun z => some (vI z)) (by show _ = (x * y); (repeat' split) <;> first | rfl | contradiction), rfl⟩
theorem m_joined_42 {V : VV} {d : Nat} {μ : Memo} (x y : Int32) : Ret V (d) mX9_joined [vI (nI 42), vI x, vI y] μ (some (vI (joinM (nI 42) x y))) μ := by
  show Go V (d) mX9_joined 0 [some (vI (nI 42)), some (vI x), some (vI y)] [] μ _
  refine Go.iload_n dX9_joined_0 rfl ?_
  refine Go.tsw (tgt := 124) (nI 42) rfl dX9_joined_1 (by decide) (by decide) rfl (by decide) ?_
  refine Go.iload_n dX9_joined_124 rfl ?_
  refine Go.iload_n dX9_joined_125 rfl ?_
  refine Go.imul dX9_joined_126 ?_
  refine Go.ireturn .int dX9_joined_127 rfl rfl ?_
  exact ⟨congrArg (fun z => some (vI z)) (by show _ = (x * y); (repeat' split) <;> first | rfl | contradiction), rfl⟩
theorem c_join_43 {V : VV} {d : Nat} {μ : Memo} (x y : Int32) : Ret V (d) mX3_join [vI (nI 43), vI x, vI y] μ (some (vI (joinC (nI 43) x y))) μ := by
  show Go V (d) mX3_join 0 [some (vI (nI 43)), some (vI x), some (vI y)] [] μ _
  refine Go.iload_n dX3_join_0 rfl ?_
  refine Go.lswV (tgt := 145) (nI 43) rfl dX3_join_1 (by decide) rfl (by decide) ?_
  refine Go.iload_n dX3_join_145 rfl ?_
  refine Go.iload_n dX3_join_146 rfl ?_
  refine Go.iadd dX3_join_147 ?_
  refine Go.ireturn .int dX3_join_148 rfl rfl ?_
  exact ⟨congrArg (fun z => some (vI z)) (by show _ = (x + y); (repeat' split) <;> first | rfl | contradiction), rfl⟩
theorem m_joined_43 {V : VV} {d : Nat} {μ : Memo} (x y : Int32) : Ret V (d) mX9_joined [vI (nI 43), vI x, vI y] μ (some (vI (joinM (nI 43) x y))) μ := by
  show Go V (d) mX9_joined 0 [some (vI (nI 43)), some (vI x), some (vI y)] [] μ _
  refine Go.iload_n dX9_joined_0 rfl ?_
  refine Go.tsw (tgt := 116) (nI 43) rfl dX9_joined_1 (by decide) (by decide) rfl (by decide) ?_
  refine Go.iload_n dX9_joined_116 rfl ?_
  refine Go.iload_n dX9_joined_117 rfl ?_
  refine Go.iadd dX9_joined_118 ?_
  refine Go.ireturn .int dX9_joined_119 rfl rfl ?_
  exact ⟨congrArg (fun z => some (vI z)) (by show _ = (x + y); (repeat' split) <;> first | rfl | contradiction), rfl⟩
theorem c_join_45 {V : VV} {d : Nat} {μ : Memo} (x y : Int32) : Ret V (d) mX3_join [vI (nI 45), vI x, vI y] μ (some (vI (joinC (nI 45) x y))) μ := by
  show Go V (d) mX3_join 0 [some (vI (nI 45)), some (vI x), some (vI y)] [] μ _
  refine Go.iload_n dX3_join_0 rfl ?_
  refine Go.lswV (tgt := 149) (nI 45) rfl dX3_join_1 (by decide) rfl (by decide) ?_
  refine Go.iload_n dX3_join_149 rfl ?_
  refine Go.iload_n dX3_join_150 rfl ?_
  refine Go.isub dX3_join_151 ?_
  refine Go.ireturn .int dX3_join_152 rfl rfl ?_
  exact ⟨congrArg (fun z => some (vI z)) (by show _ = (x - y); (repeat' split) <;> first | rfl | contradiction), rfl⟩
theorem m_joined_45 {V : VV} {d : Nat} {μ : Memo} (x y : Int32) : Ret V (d) mX9_joined [vI (nI 45), vI x, vI y] μ (some (vI (joinM (nI 45) x y))) μ := by
  show Go V (d) mX9_joined 0 [some (vI (nI 45)), some (vI x), some (vI y)] [] μ _
  refine Go.iload_n dX9_joined_0 rfl ?_
  refine Go.tsw (tgt := 120) (nI 45) rfl dX9_joined_1 (by decide) (by decide) rfl (by decide) ?_
  refine Go.iload_n dX9_joined_120 rfl ?_
  refine Go.iload_n dX9_joined_121 rfl ?_
  refine Go.isub dX9_joined_122 ?_
  refine Go.ireturn .int dX9_joined_123 rfl rfl ?_
  exact ⟨congrArg (fun z => some (vI z)) (by show _ = (x - y); (repeat' split) <;> first | rfl | contradiction), rfl⟩
theorem c_join_47 {V : VV} {d : Nat} {μ : Memo} (x y : Int32) : Ret V (d) mX3_join [vI (nI 47), vI x, vI y] μ (some (vI (joinC (nI 47) x y))) μ := by
  show Go V (d) mX3_join 0 [some (vI (nI 47)), some (vI x), some (vI y)] [] μ _
  refine Go.iload_n dX3_join_0 rfl ?_
  refine Go.lswV (tgt := 157) (nI 47) rfl dX3_join_1 (by decide) rfl (by decide) ?_
  refine Go.iload_n dX3_join_157 rfl ?_
  refine Go.if_ne (tgt := 165) dX3_join_158 (by decide) (fun h158 => ?_) (fun h158 => ?_)
  · -- 158 taken
    refine Go.iload_n dX3_join_165 rfl ?_
    refine Go.iload_n dX3_join_166 rfl ?_
    refine Go.idiv dX3_join_167 h158 ?_
    refine Go.ireturn .int dX3_join_168 rfl rfl ?_
    exact ⟨congrArg (fun z => some (vI z)) (by show _ = (if y = 0 then nI 0 else x / y); (repeat' split) <;> first | rfl | contradiction), rfl⟩
  · -- 158 not
    refine Go.iconst (v := nI 0) dX3_join_161 rfl ?_
    refine Go.goto (tgt := 168) dX3_join_162 (by decide) ?_
    refine Go.ireturn .int dX3_join_168 rfl rfl ?_
    exact ⟨congrArg (fun z => some (vI z)) (by show _ = (if y = 0 then nI 0 else x / y); (repeat' split) <;> first | rfl | contradiction), rfl⟩
theorem m_joined_47 {V : VV} {d : Nat} {μ : Memo} (x y : Int32) : Ret V (d) mX9_joined [vI (nI 47), vI x, vI y] μ (some (vI (joinM (nI 47) x y))) μ := by
  show Go V (d) mX9_joined 0 [some (vI (nI 47)), some (vI x), some (vI y)] [] μ _
  refine Go.iload_n dX9_joined_0 rfl ?_
  refine Go.tsw (tgt := 128) (nI 47) rfl dX9_joined_1 (by decide) (by decide) rfl (by decide) ?_
  refine Go.iload_n dX9_joined_128 rfl ?_
  refine Go.if_ne (tgt := 136) dX9_joined_129 (by decide) (fun h129 => ?_) (fun h129 => ?_)
  · -- 129 taken
    refine Go.iload_n dX9_joined_136 rfl ?_
    refine Go.iconst (v := (-1)) dX9_joined_137 rfl ?_
    refine Go.icmp_ne (tgt := 146) dX9_joined_138 (by decide) (fun h138 => ?_) (fun h138 => ?_)
    · -- 138 taken
      refine Go.iload_n dX9_joined_146 rfl ?_
      refine Go.iload_n dX9_joined_147 rfl ?_
      refine Go.idiv dX9_joined_148 h129 ?_
      refine Go.ireturn .int dX9_joined_149 rfl rfl ?_
      exact ⟨congrArg (fun z => some (vI z)) (by show _ = (if y = 0 then nI 0 else if y = (-1) then -x else x / y); (repeat' split) <;> first | rfl | contradiction), rfl⟩
    · -- 138 not
      refine Go.iload_n dX9_joined_141 rfl ?_
      refine Go.ineg dX9_joined_142 ?_
      refine Go.goto (tgt := 149) dX9_joined_143 (by decide) ?_
      refine Go.ireturn .int dX9_joined_149 rfl rfl ?_
      exact ⟨congrArg (fun z => some (vI z)) (by show _ = (if y = 0 then nI 0 else if y = (-1) then -x else x / y); (repeat' split) <;> first | rfl | contradiction), rfl⟩
  · -- 129 not
    refine Go.iconst (v := nI 0) dX9_joined_132 rfl ?_
    refine Go.goto (tgt := 149) dX9_joined_133 (by decide) ?_
    refine Go.ireturn .int dX9_joined_149 rfl rfl ?_
    exact ⟨congrArg (fun z => some (vI z)) (by show _ = (if y = 0 then nI 0 else if y = (-1) then -x else x / y); (repeat' split) <;> first | rfl | contradiction), rfl⟩
theorem c_join_60 {V : VV} {d : Nat} {μ : Memo} (x y : Int32) : Ret V (d) mX3_join [vI (nI 60), vI x, vI y] μ (some (vI (joinC (nI 60) x y))) μ := by
  show Go V (d) mX3_join 0 [some (vI (nI 60)), some (vI x), some (vI y)] [] μ _
  refine Go.iload_n dX3_join_0 rfl ?_
  refine Go.lswV (tgt := 112) (nI 60) rfl dX3_join_1 (by decide) rfl (by decide) ?_
  refine Go.iload_n dX3_join_112 rfl ?_
  refine Go.iload_n dX3_join_113 rfl ?_
  refine Go.icmp_ge (tgt := 121) dX3_join_114 (by decide) (fun h114 => ?_) (fun h114 => ?_)
  · -- 114 taken
    refine Go.iconst (v := nI 0) dX3_join_121 rfl ?_
    refine Go.ireturn .int dX3_join_122 rfl rfl ?_
    exact ⟨congrArg (fun z => some (vI z)) (by show _ = (if y ≤ x then nI 0 else nI 1); (repeat' split) <;> first | rfl | contradiction), rfl⟩
  · -- 114 not
    refine Go.iconst (v := nI 1) dX3_join_117 rfl ?_
    refine Go.goto (tgt := 122) dX3_join_118 (by decide) ?_
    refine Go.ireturn .int dX3_join_122 rfl rfl ?_
    exact ⟨congrArg (fun z => some (vI z)) (by show _ = (if y ≤ x then nI 0 else nI 1); (repeat' split) <;> first | rfl | contradiction), rfl⟩
theorem m_joined_60 {V : VV} {d : Nat} {μ : Memo} (x y : Int32) : Ret V (d) mX9_joined [vI (nI 60), vI x, vI y] μ (some (vI (joinM (nI 60) x y))) μ := by
  show Go V (d) mX9_joined 0 [some (vI (nI 60)), some (vI x), some (vI y)] [] μ _
  refine Go.iload_n dX9_joined_0 rfl ?_
  refine Go.tsw (tgt := 150) (nI 60) rfl dX9_joined_1 (by decide) (by decide) rfl (by decide) ?_
  refine Go.iload_n dX9_joined_150 rfl ?_
  refine Go.iload_n dX9_joined_151 rfl ?_
  refine Go.icmp_ge (tgt := 159) dX9_joined_152 (by decide) (fun h152 => ?_) (fun h152 => ?_)
  · -- 152 taken
    refine Go.iconst (v := nI 0) dX9_joined_159 rfl ?_
    refine Go.ireturn .int dX9_joined_160 rfl rfl ?_
    exact ⟨congrArg (fun z => some (vI z)) (by show _ = (if y ≤ x then nI 0 else nI 1); (repeat' split) <;> first | rfl | contradiction), rfl⟩
  · -- 152 not
    refine Go.iconst (v := nI 1) dX9_joined_155 rfl ?_
    refine Go.goto (tgt := 160) dX9_joined_156 (by decide) ?_
    refine Go.ireturn .int dX9_joined_160 rfl rfl ?_
    exact ⟨congrArg (fun z => some (vI z)) (by show _ = (if y ≤ x then nI 0 else nI 1); (repeat' split) <;> first | rfl | contradiction), rfl⟩
theorem c_join_61 {V : VV} {d : Nat} {μ : Memo} (x y : Int32) : Ret V (d) mX3_join [vI (nI 61), vI x, vI y] μ (some (vI (joinC (nI 61) x y))) μ := by
  show Go V (d) mX3_join 0 [some (vI (nI 61)), some (vI x), some (vI y)] [] μ _
  refine Go.iload_n dX3_join_0 rfl ?_
  refine Go.lswV (tgt := 123) (nI 61) rfl dX3_join_1 (by decide) rfl (by decide) ?_
  refine Go.iload_n dX3_join_123 rfl ?_
  refine Go.iload_n dX3_join_124 rfl ?_
  refine Go.icmp_ne (tgt := 132) dX3_join_125 (by decide) (fun h125 => ?_) (fun h125 => ?_)
  · -- 125 taken
    refine Go.iconst (v := nI 0) dX3_join_132 rfl ?_
    refine Go.ireturn .int dX3_join_133 rfl rfl ?_
    exact ⟨congrArg (fun z => some (vI z)) (by show _ = (if x = y then nI 1 else nI 0); (repeat' split) <;> first | rfl | contradiction), rfl⟩
  · -- 125 not
    refine Go.iconst (v := nI 1) dX3_join_128 rfl ?_
    refine Go.goto (tgt := 133) dX3_join_129 (by decide) ?_
    refine Go.ireturn .int dX3_join_133 rfl rfl ?_
    exact ⟨congrArg (fun z => some (vI z)) (by show _ = (if x = y then nI 1 else nI 0); (repeat' split) <;> first | rfl | contradiction), rfl⟩
theorem m_joined_61 {V : VV} {d : Nat} {μ : Memo} (x y : Int32) : Ret V (d) mX9_joined [vI (nI 61), vI x, vI y] μ (some (vI (joinM (nI 61) x y))) μ := by
  show Go V (d) mX9_joined 0 [some (vI (nI 61)), some (vI x), some (vI y)] [] μ _
  refine Go.iload_n dX9_joined_0 rfl ?_
  refine Go.tsw (tgt := 172) (nI 61) rfl dX9_joined_1 (by decide) (by decide) rfl (by decide) ?_
  refine Go.iload_n dX9_joined_172 rfl ?_
  refine Go.iload_n dX9_joined_173 rfl ?_
  refine Go.icmp_ne (tgt := 181) dX9_joined_174 (by decide) (fun h174 => ?_) (fun h174 => ?_)
  · -- 174 taken
    refine Go.iconst (v := nI 0) dX9_joined_181 rfl ?_
    refine Go.ireturn .int dX9_joined_182 rfl rfl ?_
    exact ⟨congrArg (fun z => some (vI z)) (by show _ = (if x = y then nI 1 else nI 0); (repeat' split) <;> first | rfl | contradiction), rfl⟩
  · -- 174 not
    refine Go.iconst (v := nI 1) dX9_joined_177 rfl ?_
    refine Go.goto (tgt := 182) dX9_joined_178 (by decide) ?_
    refine Go.ireturn .int dX9_joined_182 rfl rfl ?_
    exact ⟨congrArg (fun z => some (vI z)) (by show _ = (if x = y then nI 1 else nI 0); (repeat' split) <;> first | rfl | contradiction), rfl⟩
theorem c_join_62 {V : VV} {d : Nat} {μ : Memo} (x y : Int32) : Ret V (d) mX3_join [vI (nI 62), vI x, vI y] μ (some (vI (joinC (nI 62) x y))) μ := by
  show Go V (d) mX3_join 0 [some (vI (nI 62)), some (vI x), some (vI y)] [] μ _
  refine Go.iload_n dX3_join_0 rfl ?_
  refine Go.lswV (tgt := 134) (nI 62) rfl dX3_join_1 (by decide) rfl (by decide) ?_
  refine Go.iload_n dX3_join_134 rfl ?_
  refine Go.iload_n dX3_join_135 rfl ?_
  refine Go.icmp_le (tgt := 143) dX3_join_136 (by decide) (fun h136 => ?_) (fun h136 => ?_)
  · -- 136 taken
    refine Go.iconst (v := nI 0) dX3_join_143 rfl ?_
    refine Go.ireturn .int dX3_join_144 rfl rfl ?_
    exact ⟨congrArg (fun z => some (vI z)) (by show _ = (if x ≤ y then nI 0 else nI 1); (repeat' split) <;> first | rfl | contradiction), rfl⟩
  · -- 136 not
    refine Go.iconst (v := nI 1) dX3_join_139 rfl ?_
    refine Go.goto (tgt := 144) dX3_join_140 (by decide) ?_
    refine Go.ireturn .int dX3_join_144 rfl rfl ?_
    exact ⟨congrArg (fun z => some (vI z)) (by show _ = (if x ≤ y then nI 0 else nI 1); (repeat' split) <;> first | rfl | contradiction), rfl⟩
theorem m_joined_62 {V : VV} {d : Nat} {μ : Memo} (x y : Int32) : Ret V (d) mX9_joined [vI (nI 62), vI x, vI y] μ (some (vI (joinM (nI 62) x y))) μ := by
  show Go V (d) mX9_joined 0 [some (vI (nI 62)), some (vI x), some (vI y)] [] μ _
  refine Go.iload_n dX9_joined_0 rfl ?_
  refine Go.tsw (tgt := 161) (nI 62) rfl dX9_joined_1 (by decide) (by decide) rfl (by decide) ?_
  refine Go.iload_n dX9_joined_161 rfl ?_
  refine Go.iload_n dX9_joined_162 rfl ?_
  refine Go.icmp_le (tgt := 170) dX9_joined_163 (by decide) (fun h163 => ?_) (fun h163 => ?_)
  · -- 163 taken
    refine Go.iconst (v := nI 0) dX9_joined_170 rfl ?_
    refine Go.ireturn .int dX9_joined_171 rfl rfl ?_
    exact ⟨congrArg (fun z => some (vI z)) (by show _ = (if x ≤ y then nI 0 else nI 1); (repeat' split) <;> first | rfl | contradiction), rfl⟩
  · -- 163 not
    refine Go.iconst (v := nI 1) dX9_joined_166 rfl ?_
    refine Go.goto (tgt := 171) dX9_joined_167 (by decide) ?_
    refine Go.ireturn .int dX9_joined_171 rfl rfl ?_
    exact ⟨congrArg (fun z => some (vI z)) (by show _ = (if x ≤ y then nI 0 else nI 1); (repeat' split) <;> first | rfl | contradiction), rfl⟩
theorem c_join_124 {V : VV} {d : Nat} {μ : Memo} (x y : Int32) : Ret V (d) mX3_join [vI (nI 124), vI x, vI y] μ (some (vI (joinC (nI 124) x y))) μ := by
  show Go V (d) mX3_join 0 [some (vI (nI 124)), some (vI x), some (vI y)] [] μ _
  refine Go.iload_n dX3_join_0 rfl ?_
  refine Go.lswV (tgt := 84) (nI 124) rfl dX3_join_1 (by decide) rfl (by decide) ?_
  refine Go.iload_n dX3_join_84 rfl ?_
  refine Go.if_ne (tgt := 92) dX3_join_85 (by decide) (fun h85 => ?_) (fun h85 => ?_)
  · -- 85 taken
    refine Go.iconst (v := nI 1) dX3_join_92 rfl ?_
    refine Go.goto (tgt := 97) dX3_join_93 (by decide) ?_
    refine Go.ireturn .int dX3_join_97 rfl rfl ?_
    exact ⟨congrArg (fun z => some (vI z)) (by show _ = (if x = 0 then (if y = 0 then nI 0 else nI 1) else nI 1); (repeat' split) <;> first | rfl | contradiction), rfl⟩
  · -- 85 not
    refine Go.iload_n dX3_join_88 rfl ?_
    refine Go.if_eq (tgt := 96) dX3_join_89 (by decide) (fun h89 => ?_) (fun h89 => ?_)
    · -- 89 taken
      refine Go.iconst (v := nI 0) dX3_join_96 rfl ?_
      refine Go.ireturn .int dX3_join_97 rfl rfl ?_
      exact ⟨congrArg (fun z => some (vI z)) (by show _ = (if x = 0 then (if y = 0 then nI 0 else nI 1) else nI 1); (repeat' split) <;> first | rfl | contradiction), rfl⟩
    · -- 89 not
      refine Go.iconst (v := nI 1) dX3_join_92 rfl ?_
      refine Go.goto (tgt := 97) dX3_join_93 (by decide) ?_
      refine Go.ireturn .int dX3_join_97 rfl rfl ?_
      exact ⟨congrArg (fun z => some (vI z)) (by show _ = (if x = 0 then (if y = 0 then nI 0 else nI 1) else nI 1); (repeat' split) <;> first | rfl | contradiction), rfl⟩
theorem m_joined_124 {V : VV} {d : Nat} {μ : Memo} (x y : Int32) : Ret V (d) mX9_joined [vI (nI 124), vI x, vI y] μ (some (vI (joinM (nI 124) x y))) μ := by
  show Go V (d) mX9_joined 0 [some (vI (nI 124)), some (vI x), some (vI y)] [] μ _
  refine Go.iload_n dX9_joined_0 rfl ?_
  refine Go.tswD (tgt := 197) dX9_joined_1 (by decide) (by decide) ?_
  refine Go.iload_n dX9_joined_197 rfl ?_
  refine Go.if_ne (tgt := 205) dX9_joined_198 (by decide) (fun h198 => ?_) (fun h198 => ?_)
  · -- 198 taken
    refine Go.iconst (v := nI 1) dX9_joined_205 rfl ?_
    refine Go.goto (tgt := 210) dX9_joined_206 (by decide) ?_
    refine Go.ireturn .int dX9_joined_210 rfl rfl ?_
    exact ⟨congrArg (fun z => some (vI z)) (by show _ = (if x = 0 then (if y = 0 then nI 0 else nI 1) else nI 1); (repeat' split) <;> first | rfl | contradiction), rfl⟩
  · -- 198 not
    refine Go.iload_n dX9_joined_201 rfl ?_
    refine Go.if_eq (tgt := 209) dX9_joined_202 (by decide) (fun h202 => ?_) (fun h202 => ?_)
    · -- 202 taken
      refine Go.iconst (v := nI 0) dX9_joined_209 rfl ?_
      refine Go.ireturn .int dX9_joined_210 rfl rfl ?_
      exact ⟨congrArg (fun z => some (vI z)) (by show _ = (if x = 0 then (if y = 0 then nI 0 else nI 1) else nI 1); (repeat' split) <;> first | rfl | contradiction), rfl⟩
    · -- 202 not
      refine Go.iconst (v := nI 1) dX9_joined_205 rfl ?_
      refine Go.goto (tgt := 210) dX9_joined_206 (by decide) ?_
      refine Go.ireturn .int dX9_joined_210 rfl rfl ?_
      exact ⟨congrArg (fun z => some (vI z)) (by show _ = (if x = 0 then (if y = 0 then nI 0 else nI 1) else nI 1); (repeat' split) <;> first | rfl | contradiction), rfl⟩
abbrev signP (c : Int32) : Prop := c = nI 38 ∨ c = nI 42 ∨ c = nI 43 ∨ c = nI 45 ∨ c = nI 47 ∨ c = nI 60 ∨ c = nI 61 ∨ c = nI 62 ∨ c = nI 124
theorem c_join {V : VV} {d : Nat} {μ : Memo} (c x y : Int32) (h : signP c) : Ret V d mX3_join [vI c, vI x, vI y] μ (some (vI (joinC c x y))) μ := by
  rcases h with rfl | rfl | rfl | rfl | rfl | rfl | rfl | rfl | rfl
  · exact c_join_38 x y
  · exact c_join_42 x y
  · exact c_join_43 x y
  · exact c_join_45 x y
  · exact c_join_47 x y
  · exact c_join_60 x y
  · exact c_join_61 x y
  · exact c_join_62 x y
  · exact c_join_124 x y
theorem m_joined {V : VV} {d : Nat} {μ : Memo} (c x y : Int32) (h : signP c) : Ret V d mX9_joined [vI c, vI x, vI y] μ (some (vI (joinM c x y))) μ := by
  rcases h with rfl | rfl | rfl | rfl | rfl | rfl | rfl | rfl | rfl
  · exact m_joined_38 x y
  · exact m_joined_42 x y
  · exact m_joined_43 x y
  · exact m_joined_45 x y
  · exact m_joined_47 x y
  · exact m_joined_60 x y
  · exact m_joined_61 x y
  · exact m_joined_62 x y
  · exact m_joined_124 x y
theorem m_isName {V : VV} {d : Nat} {μ : Memo} (k c : Int32) : Ret V (d) mX9_isName [vI k, vI c] μ (some (vI (bI (nameP k c)))) μ := by
  show Go V (d) mX9_isName 0 [some (vI k), some (vI c)] [] μ _
  refine Go.iload_n dX9_isName_0 rfl ?_
  by_cases h1_0 : k = nI 0
  · refine Go.lswV (tgt := 28) (nI 0) h1_0 dX9_isName_1 (by decide) rfl (by decide) ?_
    refine Go.iload_n dX9_isName_28 rfl ?_
    refine Go.bipush (v := nI 104) dX9_isName_29 rfl ?_
    refine Go.icmp_eq (tgt := 46) dX9_isName_31 (by decide) (fun h31 => ?_) (fun h31 => ?_)
    · -- 31 taken
      refine Go.iconst (v := nI 1) dX9_isName_46 rfl ?_
      refine Go.goto (tgt := 51) dX9_isName_47 (by decide) ?_
      refine Go.ireturn .boolean dX9_isName_51 rfl rfl ?_
      exact ⟨congrArg (fun z => some (vI z)) (bI_t (by unfold nameP; (repeat' split); all_goals ((try simp only [sI_lt, sI_le, sI_eq, nT, Int32.toInt_zero, tI_n1, tI_NONE, and_true, true_and, or_true, true_or, or_false, false_or, and_false, false_and, not_true, not_false_iff] at *) <;> omega))).symm, rfl⟩
    · -- 31 not
      refine Go.iload_n dX9_isName_34 rfl ?_
      refine Go.bipush (v := nI 100) dX9_isName_35 rfl ?_
      refine Go.icmp_eq (tgt := 46) dX9_isName_37 (by decide) (fun h37 => ?_) (fun h37 => ?_)
      · -- 37 taken
        refine Go.iconst (v := nI 1) dX9_isName_46 rfl ?_
        refine Go.goto (tgt := 51) dX9_isName_47 (by decide) ?_
        refine Go.ireturn .boolean dX9_isName_51 rfl rfl ?_
        exact ⟨congrArg (fun z => some (vI z)) (bI_t (by unfold nameP; (repeat' split); all_goals ((try simp only [sI_lt, sI_le, sI_eq, nT, Int32.toInt_zero, tI_n1, tI_NONE, and_true, true_and, or_true, true_or, or_false, false_or, and_false, false_and, not_true, not_false_iff] at *) <;> omega))).symm, rfl⟩
      · -- 37 not
        refine Go.iload_n dX9_isName_40 rfl ?_
        refine Go.bipush (v := nI 115) dX9_isName_41 rfl ?_
        refine Go.icmp_ne (tgt := 50) dX9_isName_43 (by decide) (fun h43 => ?_) (fun h43 => ?_)
        · -- 43 taken
          refine Go.iconst (v := nI 0) dX9_isName_50 rfl ?_
          refine Go.ireturn .boolean dX9_isName_51 rfl rfl ?_
          exact ⟨congrArg (fun z => some (vI z)) (bI_f (by unfold nameP; (repeat' split); all_goals ((try simp only [sI_lt, sI_le, sI_eq, nT, Int32.toInt_zero, tI_n1, tI_NONE, and_true, true_and, or_true, true_or, or_false, false_or, and_false, false_and, not_true, not_false_iff] at *) <;> omega))).symm, rfl⟩
        · -- 43 not
          refine Go.iconst (v := nI 1) dX9_isName_46 rfl ?_
          refine Go.goto (tgt := 51) dX9_isName_47 (by decide) ?_
          refine Go.ireturn .boolean dX9_isName_51 rfl rfl ?_
          exact ⟨congrArg (fun z => some (vI z)) (bI_t (by unfold nameP; (repeat' split); all_goals ((try simp only [sI_lt, sI_le, sI_eq, nT, Int32.toInt_zero, tI_n1, tI_NONE, and_true, true_and, or_true, true_or, or_false, false_or, and_false, false_and, not_true, not_false_iff] at *) <;> omega))).symm, rfl⟩
  by_cases h1_1 : k = nI 1
  · refine Go.lswV (tgt := 52) (nI 1) h1_1 dX9_isName_1 (by decide) rfl (by decide) ?_
    refine Go.iload_n dX9_isName_52 rfl ?_
    refine Go.bipush (v := nI 99) dX9_isName_53 rfl ?_
    refine Go.icmp_eq (tgt := 64) dX9_isName_55 (by decide) (fun h55 => ?_) (fun h55 => ?_)
    · -- 55 taken
      refine Go.iconst (v := nI 1) dX9_isName_64 rfl ?_
      refine Go.goto (tgt := 69) dX9_isName_65 (by decide) ?_
      refine Go.ireturn .boolean dX9_isName_69 rfl rfl ?_
      exact ⟨congrArg (fun z => some (vI z)) (bI_t (by unfold nameP; (repeat' split); all_goals ((try simp only [sI_lt, sI_le, sI_eq, nT, Int32.toInt_zero, tI_n1, tI_NONE, and_true, true_and, or_true, true_or, or_false, false_or, and_false, false_and, not_true, not_false_iff] at *) <;> omega))).symm, rfl⟩
    · -- 55 not
      refine Go.iload_n dX9_isName_58 rfl ?_
      refine Go.bipush (v := nI 104) dX9_isName_59 rfl ?_
      refine Go.icmp_ne (tgt := 68) dX9_isName_61 (by decide) (fun h61 => ?_) (fun h61 => ?_)
      · -- 61 taken
        refine Go.iconst (v := nI 0) dX9_isName_68 rfl ?_
        refine Go.ireturn .boolean dX9_isName_69 rfl rfl ?_
        exact ⟨congrArg (fun z => some (vI z)) (bI_f (by unfold nameP; (repeat' split); all_goals ((try simp only [sI_lt, sI_le, sI_eq, nT, Int32.toInt_zero, tI_n1, tI_NONE, and_true, true_and, or_true, true_or, or_false, false_or, and_false, false_and, not_true, not_false_iff] at *) <;> omega))).symm, rfl⟩
      · -- 61 not
        refine Go.iconst (v := nI 1) dX9_isName_64 rfl ?_
        refine Go.goto (tgt := 69) dX9_isName_65 (by decide) ?_
        refine Go.ireturn .boolean dX9_isName_69 rfl rfl ?_
        exact ⟨congrArg (fun z => some (vI z)) (bI_t (by unfold nameP; (repeat' split); all_goals ((try simp only [sI_lt, sI_le, sI_eq, nT, Int32.toInt_zero, tI_n1, tI_NONE, and_true, true_and, or_true, true_or, or_false, false_or, and_false, false_and, not_true, not_false_iff] at *) <;> omega))).symm, rfl⟩
  refine Go.lsw (tgt := 70) (off := 69) dX9_isName_1 (by decide) (by show Op.lookupswitch.offset [(0, 27), (1, 51)] 69 _ = (69 : Int); rw [lv_osw (a := 0) h1_0 rfl, lv_osw (a := 1) h1_1 rfl]; rfl) (by decide) ?_
  refine Go.iload_n dX9_isName_70 rfl ?_
  refine Go.bipush (v := nI 116) dX9_isName_71 rfl ?_
  refine Go.icmp_eq (tgt := 82) dX9_isName_73 (by decide) (fun h73 => ?_) (fun h73 => ?_)
  · -- 73 taken
    refine Go.iconst (v := nI 1) dX9_isName_82 rfl ?_
    refine Go.goto (tgt := 87) dX9_isName_83 (by decide) ?_
    refine Go.ireturn .boolean dX9_isName_87 rfl rfl ?_
    exact ⟨congrArg (fun z => some (vI z)) (bI_t (by unfold nameP; (repeat' split); all_goals ((try simp only [sI_lt, sI_le, sI_eq, nT, Int32.toInt_zero, tI_n1, tI_NONE, and_true, true_and, or_true, true_or, or_false, false_or, and_false, false_and, not_true, not_false_iff] at *) <;> omega))).symm, rfl⟩
  · -- 73 not
    refine Go.iload_n dX9_isName_76 rfl ?_
    refine Go.bipush (v := nI 104) dX9_isName_77 rfl ?_
    refine Go.icmp_ne (tgt := 86) dX9_isName_79 (by decide) (fun h79 => ?_) (fun h79 => ?_)
    · -- 79 taken
      refine Go.iconst (v := nI 0) dX9_isName_86 rfl ?_
      refine Go.ireturn .boolean dX9_isName_87 rfl rfl ?_
      exact ⟨congrArg (fun z => some (vI z)) (bI_f (by unfold nameP; (repeat' split); all_goals ((try simp only [sI_lt, sI_le, sI_eq, nT, Int32.toInt_zero, tI_n1, tI_NONE, and_true, true_and, or_true, true_or, or_false, false_or, and_false, false_and, not_true, not_false_iff] at *) <;> omega))).symm, rfl⟩
    · -- 79 not
      refine Go.iconst (v := nI 1) dX9_isName_82 rfl ?_
      refine Go.goto (tgt := 87) dX9_isName_83 (by decide) ?_
      refine Go.ireturn .boolean dX9_isName_87 rfl rfl ?_
      exact ⟨congrArg (fun z => some (vI z)) (bI_t (by unfold nameP; (repeat' split); all_goals ((try simp only [sI_lt, sI_le, sI_eq, nT, Int32.toInt_zero, tI_n1, tI_NONE, and_true, true_and, or_true, true_or, or_false, false_or, and_false, false_and, not_true, not_false_iff] at *) <;> omega))).symm, rfl⟩
theorem c_bitCount {V : VV} {d : Nat} {μ : Memo} (x : Int32) : Ret V (d) mJ6_bitCount_0f7a4 [vI x] μ (some (vI (bitC x))) μ := by
  show Go V (d) mJ6_bitCount_0f7a4 0 [some (vI x)] [] μ _
  refine Go.iload_n dJ6_bitCount_0f7a4_0 rfl ?_
  refine Go.iload_n dJ6_bitCount_0f7a4_1 rfl ?_
  refine Go.iconst (v := nI 1) dJ6_bitCount_0f7a4_2 rfl ?_
  refine Go.iushrE dJ6_bitCount_0f7a4_3 ?_
  refine Go.ldc_w dJ6_bitCount_0f7a4_4 cnJ6_265 ?_
  refine Go.iand dJ6_bitCount_0f7a4_7 ?_
  refine Go.at 8 rfl ?_
  refine Go.isub dJ6_bitCount_0f7a4_8 ?_
  refine Go.istore_n (ls' := [some (vI (x - ((iush x (nI 1)) &&& (nI 1431655765))))]) dJ6_bitCount_0f7a4_9 (by decide) rfl ?_
  refine Go.iload_n dJ6_bitCount_0f7a4_10 rfl ?_
  refine Go.ldc_w dJ6_bitCount_0f7a4_11 cnJ6_266 ?_
  refine Go.iand dJ6_bitCount_0f7a4_14 ?_
  refine Go.iload_n dJ6_bitCount_0f7a4_15 rfl ?_
  refine Go.at 16 rfl ?_
  refine Go.iconst (v := nI 2) dJ6_bitCount_0f7a4_16 rfl ?_
  refine Go.iushrE dJ6_bitCount_0f7a4_17 ?_
  refine Go.ldc_w dJ6_bitCount_0f7a4_18 cnJ6_266 ?_
  refine Go.iand dJ6_bitCount_0f7a4_21 ?_
  refine Go.iadd dJ6_bitCount_0f7a4_22 ?_
  refine Go.istore_n (ls' := [some (vI (((x - ((iush x (nI 1)) &&& (nI 1431655765))) &&& (nI 858993459)) + ((iush (x - ((iush x (nI 1)) &&& (nI 1431655765))) (nI 2)) &&& (nI 858993459))))]) dJ6_bitCount_0f7a4_23 (by decide) rfl ?_
  refine Go.at 24 rfl ?_
  refine Go.iload_n dJ6_bitCount_0f7a4_24 rfl ?_
  refine Go.iload_n dJ6_bitCount_0f7a4_25 rfl ?_
  refine Go.iconst (v := nI 4) dJ6_bitCount_0f7a4_26 rfl ?_
  refine Go.iushrE dJ6_bitCount_0f7a4_27 ?_
  refine Go.iadd dJ6_bitCount_0f7a4_28 ?_
  refine Go.ldc_w dJ6_bitCount_0f7a4_29 cnJ6_267 ?_
  refine Go.at 32 rfl ?_
  refine Go.iand dJ6_bitCount_0f7a4_32 ?_
  refine Go.istore_n (ls' := [some (vI (((((x - ((iush x (nI 1)) &&& (nI 1431655765))) &&& (nI 858993459)) + ((iush (x - ((iush x (nI 1)) &&& (nI 1431655765))) (nI 2)) &&& (nI 858993459))) + (iush (((x - ((iush x (nI 1)) &&& (nI 1431655765))) &&& (nI 858993459)) + ((iush (x - ((iush x (nI 1)) &&& (nI 1431655765))) (nI 2)) &&& (nI 858993459))) (nI 4))) &&& (nI 252645135)))]) dJ6_bitCount_0f7a4_33 (by decide) rfl ?_
  refine Go.iload_n dJ6_bitCount_0f7a4_34 rfl ?_
  refine Go.iload_n dJ6_bitCount_0f7a4_35 rfl ?_
  refine Go.bipush (v := nI 8) dJ6_bitCount_0f7a4_36 rfl ?_
  refine Go.iushrE dJ6_bitCount_0f7a4_38 ?_
  refine Go.at 39 rfl ?_
  refine Go.iadd dJ6_bitCount_0f7a4_39 ?_
  refine Go.istore_n (ls' := [some (vI ((((((x - ((iush x (nI 1)) &&& (nI 1431655765))) &&& (nI 858993459)) + ((iush (x - ((iush x (nI 1)) &&& (nI 1431655765))) (nI 2)) &&& (nI 858993459))) + (iush (((x - ((iush x (nI 1)) &&& (nI 1431655765))) &&& (nI 858993459)) + ((iush (x - ((iush x (nI 1)) &&& (nI 1431655765))) (nI 2)) &&& (nI 858993459))) (nI 4))) &&& (nI 252645135)) + (iush (((((x - ((iush x (nI 1)) &&& (nI 1431655765))) &&& (nI 858993459)) + ((iush (x - ((iush x (nI 1)) &&& (nI 1431655765))) (nI 2)) &&& (nI 858993459))) + (iush (((x - ((iush x (nI 1)) &&& (nI 1431655765))) &&& (nI 858993459)) + ((iush (x - ((iush x (nI 1)) &&& (nI 1431655765))) (nI 2)) &&& (nI 858993459))) (nI 4))) &&& (nI 252645135)) (nI 8))))]) dJ6_bitCount_0f7a4_40 (by decide) rfl ?_
  refine Go.iload_n dJ6_bitCount_0f7a4_41 rfl ?_
  refine Go.iload_n dJ6_bitCount_0f7a4_42 rfl ?_
  refine Go.bipush (v := nI 16) dJ6_bitCount_0f7a4_43 rfl ?_
  refine Go.iushrE dJ6_bitCount_0f7a4_45 ?_
  refine Go.at 46 rfl ?_
  refine Go.iadd dJ6_bitCount_0f7a4_46 ?_
  refine Go.istore_n (ls' := [some (vI (((((((x - ((iush x (nI 1)) &&& (nI 1431655765))) &&& (nI 858993459)) + ((iush (x - ((iush x (nI 1)) &&& (nI 1431655765))) (nI 2)) &&& (nI 858993459))) + (iush (((x - ((iush x (nI 1)) &&& (nI 1431655765))) &&& (nI 858993459)) + ((iush (x - ((iush x (nI 1)) &&& (nI 1431655765))) (nI 2)) &&& (nI 858993459))) (nI 4))) &&& (nI 252645135)) + (iush (((((x - ((iush x (nI 1)) &&& (nI 1431655765))) &&& (nI 858993459)) + ((iush (x - ((iush x (nI 1)) &&& (nI 1431655765))) (nI 2)) &&& (nI 858993459))) + (iush (((x - ((iush x (nI 1)) &&& (nI 1431655765))) &&& (nI 858993459)) + ((iush (x - ((iush x (nI 1)) &&& (nI 1431655765))) (nI 2)) &&& (nI 858993459))) (nI 4))) &&& (nI 252645135)) (nI 8))) + (iush ((((((x - ((iush x (nI 1)) &&& (nI 1431655765))) &&& (nI 858993459)) + ((iush (x - ((iush x (nI 1)) &&& (nI 1431655765))) (nI 2)) &&& (nI 858993459))) + (iush (((x - ((iush x (nI 1)) &&& (nI 1431655765))) &&& (nI 858993459)) + ((iush (x - ((iush x (nI 1)) &&& (nI 1431655765))) (nI 2)) &&& (nI 858993459))) (nI 4))) &&& (nI 252645135)) + (iush (((((x - ((iush x (nI 1)) &&& (nI 1431655765))) &&& (nI 858993459)) + ((iush (x - ((iush x (nI 1)) &&& (nI 1431655765))) (nI 2)) &&& (nI 858993459))) + (iush (((x - ((iush x (nI 1)) &&& (nI 1431655765))) &&& (nI 858993459)) + ((iush (x - ((iush x (nI 1)) &&& (nI 1431655765))) (nI 2)) &&& (nI 858993459))) (nI 4))) &&& (nI 252645135)) (nI 8))) (nI 16))))]) dJ6_bitCount_0f7a4_47 (by decide) rfl ?_
  refine Go.iload_n dJ6_bitCount_0f7a4_48 rfl ?_
  refine Go.bipush (v := nI 63) dJ6_bitCount_0f7a4_49 rfl ?_
  refine Go.iand dJ6_bitCount_0f7a4_51 ?_
  refine Go.ireturn .int dJ6_bitCount_0f7a4_52 rfl rfl ?_
  exact ⟨rfl, rfl⟩
