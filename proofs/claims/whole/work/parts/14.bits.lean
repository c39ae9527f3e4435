/-! ===== Int32 by its bits: bt x i ===== -/
def bt (x : Int32) (i : Nat) : Bool := x.toBitVec.getLsbD i
theorem b_ext {x y : Int32} (h : ∀ i, i < 32 → bt x i = bt y i) : x = y := Int32.toBitVec_inj.mp (BitVec.eq_of_getLsbD_eq (fun i hi => h i hi))
theorem b_or (x y : Int32) (i : Nat) : bt (x ||| y) i = (bt x i || bt y i) := by unfold bt; rw [Int32.toBitVec_or, BitVec.getLsbD_or]
theorem b_and (x y : Int32) (i : Nat) : bt (x &&& y) i = (bt x i && bt y i) := by unfold bt; rw [Int32.toBitVec_and, BitVec.getLsbD_and]
theorem b_xor (x y : Int32) (i : Nat) : bt (x ^^^ y) i = (bt x i ^^ bt y i) := by unfold bt; rw [Int32.toBitVec_xor, BitVec.getLsbD_xor]
theorem b_big {x : Int32} {i : Nat} (h : 32 ≤ i) : bt x i = false := BitVec.getLsbD_of_ge _ _ h
theorem b_255 (i : Nat) : bt 255 i = decide (i < 8) := by
  rcases Nat.lt_or_ge i 32 with h | h
  · exact (by decide +kernel : ∀ i, i < 32 → bt 255 i = decide (i < 8)) i h
  · rw [b_big h, decide_eq_false (by omega)]
theorem b_65535 (i : Nat) : bt 65535 i = decide (i < 16) := by
  rcases Nat.lt_or_ge i 32 with h | h
  · exact (by decide +kernel : ∀ i, i < 32 → bt 65535 i = decide (i < 16)) i h
  · rw [b_big h, decide_eq_false (by omega)]
theorem b_m1 : ∀ i, i < 32 → bt (-1) i = true := by decide +kernel
theorem b_0 (i : Nat) : bt 0 i = false := BitVec.getLsbD_zero
theorem s_l : ∀ n, n < 32 → ((nI n &&& 31).toBitVec.smod 32).toNat = n := by decide +kernel
theorem s_u : ∀ n, n < 32 → (((nI n).toUInt32 &&& Int32.toUInt32 31).toBitVec % 32).toNat = n := by decide +kernel
theorem b_shl (n : Nat) (hn : n < 32) (x : Int32) {i : Nat} (hi : i < 32) : bt (x <<< (nI n &&& 31)) i = (decide (n ≤ i) && bt x (i - n)) := by
  unfold bt
  rw [Int32.toBitVec_shiftLeft]
  show (x.toBitVec <<< ((nI n &&& 31).toBitVec.smod 32).toNat).getLsbD i = _
  rw [s_l n hn, BitVec.getLsbD_shiftLeft]
  rcases Nat.lt_or_ge i n with h | h
  · simp [h, Nat.not_le.mpr h]
  · simp [hi, h, Nat.not_lt.mpr h]
theorem b_ushr (n : Nat) (hn : n < 32) (x : Int32) (i : Nat) : bt ((x.toUInt32 >>> ((nI n).toUInt32 &&& Int32.toUInt32 31)).toInt32) i = bt x (n + i) := by
  show (x.toUInt32 >>> ((nI n).toUInt32 &&& Int32.toUInt32 31)).toBitVec.getLsbD i = x.toUInt32.toBitVec.getLsbD (n + i)
  rw [UInt32.toBitVec_shiftRight]
  show (x.toUInt32.toBitVec >>> (((nI n).toUInt32 &&& Int32.toUInt32 31).toBitVec % 32).toNat).getLsbD i = _
  rw [s_u n hn, BitVec.getLsbD_ushiftRight]
theorem b_sshr (n : Nat) (hn : n < 32) (x : Int32) {i : Nat} (hi : i < 32) : bt (x >>> (nI n &&& 31)) i = if n + i < 32 then bt x (n + i) else bt x 31 := by
  unfold bt
  rw [Int32.toBitVec_shiftRight]
  show (x.toBitVec.sshiftRight ((nI n &&& 31).toBitVec.smod 32).toNat).getLsbD i = _
  rw [s_l n hn, BitVec.getLsbD_sshiftRight, BitVec.msb_eq_getLsbD_last]
  simp [hi]
theorem b_shl8 (x : Int32) {i : Nat} (hi : i < 32) : bt (x <<< ((8 : Int32) &&& 31)) i = (decide (8 ≤ i) && bt x (i - 8)) := b_shl 8 (by omega) x hi
theorem b_shl16 (x : Int32) {i : Nat} (hi : i < 32) : bt (x <<< ((16 : Int32) &&& 31)) i = (decide (16 ≤ i) && bt x (i - 16)) := b_shl 16 (by omega) x hi
theorem b_shl24 (x : Int32) {i : Nat} (hi : i < 32) : bt (x <<< ((24 : Int32) &&& 31)) i = (decide (24 ≤ i) && bt x (i - 24)) := b_shl 24 (by omega) x hi
theorem b_sshr8 (x : Int32) {i : Nat} (hi : i < 32) : bt (x >>> ((8 : Int32) &&& 31)) i = if 8 + i < 32 then bt x (8 + i) else bt x 31 := b_sshr 8 (by omega) x hi
/-! ===== sets of cells as bits ===== -/
theorem bt_1 (i : Nat) : bt (nI 1) i = decide (i = 0) := by
  rcases Nat.lt_or_ge i 32 with h | h
  · exact (by decide +kernel : ∀ i, i < 32 → bt (nI 1) i = decide (i = 0)) i h
  · rw [b_big h, decide_eq_false (by omega)]
theorem bt_0 (i : Nat) : bt (nI 0) i = false := b_0 i
theorem b_iush (n : Nat) (hn : n < 32) (x : Int32) (i : Nat) : bt (iush x (nI n)) i = bt x (n + i) := b_ushr n hn x i
theorem bitM {c : Nat} (hc : c < 32) (x : Int32) : (x >>> (nI c &&& 31)) &&& nI 1 = if bt x c = true then nI 1 else nI 0 := by
  apply b_ext
  intro i hi
  rw [b_and, b_sshr c hc x hi, bt_1]
  by_cases h0 : i = 0
  · subst h0
    rw [Nat.add_zero, if_pos hc]
    cases h : bt x c
    · rfl
    · rfl
  · rw [decide_eq_false h0, Bool.and_false]
    split
    · rw [bt_1, decide_eq_false h0]
    · rw [bt_0]
theorem bitU {c : Nat} (hc : c < 32) (x : Int32) : iush x (nI c) &&& nI 1 = if bt x c = true then nI 1 else nI 0 := by
  apply b_ext
  intro i hi
  rw [b_and, b_iush c hc, bt_1]
  by_cases h0 : i = 0
  · subst h0
    rw [Nat.add_zero]
    cases h : bt x c
    · rfl
    · rfl
  · rw [decide_eq_false h0, Bool.and_false]
    split
    · rw [bt_1, decide_eq_false h0]
    · rw [bt_0]
theorem bitM1 {c : Nat} (hc : c < 32) (x : Int32) : (x >>> (nI c &&& 31)) &&& nI 1 = nI 1 ↔ bt x c = true := by
  rw [bitM hc]
  split
  · exact ⟨fun _ => by assumption, fun _ => rfl⟩
  · exact ⟨fun h => absurd h (by decide), fun h => absurd h (by assumption)⟩
theorem bitU1 {c : Nat} (hc : c < 32) (x : Int32) : ¬ iush x (nI c) &&& nI 1 = 0 ↔ bt x c = true := by
  rw [bitU hc]
  split
  · exact ⟨fun _ => by assumption, fun _ => by decide⟩
  · exact ⟨fun h => absurd rfl h, fun h => absurd h (by assumption)⟩
theorem bt_one {c : Nat} (hc : c < 32) (i : Nat) : bt (nI 1 <<< (nI c &&& 31)) i = decide (i = c) := by
  rcases Nat.lt_or_ge i 32 with h | h
  · rw [b_shl c hc _ h, bt_1]
    by_cases e : i = c
    · subst e; simp
    · rw [decide_eq_false e]
      by_cases e2 : c ≤ i
      · rw [decide_eq_false (show ¬ i - c = 0 by omega), Bool.and_false]
      · rw [decide_eq_false e2, Bool.false_and]
  · rw [b_big h, decide_eq_false (by omega)]
theorem bt_not (x : Int32) {i : Nat} (hi : i < 32) : bt (x ^^^ (-1)) i = !bt x i := by
  rw [b_xor, b_m1 i hi]
  cases bt x i <;> rfl
/-- a set of cells alone -/
def S30 (x : Int32) : Prop := ∀ i, 30 ≤ i → bt x i = false
theorem drL_bt (s : Nat → Int32) (l : Int32) : ∀ n, n ≤ 30 → ∀ i, bt (drL s l n) i = (decide (i < n) && decide (l < tpF s i))
  | 0, _, i => by rw [drL, bt_0, decide_eq_false (Nat.not_lt_zero i), Bool.false_and]
  | n + 1, hn, i => by
    have ih := drL_bt s l n (by omega) i
    rw [drL]
    by_cases h : l < tpF s n
    · rw [if_pos h, b_or, ih, bt_one (by omega)]
      by_cases e : i = n
      · subst e; simp [h]
      · rw [decide_eq_false e, Bool.or_false]
        rw [show decide (i < n + 1) = decide (i < n) from decide_eq_decide.mpr (by omega)]
    · rw [if_neg h, ih]
      by_cases e : i = n
      · subst e; simp [h]
      · rw [show decide (i < n + 1) = decide (i < n) from decide_eq_decide.mpr (by omega)]
theorem dry_S30 (s : Nat → Int32) (t : Int32) : S30 (dryF s t) := fun i hi => by rw [dryF, drL_bt s _ 30 (Nat.le_refl _), decide_eq_false (by omega), Bool.false_and]
theorem dry_bt (s : Nat → Int32) (t : Int32) {i : Nat} (hi : i < 30) : bt (dryF s t) i = decide (levelF s t < tpF s i) := by rw [dryF, drL_bt s _ 30 (Nat.le_refl _), decide_eq_true hi, Bool.true_and]
/-- beside -/
def nbO (c i : Nat) : Option Nat := if i = 0 then (if c + 6 < 30 then some (c + 6) else none) else if i = 1 then (if c % 6 = 5 then none else some (c + 1)) else if i = 2 then (if 6 ≤ c then some (c - 6) else none) else (if c % 6 = 0 then none else some (c - 1))
theorem nbO_lt {c i q : Nat} (hc : c < 30) (h : nbO c i = some q) : q < 30 := by
  unfold nbO at h
  split at h
  · split at h <;> cases h; omega
  · split at h
    · split at h <;> cases h; omega
    · split at h
      · split at h <;> cases h; omega
      · split at h <;> cases h; omega
def adj (c j : Nat) : Prop := c = j + 6 ∨ c + 6 = j ∨ (c = j + 1 ∧ j % 6 ≠ 5) ∨ (c + 1 = j ∧ c % 6 ≠ 5)
theorem adj_symm {c j : Nat} (h : adj c j) : adj j c := by
  unfold adj at *
  omega
theorem nb_adj {c j : Nat} (hc : c < 30) (hj : j < 30) : (∃ i, i < 4 ∧ nbO c i = some j) ↔ adj c j := by
  unfold adj
  constructor
  · rintro ⟨i, hi, h⟩
    unfold nbO at h
    split at h
    · split at h <;> cases h; omega
    · split at h
      · split at h <;> cases h; omega
      · split at h
        · split at h <;> cases h; omega
        · split at h <;> cases h; omega
  · rintro (h | h | ⟨h, h2⟩ | ⟨h, h2⟩)
    · exact ⟨2, by decide, by unfold nbO; rw [if_neg (by decide), if_neg (by decide), if_pos rfl, if_pos (by omega)]; congr 1; omega⟩
    · exact ⟨0, by decide, by unfold nbO; rw [if_pos rfl, if_pos (by omega)]; congr 1⟩
    · exact ⟨3, by decide, by unfold nbO; rw [if_neg (by decide), if_neg (by decide), if_neg (by decide), if_neg (by omega)]; congr 1; omega⟩
    · exact ⟨1, by decide, by unfold nbO; rw [if_neg (by decide), if_pos rfl, if_neg h2]; congr 1⟩
/-- spread by bits -/
theorem mk_L : ∀ i, i < 32 → bt (-545392673) i = decide (¬ (i % 6 = 5 ∧ i < 30)) := by decide +kernel
theorem mk_F : ∀ i, i < 32 → bt (-17043522) i = decide (¬ (i % 6 = 0 ∧ i < 30)) := by decide +kernel
theorem mk_A : ∀ i, i < 32 → bt (nI 1073741823) i = decide (i < 30) := by decide +kernel
theorem spr_bt {x : Int32} (hx : S30 x) (j : Nat) : bt (sprF x) j = true ↔ j < 30 ∧ (bt x j = true ∨ ∃ c, c < 30 ∧ bt x c = true ∧ adj c j) := by
  rcases Nat.lt_or_ge j 32 with hj | hj
  · unfold sprF
    rw [b_and, mk_A j hj, b_or, b_or, b_or, b_or, b_shl 6 (by decide) x hj, b_iush 6 (by decide), b_shl 1 (by decide) _ hj, b_iush 1 (by decide)]
    simp only [Bool.and_eq_true, Bool.or_eq_true, decide_eq_true_eq]
    constructor
    · rintro ⟨h, hlt⟩
      refine ⟨hlt, ?_⟩
      rcases h with (h | h | h) | h | h
      · exact Or.inl h
      · refine Or.inr ⟨j - 6, by omega, h.2, ?_⟩
        unfold adj; omega
      · have : 6 + j < 30 := by
          rcases Nat.lt_or_ge (6 + j) 30 with q | q
          · exact q
          · rw [hx _ q] at h; cases h
        refine Or.inr ⟨6 + j, this, h, ?_⟩
        unfold adj; omega
      · have h2 := h.2
        rw [b_and] at h2
        simp only [Bool.and_eq_true] at h2
        rw [mk_L (j - 1) (by omega)] at h2
        simp only [decide_eq_true_eq] at h2
        refine Or.inr ⟨j - 1, by omega, h2.1, ?_⟩
        unfold adj; omega
      · rw [b_and] at h
        simp only [Bool.and_eq_true] at h
        have : 1 + j < 30 := by
          rcases Nat.lt_or_ge (1 + j) 30 with q | q
          · exact q
          · rw [hx _ q] at h; cases h.1
        rw [mk_F (1 + j) (by omega)] at h
        simp only [decide_eq_true_eq] at h
        refine Or.inr ⟨1 + j, this, h.1, ?_⟩
        unfold adj; omega
    · rintro ⟨hlt, h⟩
      refine ⟨?_, hlt⟩
      rcases h with h | ⟨c, hc, hb, ha⟩
      · exact Or.inl (Or.inl h)
      · rcases ha with e | e | ⟨e, e2⟩ | ⟨e, e2⟩
        · exact Or.inl (Or.inr (Or.inr (by rw [show 6 + j = c by omega]; exact hb)))
        · exact Or.inl (Or.inr (Or.inl ⟨by omega, by rw [show j - 6 = c by omega]; exact hb⟩))
        · refine Or.inr (Or.inr ?_)
          rw [b_and, mk_F (1 + j) (by omega), show 1 + j = c by omega, hb, Bool.true_and]
          simp only [decide_eq_true_eq]; omega
        · refine Or.inr (Or.inl ⟨by omega, ?_⟩)
          rw [b_and, mk_L (j - 1) (by omega), show j - 1 = c by omega, hb, Bool.true_and]
          simp only [decide_eq_true_eq]; omega
  · rw [b_big hj]
    exact ⟨fun h => (by cases h), fun h => absurd h.1 (by omega)⟩
theorem spr_S30 (x : Int32) : S30 (sprF x) := fun i hi => by
  rcases Nat.lt_or_ge i 32 with h | h
  · rw [sprF, b_and, mk_A i h, decide_eq_false (by omega), Bool.and_false]
  · exact b_big h
theorem ext30 {x y : Int32} (hx : S30 x) (hy : S30 y) (h : ∀ i, i < 30 → (bt x i = true ↔ bt y i = true)) : x = y := by
  apply b_ext
  intro i _
  rcases Nat.lt_or_ge i 30 with q | q
  · have := h i q
    cases h1 : bt x i <;> cases h2 : bt y i <;> simp_all
  · rw [hx i q, hy i q]
theorem and_S30 {x y : Int32} (hx : S30 y) : S30 (x &&& y) := fun i hi => by rw [b_and, hx i hi, Bool.and_false]
theorem and_S30' {x y : Int32} (hx : S30 x) : S30 (x &&& y) := fun i hi => by rw [b_and, hx i hi, Bool.false_and]
/-- the model's way -/
def addN (all : Int32) (c : Nat) : Nat → Int32
  | 0 => all
  | i + 1 => match nbO c i with
    | none => addN all c i ||| nI 0
    | some q => addN all c i ||| (nI 1 <<< (nI q &&& 31))
def spM (x : Int32) : Nat → Int32
  | 0 => x
  | c + 1 => if bt x c = true then addN (spM x c) c 4 else spM x c
theorem addN_bt (all : Int32) {c : Nat} (hc : c < 30) (j : Nat) : ∀ i, bt (addN all c i) j = true ↔ bt all j = true ∨ ∃ k, k < i ∧ nbO c k = some j
  | 0 => ⟨fun h => Or.inl h, fun h => h.elim id (fun ⟨k, hk, _⟩ => absurd hk (Nat.not_lt_zero k))⟩
  | i + 1 => by
    have ih := addN_bt all hc j i
    rw [addN]
    cases hq : nbO c i with
    | none =>
      show bt (addN all c i ||| nI 0) j = true ↔ _
      rw [or0, ih]
      constructor
      · rintro (h | ⟨k, h1, h2⟩)
        · exact Or.inl h
        · exact Or.inr ⟨k, by omega, h2⟩
      · rintro (h | ⟨k, h1, h2⟩)
        · exact Or.inl h
        · rcases Nat.lt_or_ge k i with q | q
          · exact Or.inr ⟨k, q, h2⟩
          · obtain rfl : k = i := by omega
            rw [hq] at h2; cases h2
    | some q =>
      show bt (addN all c i ||| (nI 1 <<< (nI q &&& 31))) j = true ↔ _
      have hq30 := nbO_lt hc hq
      rw [b_or, bt_one (by omega), Bool.or_eq_true, ih, decide_eq_true_eq]
      constructor
      · rintro ((h | ⟨k, h1, h2⟩) | h)
        · exact Or.inl h
        · exact Or.inr ⟨k, by omega, h2⟩
        · exact Or.inr ⟨i, by omega, by rw [h]; exact hq⟩
      · rintro (h | ⟨k, h1, h2⟩)
        · exact Or.inl (Or.inl h)
        · rcases Nat.lt_or_ge k i with r | r
          · exact Or.inl (Or.inr ⟨k, r, h2⟩)
          · obtain rfl : k = i := by omega
            rw [hq] at h2; cases h2; exact Or.inr rfl
theorem spM_bt (x : Int32) (j : Nat) : ∀ n, n ≤ 30 → (bt (spM x n) j = true ↔ bt x j = true ∨ ∃ c, c < n ∧ bt x c = true ∧ ∃ i, i < 4 ∧ nbO c i = some j)
  | 0, _ => ⟨fun h => Or.inl h, fun h => h.elim id (fun ⟨k, hk, _⟩ => absurd hk (Nat.not_lt_zero k))⟩
  | n + 1, hn => by
    have ih := spM_bt x j n (by omega)
    rw [spM]
    by_cases hb : bt x n = true
    · rw [if_pos hb, addN_bt _ (by omega), ih]
      constructor
      · rintro ((h | ⟨c, h1, h2⟩) | h)
        · exact Or.inl h
        · exact Or.inr ⟨c, by omega, h2⟩
        · exact Or.inr ⟨n, by omega, hb, h⟩
      · rintro (h | ⟨c, h1, h2, h3⟩)
        · exact Or.inl (Or.inl h)
        · rcases Nat.lt_or_ge c n with r | r
          · exact Or.inl (Or.inr ⟨c, r, h2, h3⟩)
          · obtain rfl : c = n := by omega
            exact Or.inr h3
    · rw [if_neg hb, ih]
      constructor
      · rintro (h | ⟨c, h1, h2⟩)
        · exact Or.inl h
        · exact Or.inr ⟨c, by omega, h2⟩
      · rintro (h | ⟨c, h1, h2, h3⟩)
        · exact Or.inl h
        · rcases Nat.lt_or_ge c n with r | r
          · exact Or.inr ⟨c, r, h2, h3⟩
          · obtain rfl : c = n := by omega
            exact absurd h2 hb
theorem spM_eq {x : Int32} (hx : S30 x) : spM x 30 = sprF x := by
  have hS : S30 (spM x 30) := by
    intro j hj
    cases h : bt (spM x 30) j with
    | false => rfl
    | true =>
      rcases (spM_bt x j 30 (Nat.le_refl _)).mp h with q | ⟨c, h1, h2, i, h3, h4⟩
      · rw [hx j hj] at q; cases q
      · exact absurd (nbO_lt h1 h4) (by omega)
  refine ext30 hS (spr_S30 x) (fun j hj => ?_)
  rw [spM_bt x j 30 (Nat.le_refl _), spr_bt hx]
  constructor
  · rintro (h | ⟨c, h1, h2, h3⟩)
    · exact ⟨hj, Or.inl h⟩
    · exact ⟨hj, Or.inr ⟨c, h1, h2, (nb_adj h1 hj).mp h3⟩⟩
  · rintro ⟨_, h | ⟨c, h1, h2, h3⟩⟩
    · exact Or.inl h
    · exact Or.inr ⟨c, h1, h2, (nb_adj h1 hj).mpr h3⟩
/-! ===== parts ===== -/
def itP (set x : Int32) : Nat → Int32
  | 0 => x
  | k + 1 => sprF (itP set x k) &&& set
def sub30 (x y : Int32) : Prop := ∀ i, bt x i = true → bt y i = true
theorem itP_S30 {set x : Int32} (hs : S30 set) (hx : S30 x) : ∀ k, S30 (itP set x k)
  | 0 => hx
  | k + 1 => and_S30 hs
theorem itP_sub {set x : Int32} (hs : S30 set) (h : sub30 x set) : ∀ k, sub30 (itP set x k) set
  | 0 => h
  | k + 1 => fun i hi => by rw [itP, b_and, Bool.and_eq_true] at hi; exact hi.2
theorem sub_S30 {x set : Int32} (h : sub30 x set) (hs : S30 set) : S30 x := fun i hi => by
  cases hb : bt x i with
  | false => rfl
  | true => have := h i hb; rw [hs i hi] at this; cases this
theorem itP_up {set x : Int32} (hs : S30 set) (h : sub30 x set) (k : Nat) : sub30 (itP set x k) (itP set x (k + 1)) := by
  intro i hi
  have h1 := itP_sub hs h k i hi
  have h3 : i < 30 := by
    rcases Nat.lt_or_ge i 30 with q | q
    · exact q
    · rw [hs i q] at h1; cases h1
  rw [itP, b_and, Bool.and_eq_true]
  exact ⟨(spr_bt (itP_S30 hs (sub_S30 h hs) k) i).mpr ⟨h3, Or.inl hi⟩, h1⟩
def cntB (x : Int32) : Nat → Nat
  | 0 => 0
  | n + 1 => cntB x n + (if bt x n = true then 1 else 0)
theorem cntB_le (x : Int32) : ∀ n, cntB x n ≤ n
  | 0 => Nat.le_refl 0
  | n + 1 => by have := cntB_le x n; rw [cntB]; split <;> omega
theorem cntB_mono {x y : Int32} (h : sub30 x y) : ∀ n, cntB x n ≤ cntB y n
  | 0 => Nat.le_refl 0
  | n + 1 => by
    have ih := cntB_mono h n
    rw [cntB, cntB]
    by_cases h1 : bt x n = true
    · rw [if_pos h1, if_pos (h n h1)]; omega
    · rw [if_neg h1]; split <;> omega
theorem cntB_lt {x y : Int32} (h : sub30 x y) {i : Nat} (h1 : ¬ bt x i = true) (h2 : bt y i = true) : ∀ n, i < n → cntB x n < cntB y n
  | 0, hi => absurd hi (Nat.not_lt_zero i)
  | n + 1, hi => by
    rw [cntB, cntB]
    rcases Nat.lt_or_ge i n with q | q
    · have ih := cntB_lt h h1 h2 n q
      by_cases h3 : bt x n = true
      · rw [if_pos h3, if_pos (h n h3)]; omega
      · rw [if_neg h3]; split <;> omega
    · obtain rfl : i = n := by omega
      have := cntB_mono h i
      rw [if_neg h1, if_pos h2]; omega
theorem cntB_ne {x y : Int32} (hx : S30 x) (hy : S30 y) (h : sub30 x y) (hne : x ≠ y) : cntB x 30 < cntB y 30 := by
  by_cases hex : ∃ i, i < 30 ∧ ¬ bt x i = true ∧ bt y i = true
  · obtain ⟨i, h1, h2, h3⟩ := hex
    exact cntB_lt h h2 h3 30 h1
  · refine absurd (ext30 hx hy (fun i hi => ⟨h i, fun hb => ?_⟩)) hne
    cases hq : bt x i with
    | true => rfl
    | false => exact absurd ⟨i, hi, by rw [hq]; decide, hb⟩ hex
theorem itP_grow {set x : Int32} (hs : S30 set) (h : sub30 x set) (hx : 1 ≤ cntB x 30) : ∀ k, (∀ i, i < k → itP set x i ≠ itP set x (i + 1)) → k + 1 ≤ cntB (itP set x k) 30
  | 0, _ => hx
  | k + 1, hne => by
    have ih := itP_grow hs h hx k (fun i hi => hne i (by omega))
    have h1 := itP_S30 hs (sub_S30 h hs)
    have := cntB_ne (h1 k) (h1 (k + 1)) (itP_up hs h k) (hne k (by omega))
    omega
theorem itP_stay {set x : Int32} {k : Nat} (h : itP set x k = itP set x (k + 1)) : ∀ j, itP set x (k + j) = itP set x k
  | 0 => rfl
  | j + 1 => by
    have ih := itP_stay h j
    show sprF (itP set x (k + j)) &&& set = _
    rw [ih]
    exact h.symm
theorem itP_fix {set x : Int32} {k : Nat} (hk : k ≤ 30) (h : itP set x k = itP set x (k + 1)) : itP set x 30 = itP set x k := by
  have := itP_stay h (30 - k)
  rw [show k + (30 - k) = 30 by omega] at this
  exact this
theorem itP_end {set x : Int32} (hs : S30 set) (h : sub30 x set) (hx : 1 ≤ cntB x 30) : ∃ k, k ≤ 29 ∧ itP set x k = itP set x (k + 1) := by
  by_cases hex : ∃ k, k ≤ 29 ∧ itP set x k = itP set x (k + 1)
  · exact hex
  · have := itP_grow hs h hx 30 (fun i hi e => hex ⟨i, by omega, e⟩)
    have h2 := cntB_le (itP set x 30) 30
    omega
/-- the part of a cell in a set -/
def ptF (set : Int32) (c : Nat) : Int32 := itP set (nI 1 <<< (nI c &&& 31)) 30
theorem one_sub {set : Int32} {c : Nat} (hc : c < 30) (hb : bt set c = true) : sub30 (nI 1 <<< (nI c &&& 31)) set := by
  intro i hi
  rw [bt_one (by omega), decide_eq_true_eq] at hi
  rw [hi]; exact hb
theorem one_cnt : ∀ c, c < 30 → 1 ≤ cntB (nI 1 <<< (nI c &&& 31)) 30 := by decide +kernel
theorem pt_fix {set : Int32} (hs : S30 set) {c : Nat} (hc : c < 30) (hb : bt set c = true) : sprF (ptF set c) &&& set = ptF set c := by
  obtain ⟨k, hk, e⟩ := itP_end hs (one_sub hc hb) (one_cnt c hc)
  have := itP_fix (by omega) e
  unfold ptF
  rw [this]
  exact e.symm
theorem pt_has {set : Int32} (hs : S30 set) {c : Nat} (hc : c < 30) (hb : bt set c = true) : bt (ptF set c) c = true := by
  have : ∀ k, bt (itP set (nI 1 <<< (nI c &&& 31)) k) c = true := by
    intro k
    induction k with
    | zero => rw [itP, bt_one (by omega), decide_eq_true rfl]
    | succ k ih => exact itP_up hs (one_sub hc hb) k c ih
  exact this 30
theorem pt_sub {set : Int32} (hs : S30 set) {c : Nat} (hc : c < 30) (hb : bt set c = true) : sub30 (ptF set c) set := itP_sub hs (one_sub hc hb) 30
/-- closed under beside, within a set -/
def clos (set L : Int32) : Prop := sub30 L set ∧ ∀ i j, i < 30 → j < 30 → bt L i = true → adj i j → bt set j = true → bt L j = true
theorem itP_clos {set L x : Int32} (hs : S30 set) (hL : clos set L) (hx : sub30 x L) : ∀ k, itP L x k = itP set x k ∧ sub30 (itP L x k) L
  | 0 => ⟨rfl, hx⟩
  | k + 1 => by
    obtain ⟨e, h⟩ := itP_clos hs hL hx k
    have hLS : S30 L := sub_S30 hL.1 hs
    have hkS : S30 (itP L x k) := sub_S30 h hLS
    refine ⟨?_, fun i hi => by rw [itP, b_and, Bool.and_eq_true] at hi; exact hi.2⟩
    show sprF (itP L x k) &&& L = sprF (itP set x k) &&& set
    rw [← e]
    refine ext30 (and_S30 hLS) (and_S30 hs) (fun i hi => ?_)
    rw [b_and, b_and, Bool.and_eq_true, Bool.and_eq_true]
    constructor
    · rintro ⟨h1, h2⟩; exact ⟨h1, hL.1 i h2⟩
    · rintro ⟨h1, h2⟩
      refine ⟨h1, ?_⟩
      rcases ((spr_bt hkS i).mp h1).2 with q | ⟨c, q1, q2, q3⟩
      · exact h i q
      · exact hL.2 c i q1 hi (h c q2) q3 h2
theorem clos_cut {set L : Int32} (hs : S30 set) (hL : clos set L) {c : Nat} (hc : c < 30) (hb : bt L c = true) : clos set (L &&& (ptF set c ^^^ (-1))) := by
  have hbs := hL.1 c hb
  refine ⟨fun i hi => ?_, fun i j hi hj h1 ha h2 => ?_⟩
  · rw [b_and, Bool.and_eq_true] at hi
    exact hL.1 i hi.1
  · rw [b_and, Bool.and_eq_true, bt_not _ (by omega)] at h1
    rw [b_and, Bool.and_eq_true, bt_not _ (by omega)]
    refine ⟨hL.2 i j hi hj h1.1 ha h2, ?_⟩
    cases hq : bt (ptF set c) j with
    | false => rfl
    | true =>
      have hpS : S30 (ptF set c) := sub_S30 (pt_sub hs hc hbs) hs
      have : bt (ptF set c) i = true := by
        rw [← pt_fix hs hc hbs, b_and, Bool.and_eq_true]
        exact ⟨(spr_bt hpS i).mpr ⟨hi, Or.inr ⟨j, hj, hq, adj_symm ha⟩⟩, hL.1 i h1.1⟩
      rw [this] at h1
      cases h1.2
theorem clos_self (set : Int32) : clos set set := ⟨fun _ h => h, fun _ _ _ _ _ _ h => h⟩
theorem pt_clos {set L : Int32} (hs : S30 set) (hL : clos set L) {c : Nat} (hc : c < 30) (hb : bt L c = true) : itP L (nI 1 <<< (nI c &&& 31)) 30 = ptF set c := (itP_clos hs hL (one_sub hc hb) 30).1
/-- the scan: how many parts -/
def scanF (set : Int32) : Nat → Nat → Int32 → Nat → Nat
  | 0, _, _, n => n
  | k + 1, c, L, n => if bt L c = true then scanF set k (c + 1) (L &&& (ptF set c ^^^ (-1))) (n + 1) else scanF set k (c + 1) L n
theorem scan_skip (set L : Int32) (n : Nat) : ∀ (j k c : Nat), (∀ i, c ≤ i → i < c + j → ¬ bt L i = true) → scanF set (j + k) c L n = scanF set k (c + j) L n
  | 0, k, c, _ => by rw [Nat.zero_add, Nat.add_zero]
  | j + 1, k, c, h => by
    rw [show j + 1 + k = (j + k) + 1 by omega, scanF, if_neg (h c (by omega) (by omega)), scan_skip set L n j k (c + 1) (fun i h1 h2 => h i (by omega) (by omega)), show c + 1 + j = c + (j + 1) by omega]
theorem scan_zero (set L : Int32) (n : Nat) (h : ∀ i, i < 30 → ¬ bt L i = true) : scanF set 30 0 L n = n := by
  have := scan_skip set L n 30 0 0 (fun i _ h2 => h i (by omega))
  exact this
/-- one round: the lowest cell of L -/
theorem scan_low {set L : Int32} (hs : S30 set) (hL : clos set L) {c : Nat} (hc : c < 30) (hb : bt L c = true) (hlow : ∀ i, i < c → ¬ bt L i = true) (n : Nat) : scanF set 30 0 L n = scanF set 30 0 (L &&& (ptF set c ^^^ (-1))) (n + 1) := by
  have e1 := scan_skip set L n c (30 - c) 0 (fun i _ h2 => hlow i (by omega))
  rw [show c + (30 - c) = 30 by omega, Nat.zero_add] at e1
  have e2 := scan_skip set (L &&& (ptF set c ^^^ (-1))) (n + 1) (c + 1) (29 - c) 0 (fun i _ h2 => by
    rw [b_and, Bool.and_eq_true, bt_not _ (by omega)]
    rintro ⟨q1, q2⟩
    rcases Nat.lt_or_ge i c with r | r
    · exact hlow i r q1
    · obtain rfl : i = c := by omega
      rw [pt_has hs hc (hL.1 i hb)] at q2
      cases q2)
  rw [show c + 1 + (29 - c) = 30 by omega, Nat.zero_add] at e2
  rw [e1, e2, show 30 - c = (29 - c) + 1 by omega, scanF, if_pos hb]
theorem low_exists {L : Int32} (hS : S30 L) (h : L ≠ 0) : ∃ c, c < 30 ∧ bt L c = true ∧ ∀ i, i < c → ¬ bt L i = true := by
  have hex : ∃ c, bt L c = true := by
    by_cases hq : ∃ c, bt L c = true
    · exact hq
    · exact absurd (ext30 hS (fun i _ => b_0 i) (fun i _ => ⟨fun z => absurd ⟨i, z⟩ hq, fun z => by rw [b_0] at z; cases z⟩)) h
  obtain ⟨c, h1, h2⟩ := pk_least (fun c => bt L c = true) hex
  refine ⟨c, ?_, h1, h2⟩
  rcases Nat.lt_or_ge c 30 with q | q
  · exact q
  · rw [hS c q] at h1; cases h1
theorem lowbit {L : Int32} {c : Nat} (hc : c < 30) (hb : bt L c = true) (hlow : ∀ i, i < c → ¬ bt L i = true) : L &&& (-L) = nI 1 <<< (nI c &&& 31) := by
  apply b_ext
  intro i hi
  rw [b_and, bt_one (by omega)]
  have hn : bt (-L) i = (bt L i ^^ decide (i < 32) && decide (∃ j, j < i ∧ bt L j = true)) := by
    unfold bt
    rw [Int32.toBitVec_neg, BitVec.getLsbD_neg]
  rw [hn, decide_eq_true hi, Bool.true_and]
  by_cases e : i = c
  · subst e
    rw [hb, decide_eq_false (by rintro ⟨j, h1, h2⟩; exact hlow j h1 h2), decide_eq_true rfl]
    rfl
  · rw [decide_eq_false e]
    rcases Nat.lt_or_ge i c with q | q
    · cases hbi : bt L i with
      | false => rfl
      | true => exact absurd hbi (hlow i q)
    · rw [decide_eq_true (⟨c, by omega, hb⟩ : ∃ j, j < i ∧ bt L j = true)]
      cases bt L i <;> rfl
theorem cut_cnt {set L : Int32} (hs : S30 set) (hL : clos set L) {c : Nat} (hc : c < 30) (hb : bt L c = true) : cntB (L &&& (ptF set c ^^^ (-1))) 30 < cntB L 30 := by
  refine cntB_lt (fun i hi => ?_) (i := c) ?_ hb 30 hc
  · rw [b_and, Bool.and_eq_true] at hi; exact hi.1
  · rw [b_and, Bool.and_eq_true, bt_not _ (by omega), pt_has hs hc (hL.1 c hb)]
    rintro ⟨_, q⟩; cases q
theorem cnt0 {L : Int32} (hS : S30 L) (h : cntB L 30 = 0) : L = 0 := by
  by_cases h0 : L = 0
  · exact h0
  · obtain ⟨c, h1, h2, -⟩ := low_exists hS h0
    have h00 : cntB (nI 0) 30 = 0 := by decide +kernel
    have := cntB_lt (x := nI 0) (y := L) (fun i hi => by rw [bt_0] at hi; cases hi) (i := c) (by rw [bt_0]; decide) h2 30 h1
    omega
/-! ===== counting bits ===== -/
theorem onesF_cnt (x : Int32) : ∀ n, n ≤ 30 → onesF x n = nI (cntB x n)
  | 0, _ => rfl
  | n + 1, hn => by
    rw [onesF, cntB, onesF_cnt x n (by omega), bitM (by omega)]
    split <;> exact nI_add _ _
