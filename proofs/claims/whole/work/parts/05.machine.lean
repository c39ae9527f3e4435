-- the cells of both systems: (0, class, fields: none an int, some the cell it refers to), (1, length, _) ints, (2.., _, cells) references: Sheet[], Slot[], int[][]
-- 0 TI
-- 1 Laws
-- 2 keys
-- 3 operands
-- 4 sizes
-- 5 rows
-- 6 lstack
-- 7 now
-- 8 now.kinds
-- 9 now.heights
-- 10 now.corn
-- 11 now.owners
-- 12 now.water
-- 13 now.many
-- 14 now.places
-- 15 image
-- 16 image.kinds
-- 17 image.heights
-- 18 image.corn
-- 19 image.owners
-- 20 image.water
-- 21 image.many
-- 22 image.places
-- 23 trial
-- 24 trial.kinds
-- 25 trial.heights
-- 26 trial.corn
-- 27 trial.owners
-- 28 trial.water
-- 29 trial.many
-- 30 trial.places
-- 31 Tape
-- 32 bytes
-- 33 Reader
-- 34 row
-- 35 pending
-- 36 sheets
-- 37 slots
-- 38 waiting
-- 39 row0
-- 40 row1
-- 41 row2
-- 42 row3
-- 43 row4
-- 44 row5
-- 45 row6
-- 46 row7
-- 47 row8
-- 48 row9
-- 49 row10
-- 50 row11
-- 51 row12
-- 52 row13
-- 53 sheet0
-- 54 sheet1
-- 55 sheet2
-- 56 sheet3
-- 57 sval0
-- 58 sval1
-- 59 sval2
-- 60 sval3
-- 61 slot0
-- 62 slot1
-- 63 slot2
-- 64 slot3
-- 65 slot4
-- 66 lsh0
-- 67 lsh1
-- 68 lsh2
-- 69 lsh3
-- 70 lsh4
-- 71 lval0
-- 72 lval1
-- 73 lval2
-- 74 lval3
-- 75 lval4
-- 76 M
-- 77 m.s
-- 78 m.image
-- 79 m.aside
-- 80 m.tSort
-- 81 m.tSize
-- 82 m.tNumber
-- 83 m.held
-- 84 m.heldNumber
-- 85 m.heldWorth
-- 86 m.heldSize
-- 87 m.heldRow
-- 88 m.hasOf
-- 89 m.tape
-- 90 m.named
-- 91 m.pile
-- 92 m.carried
-- 93 m.waits
-- 94 m.rowDue
def lay : List (Nat × Nat × List (Option Nat)) := [
  (0, 6, [some 1, some 7, some 15, some 23, some 31, some 33, some 36, some 37, some 38, none, none]),
  (0, 1, [some 2, some 3, some 4, some 5, some 6, none]),
  (1, 14, []),
  (1, 14, []),
  (1, 14, []),
  (4, 0, [some 39, some 40, some 41, some 42, some 43, some 44, some 45, some 46, some 47, some 48, some 49, some 50, some 51, some 52]),
  (1, 96, []),
  (0, 0, [some 8, some 9, some 10, some 11, some 12, some 13, some 14, none, none, none, none, none, some 1]),
  (1, 30, []),
  (1, 30, []),
  (1, 30, []),
  (1, 30, []),
  (1, 6, []),
  (1, 8, []),
  (1, 8, []),
  (0, 0, [some 16, some 17, some 18, some 19, some 20, some 21, some 22, none, none, none, none, none, some 1]),
  (1, 30, []),
  (1, 30, []),
  (1, 30, []),
  (1, 30, []),
  (1, 6, []),
  (1, 8, []),
  (1, 8, []),
  (0, 0, [some 24, some 25, some 26, some 27, some 28, some 29, some 30, none, none, none, none, none, some 1]),
  (1, 30, []),
  (1, 30, []),
  (1, 30, []),
  (1, 30, []),
  (1, 6, []),
  (1, 8, []),
  (1, 8, []),
  (0, 5, [none, some 32]),
  (1, 96, []),
  (0, 2, [none, none, some 34, none, some 31, none, none, some 35, none, none, none, none]),
  (1, 96, []),
  (1, 96, []),
  (2, 0, [some 53, some 54, some 55, some 56]),
  (3, 0, [some 61, some 62, some 63, some 64, some 65]),
  (1, 60, []),
  (1, 96, []),
  (1, 96, []),
  (1, 96, []),
  (1, 96, []),
  (1, 96, []),
  (1, 96, []),
  (1, 96, []),
  (1, 96, []),
  (1, 96, []),
  (1, 96, []),
  (1, 96, []),
  (1, 96, []),
  (1, 96, []),
  (1, 96, []),
  (0, 3, [none, none, some 57]),
  (0, 3, [none, none, some 58]),
  (0, 3, [none, none, some 59]),
  (0, 3, [none, none, some 60]),
  (1, 24, []),
  (1, 24, []),
  (1, 24, []),
  (1, 24, []),
  (0, 4, [none, none, none, none, some 66]),
  (0, 4, [none, none, none, none, some 67]),
  (0, 4, [none, none, none, none, some 68]),
  (0, 4, [none, none, none, none, some 69]),
  (0, 4, [none, none, none, none, some 70]),
  (0, 3, [none, none, some 71]),
  (0, 3, [none, none, some 72]),
  (0, 3, [none, none, some 73]),
  (0, 3, [none, none, some 74]),
  (0, 3, [none, none, some 75]),
  (1, 24, []),
  (1, 24, []),
  (1, 24, []),
  (1, 24, []),
  (1, 24, []),
  (0, 7, [some 77, some 78, some 79, none, some 80, some 81, some 82, some 83, some 84, some 85, some 86, some 87, some 88, some 89, none, none, none, none, none, none, none, none, none, none, none, some 90, some 91, some 92, some 93, none, some 94]),
  (1, 3147, []),
  (1, 3147, []),
  (1, 3147, []),
  (1, 4, []),
  (1, 4, []),
  (1, 96, []),
  (1, 5, []),
  (1, 5, []),
  (1, 5, []),
  (1, 5, []),
  (1, 120, []),
  (1, 8, []),
  (1, 96, []),
  (1, 128, []),
  (1, 100, []),
  (1, 24, []),
  (1, 60, []),
  (1, 60, [])]
/-! ===== THE ABSTRACT MACHINE: frames over one memory of ints; every rule is a row of the kit ===== -/
abbrev AVal : Type := Int32 ⊕ Int64 ⊕ Nat ⊕ Unit
abbrev vI (x : Int32) : AVal := Sum.inl x
abbrev vL (x : Int64) : AVal := Sum.inr (Sum.inl x)
abbrev vR (i : Nat) : AVal := Sum.inr (Sum.inr (Sum.inl i))
abbrev vQ : AVal := Sum.inr (Sum.inr (Sum.inr ()))
abbrev Memo : Type := Nat → Nat → Int32
abbrev Mthd : Type := MethodName × ByteArray × Nat × Option FieldType
/-- addresses, classes, slots, array classes, the formatter that is only carried -/
abbrev Envi : Type := (Nat → Nat) × (Nat → ClassId) × (Nat → Nat → Nat) × (Nat → ClassId) × Value
abbrev Scr : Type := Nat × (Nat → Int32)
abbrev VV : Type := Launch × Scr × Envi
def gv (E : Envi) (v : AVal) : Value := match v with
  | .inl x => .int x
  | .inr (.inl x) => .long x
  | .inr (.inr (.inl i)) => .ref (E.1 i)
  | .inr (.inr (.inr _)) => E.2.2.2.2
def T0 : List Cond := lw_tbl.filter goodWord
theorem T0_in {w : Cond} (h : w ∈ T0) : w ∈ lw_tbl ∧ goodWord w = true := List.mem_filter.mp h
theorem T0_at (i : Nat) {w : Cond} (h : tables_1[i]? = some w) (hg : goodWord w = true) : w ∈ T0 := List.mem_filter.mpr ⟨List.mem_append_right _ (List.mem_of_getElem? h), hg⟩
theorem T0_sel (i : Nat) {w : Cond} (h : (k2_sels lw_privs)[i]? = some w) (hg : goodWord w = true) : w ∈ T0 := List.mem_filter.mpr ⟨List.mem_append_left _ (List.mem_of_getElem? h), hg⟩
abbrev clsW : List vw_C := [(RX1, TX1, 13), (RX3, TX3, 6), (RX4, TX4, 12), (RX5, TX5, 3), (RX6, TX6, 5), (RX7, TX7, 2), (RX8, TX8, 11), (RX9, TX9, 31)]
def cT (ci : Nat) : vw_C := clsW.getD ci ("", TX0, 0)
def cTy (ci : Nat) : Nat → FieldType := [tyX1, tyX3, tyX4, tyX5, tyX6, tyX7, tyX8, tyX9].getD ci tyX0
abbrev Dv (V : VV) : va_G := (V.2.2.2.1, V.2.2.2.2.1)
abbrev cAv (V : VV) : Nat → ClassId := V.2.2.2.2.2.1
abbrev tysW (V : VV) : List (ClassId × FieldType) := [(cAv V 0, .int), (cAv V 1, .object RX5), (cAv V 2, .object RX6), (cAv V 3, .array .int)]
def fvl (V : VV) (row : Nat → Int32) (k : Nat) (o : Option Nat) : Value := match o with
  | none => .int (row k)
  | some r => .ref (V.2.2.1 r)
def entf (V : VV) (row : Nat → Int32) (q : Nat × Nat × List (Option Nat)) : va_E := match q with
  | (0, c, fs) => .inr (c, fs.mapIdx (fvl V row))
  | (1, n, _) => .inl (cAv V 0, n, .inl row)
  | (t + 2, _, rs) => .inl (cAv V (t + 1), rs.length, .inr (.inr (.inr (.inr (fun j => (rs.getD j none).map V.2.2.1)))))
def cel (V : VV) (μ : Memo) : va_W := (List.range lay.length).map (fun i => (V.2.2.1 i, entf V (μ i) (lay.getD i (9, 0, []))))
theorem cel_len (V : VV) (μ : Memo) : (cel V μ).length = lay.length := by simp [cel]
theorem cel_get (V : VV) (μ : Memo) {i : Nat} {q : Nat × Nat × List (Option Nat)} (h : lay[i]? = some q) : (cel V μ)[i]? = some (V.2.2.1 i, entf V (μ i) q) := by
  have hi : i < lay.length := (List.getElem?_eq_some_iff.mp h).1
  have hg : lay.getD i (9, 0, []) = q := by rw [List.getD_eq_getElem?_getD, h]; rfl
  unfold cel
  rw [List.getElem?_map, List.getElem?_range hi]
  simp only [Option.map_some, hg]
/-- one cell's numbers -/
def mw (μ : Memo) (o : Nat) (f : Nat → Int32) : Memo := fun q => if q = o then f else μ q
def ms (μ : Memo) (o j : Nat) (x : Int32) : Memo := mw μ o (upd (μ o) j x)
theorem mw_self (μ : Memo) (o : Nat) (f : Nat → Int32) : mw μ o f o = f := if_pos rfl
theorem mw_ne (μ : Memo) {o q : Nat} (f : Nat → Int32) (h : q ≠ o) : mw μ o f q = μ q := if_neg h
theorem cel_set (V : VV) (μ : Memo) {o : Nat} {q : Nat × Nat × List (Option Nat)} (h : lay[o]? = some q) (f : Nat → Int32) : (cel V μ).set o (V.2.2.1 o, entf V f q) = cel V (mw μ o f) := by
  apply List.ext_getElem?
  intro k
  by_cases hk : k = o
  · subst hk
    rw [List.getElem?_set_self (by rw [cel_len]; exact (List.getElem?_eq_some_iff.mp h).1), cel_get V (mw μ k f) h, mw_self]
  · rw [List.getElem?_set_ne (Ne.symm hk)]
    unfold cel
    rw [List.getElem?_map, List.getElem?_map]
    cases hr : (List.range lay.length)[k]? with
    | none => rfl
    | some i =>
      have : i = k := by
        have h2 := List.getElem?_eq_some_iff.mp hr
        obtain ⟨h3, h4⟩ := h2
        rw [List.getElem_range] at h4
        exact h4.symm
      subst this
      simp only [Option.map_some, mw_ne μ f hk]
theorem cel_D {V : VV} {μ μ' : Memo} {A : Nat → Prop} (h : va_D A (cel V μ)) : va_D A (cel V μ') := by
  have key : ∀ (k : Nat) (q : Nat × va_E), (cel V μ')[k]? = some q → ∃ q0 : Nat × va_E, (cel V μ)[k]? = some q0 ∧ q0.1 = q.1 := by
    intro k q hk
    unfold cel at hk ⊢
    rw [List.getElem?_map] at hk ⊢
    cases hr : (List.range lay.length)[k]? with
    | none => rw [hr] at hk; cases hk
    | some i => rw [hr] at hk; cases hk; exact ⟨_, rfl, rfl⟩
  refine ⟨fun i j x y hi hj hxy => ?_, fun k q hk => ?_⟩
  · obtain ⟨x0, h1, h2⟩ := key i x hi
    obtain ⟨y0, h3, h4⟩ := key j y hj
    exact h.1 i j x0 y0 h1 h3 (h2.trans (hxy.trans h4.symm))
  · obtain ⟨q0, h1, h2⟩ := key k q hk
    rw [← h2]
    exact h.2 k q0 h1
def seaC (j : Nat) : Int32 := [20, 20, 9, 9, 100, 20].getD j 0
def lenS : List Nat := [4, 4, 4, 3, 2, 2]
def bytS : List (List Int32) := [[116, 105, 100, 101], [103, 114, 111, 119], [114, 111, 111, 109], [104, 100, 115], [99, 104], [116, 104]]
def strI (i : Nat) : Nat := [82, 88, 90, 131, 133, 135].getD i 0
def strT (i : Nat) : String := ["tide", "grow", "room", "hds", "ch", "th"].getD i ""
/-- what nobody writes: MOST_OF_SEA (200), the texts (201.., their bytes 211..), the script (220), the JDK's statics, the nest's call -/
def ROW (V : VV) (A : Nat → Prop) (U : State) (H : Heap) : Prop :=
  (va_Z "TideIsland" "MOST_OF_SEA" "[I" (.ref (V.2.2.1 200)) A U H ∧ va_T .int (V.2.2.1 200) 6 (fun j => .int (seaC j)) A U H) ∧
  (va_Z "java/lang/String" "COMPACT_STRINGS" "Z" (.int 1) A U H ∧ va_Z "jdk/internal/util/Preconditions" "SIOOBE_FORMATTER" "Ljava/util/function/BiFunction;" V.2.2.2.2.2.2 A U H ∧ V.2.2.2.2.2.2.category = 1) ∧
  (vk_S 6 lenS bytS (fun i => V.2.2.1 (201 + i)) (fun i => V.2.2.1 (211 + i)) A U H ∧ ∀ i, i < 6 → vk_R RX4 (strI i) (strT i) (V.2.2.1 (201 + i)) U) ∧
  va_Nw (.methodLinkNest RX1 90 yX8_hold RX8) U ∧ va_T .int (V.2.2.1 220) V.2.1.1 (fun j => .int (V.2.1.2 j)) A U H
theorem ROW.same {V : VV} {A : Nat → Prop} {u U : State} {H : Heap} (hv : U.vm = u.vm) (h : ROW V A u H) : ROW V A U H := by
  have ha : u.vm.Alike U.vm := by rw [hv]; exact Vm.Alike.refl _
  obtain ⟨⟨a1, a2⟩, ⟨b1, b2, b3⟩, ⟨c1, c2⟩, d1, e1⟩ := h
  exact ⟨⟨a1.moved ha, a2.moved ha⟩, ⟨b1.moved ha, b2.moved ha, b3⟩, ⟨c1.moved ha, fun i hi => (c2 i hi).same hv⟩, d1.same rfl hv.symm, e1.moved ha⟩
theorem ROW.warm {V : VV} {A B : Nat → Prop} {s U : State} {H1 H : Heap} (hW : s.WarmedH U.vm) (hq : ∀ a : Nat, a < H.size → ¬ A a → H1[a]? = H[a]?) (hAB : ∀ q, B q → A q) (h : ROW V A s H) : ROW V B U H1 := by
  have ha : s.vm.Alike U.vm := hW.alike
  obtain ⟨⟨a1, a2⟩, ⟨b1, b2, b3⟩, ⟨c1, c2⟩, d1, e1⟩ := h
  exact ⟨⟨((a1.kept hq).narrow hAB).moved ha, ((a2.kept hq).narrow hAB).moved ha⟩, ⟨((b1.kept hq).narrow hAB).moved ha, ((b2.kept hq).narrow hAB).moved ha, b3⟩, ⟨((c1.kept hq).narrow hAB).moved ha, fun i hi => (c2 i hi).warm hW⟩, d1.warmM hW, ((e1.kept hq).narrow hAB).moved ha⟩
/-- locals -/
def toL (V : VV) (ls : List (Option AVal)) : List (Nat × Value) := ls.zipIdx.filterMap (fun q => q.1.map (fun v => (q.2, gv V.2.2 v)))
theorem toL_mem {V : VV} {ls : List (Option AVal)} {i : Nat} {w : Value} : (i, w) ∈ toL V ls ↔ ∃ v, ls[i]? = some (some v) ∧ w = gv V.2.2 v := by
  unfold toL
  rw [List.mem_filterMap]
  constructor
  · rintro ⟨⟨o, k⟩, h1, h2⟩
    rw [List.mem_zipIdx_iff_getElem?] at h1
    cases o with
    | none => cases h2
    | some v =>
      simp only [Option.map_some, Option.some.injEq, Prod.mk.injEq] at h2
      obtain ⟨rfl, rfl⟩ := h2
      exact ⟨v, h1, rfl⟩
  · rintro ⟨v, h1, rfl⟩
    exact ⟨(some v, i), List.mem_zipIdx_iff_getElem?.mpr h1, rfl⟩
def short1 (o : Option AVal) : Bool := match o with
  | some (.inr (.inl _)) => false
  | some (.inr (.inr (.inr _))) => false
  | _ => true
def lset (ls : List (Option AVal)) (i : Nat) (v : AVal) : Option (List (Option AVal)) := if ls.all short1 = true then some (ls.set i (some v)) else none
theorem lset_has {V : VV} {lc : Array Slot} {n i : Nat} {ls ls' : List (Option AVal)} {v : AVal} (hl : lset ls i v = some ls') (h : lv_has lc n ((i, gv V.2.2 v) :: (toL V ls).filter (fun q => !(q.1 == i) && !(q.1 + 1 == i && q.2.category == 2)))) : lv_has lc n (toL V ls') := by
  unfold lset at hl
  split at hl
  · rename_i hall
    cases hl
    refine ⟨h.1, h.2.1, ?_⟩
    rintro ⟨j, w⟩ hq
    obtain ⟨u, h1, rfl⟩ := toL_mem.mp hq
    rw [List.getElem?_set] at h1
    split at h1
    · rename_i hij
      subst hij
      split at h1
      · cases h1
        exact h.2.2 _ List.mem_cons_self
      · cases h1
    · rename_i hij
      refine h.2.2 _ (List.mem_cons_of_mem _ (List.mem_filter.mpr ⟨toL_mem.mpr ⟨u, h1, rfl⟩, ?_⟩))
      have hs := List.all_eq_true.mp hall (some u) (List.mem_of_getElem? h1)
      have hc : (gv V.2.2 u).category = 1 := by
        rcases u with u | u | u | u
        · rfl
        · cases hs
        · rfl
        · cases hs
      have hji : (j == i) = false := by simp; exact fun e => hij e.symm
      simp [hji, hc]
  · cases hl
/-- the locals with which a method begins -/
def entL (As : List AVal) : List (Option AVal) := As.flatMap (fun v => match v with | .inr (.inl _) => [some v, none] | _ => [some v])
def entF (M : Mthd) (As : List AVal) : List (Option AVal) := entL As ++ List.replicate (M.2.2.1 - (entL As).length) none
theorem entL_args (V : VV) (hq : V.2.2.2.2.2.2.category = 1) : ∀ (As : List AVal) (k : Nat) (i : Nat) (v : AVal), (entL As)[i]? = some (some v) → (k + i, gv V.2.2 v) ∈ lv_args k (As.map (gv V.2.2))
  | [], k, i, v, h => by simp [entL] at h
  | u :: As, k, i, v, h => by
    have ih := entL_args V hq As
    rw [List.map_cons, lv_args]
    have one : ∀ (hc : (gv V.2.2 u).category = 1) (he : entL (u :: As) = some u :: entL As), (k + i, gv V.2.2 v) ∈ (k, gv V.2.2 u) :: lv_args (if (gv V.2.2 u).category = 2 then k + 2 else k + 1) (As.map (gv V.2.2)) := by
      intro hc he
      rw [he] at h
      rw [hc, if_neg (by decide)]
      cases i with
      | zero => cases h; exact List.mem_cons_self
      | succ i =>
        rw [List.getElem?_cons_succ] at h
        have := ih (k + 1) i v h
        rw [show k + (i + 1) = k + 1 + i by omega]
        exact List.mem_cons_of_mem _ this
    rcases u with u | u | u | u
    · exact one rfl rfl
    · have he : entL ((Sum.inr (Sum.inl u) : AVal) :: As) = some (vL u) :: none :: entL As := rfl
      rw [he] at h
      rw [show (gv V.2.2 (Sum.inr (Sum.inl u))).category = 2 from rfl, if_pos rfl]
      match i, h with
      | 0, h => cases h; exact List.mem_cons_self
      | 1, h => cases h
      | i + 2, h =>
        rw [List.getElem?_cons_succ, List.getElem?_cons_succ] at h
        have := ih (k + 2) i v h
        rw [show k + (i + 2) = k + 2 + i by omega]
        exact List.mem_cons_of_mem _ this
    · exact one rfl rfl
    · exact one hq rfl
theorem entL_len (V : VV) (hq : V.2.2.2.2.2.2.category = 1) : ∀ As : List AVal, (lg_sl (As.map (gv V.2.2))).length = (entL As).length
  | [] => rfl
  | u :: As => by
    have ih := entL_len V hq As
    have e1 : lg_sl ((u :: As).map (gv V.2.2)) = (if (gv V.2.2 u).category = 2 then [Slot.val (gv V.2.2 u), .second] else [.val (gv V.2.2 u)]) ++ lg_sl (As.map (gv V.2.2)) := rfl
    rw [e1, List.length_append, ih]
    rcases u with u | u | u | u
    · show 1 + _ = _; rw [Nat.add_comm]; rfl
    · show 2 + _ = _; rw [Nat.add_comm]; rfl
    · show 1 + _ = _; rw [Nat.add_comm]; rfl
    · show (if V.2.2.2.2.2.2.category = 2 then [Slot.val V.2.2.2.2.2.2, .second] else [.val V.2.2.2.2.2.2]).length + _ = _
      rw [hq, if_neg (by decide)]; show 1 + _ = _; rw [Nat.add_comm]; rfl
theorem entF_has {V : VV} (hq : V.2.2.2.2.2.2.category = 1) {lc : Array Slot} {n : Nat} {M : Mthd} {As : List AVal} (h : lv_has lc n (lv_args 0 (As.map (gv V.2.2)))) : lv_has lc n (toL V (entF M As)) := by
  refine ⟨h.1, h.2.1, ?_⟩
  rintro ⟨j, w⟩ hj
  obtain ⟨v, h1, rfl⟩ := toL_mem.mp hj
  unfold entF at h1
  by_cases hl : j < (entL As).length
  · rw [List.getElem?_append_left hl] at h1
    have := entL_args V hq As 0 j v h1
    rw [Nat.zero_add] at this
    exact h.2.2 _ this
  · rw [List.getElem?_append_right (by omega), List.getElem?_replicate] at h1
    split at h1 <;> cases h1
