theorem fl_at {args : Array Value} {s : State} (h : (Jvm.Cond.and given_1 narrow_1).before args s = true) (i : Nat) {w : Cond} (hw : (flatC (Jvm.Cond.and given_1 narrow_1))[i]? = some w) : w.before args s = true := flat_of_before _ h w (List.mem_of_getElem? hw)
theorem tb_at {args : Array Value} {s : State} (h : ∀ w ∈ lw_tbl, w.before args s = true) (i : Nat) {w : Cond} (hw : tables_1[i]? = some w) : w.before args s = true := h w (List.mem_append_right _ (List.mem_of_getElem? hw))
theorem vk_S.congr {N : Nat} {len : List Nat} {byt : List (List Int32)} {adK adV adK' adV' : Nat → Nat} {A : Nat → Prop} {U : State} {H : Heap} (h : vk_S N len byt adK adV A U H) (e1 : ∀ i, i < N → adK' i = adK i) (e2 : ∀ i, i < N → adV' i = adV i) : vk_S N len byt adK' adV' A U H :=
  ⟨fun i hi => by rw [e1 i hi, e2 i hi]; exact h.1 i hi, fun i j hi hj e => h.2 i j hi hj (by rw [← e1 i hi, ← e1 j hj]; exact e)⟩
theorem X_T {b L : Nat} {xs : Nat → Int32} {s : State} (hX : va_X b L xs s s.heap) {A : Nat → Prop} (hA : ¬ A b) : va_T .int b L (fun j => .int (xs j)) A s s.heap := by
  obtain ⟨scr, h1, h2, h3, h4, h5⟩ := hX
  exact ⟨scr, h1, h2, h3, by omega, by rw [h4], h5, hA⟩
theorem six {i : Nat} (h : i < 6) : i = 0 ∨ i = 1 ∨ i = 2 ∨ i = 3 ∨ i = 4 ∨ i = 5 := by omega
theorem start_row {s : State} {b L : Nat} {xs : Nat → Int32} (hts : ∀ w ∈ lw_tbl, w.before #[Value.ref b] s = true) (hX : va_X b L xs s s.heap) (hbl : b < s.heap.size) (hgv : (Jvm.Cond.and given_1 narrow_1).before #[Value.ref b] s = true) :
    ∃ (aS : Nat) (adK adV : Nat → Nat) (fm : Value), ∀ V : VV, V.2.1 = (L, xs) → V.2.2.1 200 = aS → (∀ i, i < 6 → V.2.2.1 (201 + i) = adK i) → (∀ i, i < 6 → V.2.2.1 (211 + i) = adV i) → V.2.2.1 220 = b → V.2.2.2.2.2.2 = fm → ROW V (fun q => s.heap.size ≤ q) s s.heap := by
  have hA : ∀ a : Nat, a < s.heap.size → ¬ (fun q : Nat => s.heap.size ≤ q) a := fun a h => Nat.not_le.mpr h
  obtain ⟨aS, eS, tS⟩ := va_Tof (args := #[Value.ref b]) (tm := .static "TideIsland" "MOST_OF_SEA" "[I") (ty := .int) (N := 6) (f := fun j => .int (seaC j)) (A := fun q => s.heap.size ≤ q) (by decide) (fl_at hgv 5 (by decide +kernel)) (va_eqt (fl_at hgv 6 (by decide +kernel))) (fun j hj => by
    rcases six hj with rfl | rfl | rfl | rfl | rfl | rfl
    · exact va_eqt (fl_at hgv 7 (by decide +kernel))
    · exact va_eqt (fl_at hgv 8 (by decide +kernel))
    · exact va_eqt (fl_at hgv 9 (by decide +kernel))
    · exact va_eqt (fl_at hgv 10 (by decide +kernel))
    · exact va_eqt (fl_at hgv 11 (by decide +kernel))
    · exact va_eqt (fl_at hgv 12 (by decide +kernel))) hA
  have zS := va_Zof (A := fun q => s.heap.size ≤ q) (tb_at hts 378 (by decide +kernel)) (tb_at hts 1 (by decide +kernel)) eS hA
  have zC := va_Zof (C := "java/lang/String") (n := "COMPACT_STRINGS") (d := "Z") (v := .int 1) (A := fun q => s.heap.size ≤ q) (tb_at hts 613 (by decide +kernel)) (tb_at hts 14 (by decide +kernel)) (va_eqi (fl_at hgv 13 (by decide +kernel))) hA
  have zF := va_Zqof (C := "jdk/internal/util/Preconditions") (n := "SIOOBE_FORMATTER") (d := "Ljava/util/function/BiFunction;") (A := fun q => s.heap.size ≤ q) (tb_at hts 633 (by decide +kernel)) (tb_at hts 16 (by decide +kernel)) (fl_at hgv 14 (by decide +kernel)) hA
  obtain ⟨fm, hfm, hfc⟩ : ∃ fm : Value, va_Z "jdk/internal/util/Preconditions" "SIOOBE_FORMATTER" "Ljava/util/function/BiFunction;" fm (fun q => s.heap.size ≤ q) s s.heap ∧ fm.category = 1 := by
    rcases zF with h | ⟨t, h⟩
    · exact ⟨_, h, rfl⟩
    · exact ⟨_, h, rfl⟩
  obtain ⟨adK, adV, hSt, hev⟩ := vk_Sof (args := #[Value.ref b]) (s := s) (N := 6) (tm := fun i => Term.string RX4 (strI i)) (len := lenS) (byt := bytS) (A := fun q => s.heap.size ≤ q) (fun i hi => by rcases six hi with rfl | rfl | rfl | rfl | rfl | rfl <;> decide)
    (fun i hi => by
    rcases six hi with rfl | rfl | rfl | rfl | rfl | rfl
    · exact fl_at hgv 34 (by decide +kernel)
    · exact fl_at hgv 42 (by decide +kernel)
    · exact fl_at hgv 51 (by decide +kernel)
    · exact fl_at hgv 61 (by decide +kernel)
    · exact fl_at hgv 71 (by decide +kernel)
    · exact fl_at hgv 81 (by decide +kernel))
    (fun i hi => by
    rcases six hi with rfl | rfl | rfl | rfl | rfl | rfl
    · exact fl_at hgv 35 (by decide +kernel)
    · exact fl_at hgv 43 (by decide +kernel)
    · exact fl_at hgv 52 (by decide +kernel)
    · exact fl_at hgv 62 (by decide +kernel)
    · exact fl_at hgv 72 (by decide +kernel)
    · exact fl_at hgv 82 (by decide +kernel))
    (fun i hi => by
    rcases six hi with rfl | rfl | rfl | rfl | rfl | rfl
    · exact fl_at hgv 36 (by decide +kernel)
    · exact fl_at hgv 44 (by decide +kernel)
    · exact fl_at hgv 53 (by decide +kernel)
    · exact fl_at hgv 63 (by decide +kernel)
    · exact fl_at hgv 73 (by decide +kernel)
    · exact fl_at hgv 83 (by decide +kernel))
    (fun i hi => by
    rcases six hi with rfl | rfl | rfl | rfl | rfl | rfl
    · exact fl_at hgv 37 (by decide +kernel)
    · exact fl_at hgv 45 (by decide +kernel)
    · exact fl_at hgv 54 (by decide +kernel)
    · exact fl_at hgv 64 (by decide +kernel)
    · exact fl_at hgv 74 (by decide +kernel)
    · exact fl_at hgv 84 (by decide +kernel))
    (fun i hi j hj => by
    rcases six hi with rfl | rfl | rfl | rfl | rfl | rfl
    · have hj : j < 4 := hj
      rcases (show j = 0 ∨ j = 1 ∨ j = 2 ∨ j = 3 by omega) with rfl | rfl | rfl | rfl
      · exact fl_at hgv 38 (by decide +kernel)
      · exact fl_at hgv 39 (by decide +kernel)
      · exact fl_at hgv 40 (by decide +kernel)
      · exact fl_at hgv 41 (by decide +kernel)
    · have hj : j < 4 := hj
      rcases (show j = 0 ∨ j = 1 ∨ j = 2 ∨ j = 3 by omega) with rfl | rfl | rfl | rfl
      · exact fl_at hgv 46 (by decide +kernel)
      · exact fl_at hgv 47 (by decide +kernel)
      · exact fl_at hgv 48 (by decide +kernel)
      · exact fl_at hgv 49 (by decide +kernel)
    · have hj : j < 4 := hj
      rcases (show j = 0 ∨ j = 1 ∨ j = 2 ∨ j = 3 by omega) with rfl | rfl | rfl | rfl
      · exact fl_at hgv 55 (by decide +kernel)
      · exact fl_at hgv 56 (by decide +kernel)
      · exact fl_at hgv 57 (by decide +kernel)
      · exact fl_at hgv 58 (by decide +kernel)
    · have hj : j < 3 := hj
      rcases (show j = 0 ∨ j = 1 ∨ j = 2 by omega) with rfl | rfl | rfl
      · exact fl_at hgv 65 (by decide +kernel)
      · exact fl_at hgv 66 (by decide +kernel)
      · exact fl_at hgv 67 (by decide +kernel)
    · have hj : j < 2 := hj
      rcases (show j = 0 ∨ j = 1 by omega) with rfl | rfl
      · exact fl_at hgv 75 (by decide +kernel)
      · exact fl_at hgv 76 (by decide +kernel)
    · have hj : j < 2 := hj
      rcases (show j = 0 ∨ j = 1 by omega) with rfl | rfl
      · exact fl_at hgv 85 (by decide +kernel)
      · exact fl_at hgv 86 (by decide +kernel))
    (fun i j hi hj hij => by
    rcases six hi with rfl | rfl | rfl | rfl | rfl | rfl
    · rcases six hj with rfl | rfl | rfl | rfl | rfl | rfl
      · exact absurd rfl hij
      · exact Or.inl (fl_at hgv 50 (by decide +kernel))
      · exact Or.inl (fl_at hgv 59 (by decide +kernel))
      · exact Or.inl (fl_at hgv 68 (by decide +kernel))
      · exact Or.inl (fl_at hgv 77 (by decide +kernel))
      · exact Or.inl (fl_at hgv 87 (by decide +kernel))
    · rcases six hj with rfl | rfl | rfl | rfl | rfl | rfl
      · exact Or.inr (fl_at hgv 50 (by decide +kernel))
      · exact absurd rfl hij
      · exact Or.inl (fl_at hgv 60 (by decide +kernel))
      · exact Or.inl (fl_at hgv 69 (by decide +kernel))
      · exact Or.inl (fl_at hgv 78 (by decide +kernel))
      · exact Or.inl (fl_at hgv 88 (by decide +kernel))
    · rcases six hj with rfl | rfl | rfl | rfl | rfl | rfl
      · exact Or.inr (fl_at hgv 59 (by decide +kernel))
      · exact Or.inr (fl_at hgv 60 (by decide +kernel))
      · exact absurd rfl hij
      · exact Or.inl (fl_at hgv 70 (by decide +kernel))
      · exact Or.inl (fl_at hgv 79 (by decide +kernel))
      · exact Or.inl (fl_at hgv 89 (by decide +kernel))
    · rcases six hj with rfl | rfl | rfl | rfl | rfl | rfl
      · exact Or.inr (fl_at hgv 68 (by decide +kernel))
      · exact Or.inr (fl_at hgv 69 (by decide +kernel))
      · exact Or.inr (fl_at hgv 70 (by decide +kernel))
      · exact absurd rfl hij
      · exact Or.inl (fl_at hgv 80 (by decide +kernel))
      · exact Or.inl (fl_at hgv 90 (by decide +kernel))
    · rcases six hj with rfl | rfl | rfl | rfl | rfl | rfl
      · exact Or.inr (fl_at hgv 77 (by decide +kernel))
      · exact Or.inr (fl_at hgv 78 (by decide +kernel))
      · exact Or.inr (fl_at hgv 79 (by decide +kernel))
      · exact Or.inr (fl_at hgv 80 (by decide +kernel))
      · exact absurd rfl hij
      · exact Or.inl (fl_at hgv 91 (by decide +kernel))
    · rcases six hj with rfl | rfl | rfl | rfl | rfl | rfl
      · exact Or.inr (fl_at hgv 87 (by decide +kernel))
      · exact Or.inr (fl_at hgv 88 (by decide +kernel))
      · exact Or.inr (fl_at hgv 89 (by decide +kernel))
      · exact Or.inr (fl_at hgv 90 (by decide +kernel))
      · exact Or.inr (fl_at hgv 91 (by decide +kernel))
      · exact absurd rfl hij) hA
  refine ⟨aS, adK, adV, fm, fun V e1 e2 e3 e4 e5 e6 => ?_⟩
  unfold ROW
  rw [e1, e2, e5, e6]
  refine ⟨⟨zS, tS⟩, ⟨zC, hfm, hfc⟩, ⟨hSt.congr e3 e4, fun i hi => ?_⟩, va_Nw.of rfl (tb_at hts 318 (by decide +kernel)), X_T hX (hA b hbl)⟩
  rw [e3 i hi]
  refine vk_R.of (A := #[Value.ref b]) ?_ (hev i hi)
  rcases six hi with rfl | rfl | rfl | rfl | rfl | rfl
  · exact tb_at hts 599 (by decide +kernel)
  · exact tb_at hts 656 (by decide +kernel)
  · exact tb_at hts 657 (by decide +kernel)
  · exact tb_at hts 687 (by decide +kernel)
  · exact tb_at hts 688 (by decide +kernel)
  · exact tb_at hts 689 (by decide +kernel)
theorem start_K {s : State} {args : Array Value} (hts : ∀ w ∈ lw_tbl, w.before args s = true) : ∃ (D : va_G) (cA : Nat → ClassId), va_K D clsW [(cA 0, .int), (cA 1, .object RX5), (cA 2, .object RX6), (cA 3, .array .int)] s := by
  have hT0 : ∀ w ∈ T0, w.before args s = true := fun w hw => hts w (T0_in hw).1
  have hk : ∀ ci : Nat, ∃ q : ClassId × (Nat → Nat), ci < 8 → u_Kn s (cT ci).1 (cT ci).2.1 (cT ci).2.2 q.1 q.2 := by
    intro ci
    by_cases h : ci < 8
    · obtain ⟨c1, c2, c3, c4⟩ := cls_ok ci h
      have hi : (Cond.instantiable (cT ci).1 (cT ci).2.2).before args s = true := by
        rcases (show ci = 0 ∨ ci = 1 ∨ ci = 2 ∨ ci = 3 ∨ ci = 4 ∨ ci = 5 ∨ ci = 6 ∨ ci = 7 by omega) with rfl | rfl | rfl | rfl | rfl | rfl | rfl | rfl
        · exact tb_at hts 59 (by decide +kernel)
        · exact tb_at hts 29 (by decide +kernel)
        · exact tb_at hts 136 (by decide +kernel)
        · exact tb_at hts 186 (by decide +kernel)
        · exact tb_at hts 205 (by decide +kernel)
        · exact tb_at hts 121 (by decide +kernel)
        · exact tb_at hts 21 (by decide +kernel)
        · exact tb_at hts 905 (by decide +kernel)
      obtain ⟨cC, iS, hK⟩ := u_known hT0 c2 hi
      exact ⟨(cC, iS), fun _ => hK⟩
    · obtain ⟨c1, c2, c3, c4⟩ := cls_ok 0 (by decide)
      obtain ⟨cC, iS, hK⟩ := u_known (n := (cT 0).2.2) hT0 c2 (tb_at hts 59 (by decide +kernel))
      exact ⟨(cC, iS), fun z => absurd z h⟩
  obtain ⟨q, hq⟩ := Classical.axiomOfChoice hk
  obtain ⟨cI, kI, compI, i1, i2, i3⟩ := Cond.arrayClass_spec (tb_at hts 57 (by decide +kernel) : (Cond.arrayClass .int).before args s = true)
  obtain ⟨comp5, c5, k5, s1, s2, s3, s4, s5⟩ := Cond.arrayOver_spec (tb_at hts 183 (by decide +kernel) : (Cond.arrayOver (.object RX5)).before args s = true)
  obtain ⟨comp6, c6, k6, t1, t2, t3, t4, t5⟩ := Cond.arrayOver_spec (tb_at hts 185 (by decide +kernel) : (Cond.arrayOver (.object RX6)).before args s = true)
  obtain ⟨compA, cA, kA, a1, a2, a3, a4⟩ := Cond.arrayOver_specA (tb_at hts 35 (by decide +kernel) : (Cond.arrayOver (.array .int)).before args s = true)
  refine ⟨(fun ci => (q ci).1, fun ci => (q ci).2), fun i => if i = 0 then cI else if i = 1 then c5 else if i = 2 then c6 else cA, fun c w hw => ?_, fun k w hw => ?_⟩
  · have hc : c < 8 := (List.getElem?_eq_some_iff.mp hw).1
    obtain ⟨c1, c2, c3, c4⟩ := cls_ok c hc
    have e : w = cT c := Option.some.inj (hw.symm.trans c1)
    rw [e]
    exact hq c hc
  · match k, hw with
    | 0, hw => cases hw; exact ⟨fun N z => ⟨(fun k h => by cases h), kI, i2, compI, i3⟩, i1⟩
    | 1, hw => cases hw; exact ⟨fun N z => ⟨(fun k h => by cases h), k5, s3, comp5, s4⟩, k5, comp5, s3, s4, s1, s5⟩
    | 2, hw => cases hw; exact ⟨fun N z => ⟨(fun k h => by cases h), k6, t3, comp6, t4⟩, k6, comp6, t3, t4, t1, t5⟩
    | 3, hw => cases hw; exact ⟨fun N z => ⟨(fun k h => by cases h), kA, a2, compA, a3⟩, a4⟩
    | k + 4, hw => simp at hw
theorem start_XC {s : State} {args : Array Value} (hts : ∀ w ∈ lw_tbl, w.before args s = true) : XC s :=
  ⟨⟨va_AO.of (tb_at hts 183 (by decide +kernel)), va_AO.of (tb_at hts 185 (by decide +kernel)), (tb_at hts 35 (by decide +kernel) : (Cond.arrayOver (.array .int)).before args s = true)⟩, va_Nw.of rfl (tb_at hts 30 (by decide +kernel)), va_Nw.of rfl (tb_at hts 122 (by decide +kernel)), va_Nw.of rfl (tb_at hts 187 (by decide +kernel)), va_Nw.of rfl (tb_at hts 206 (by decide +kernel)), va_Nw.of rfl (tb_at hts 211 (by decide +kernel))⟩
