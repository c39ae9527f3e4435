/-! ===== what changes ===== -/
theorem nX_same {s s' : Nat → Int32} (e1 : s' 1 = s 1) : nX s' = nX s := by unfold nX; rw [e1]
theorem nH_same {s s' : Nat → Int32} (e0 : s' 0 = s 0) : nH s' = nH s := by unfold nH; rw [e0]
theorem nSt_same {s s' : Nat → Int32} {t : Nat} (e2 : ∀ j, j < 200 → s' (147 + 200 * t + j) = s (147 + 200 * t + j)) : nSt s' t = nSt s t := by unfold nSt; rw [e2 2 (by decide)]
theorem tW_same {s s' : Nat → Int32} {t : Nat} (e2 : ∀ j, j < 200 → s' (147 + 200 * t + j) = s (147 + 200 * t + j)) {k : Nat} (hk : k < 96) : tW s' t k = tW s t k := by
  unfold tW; rw [show 147 + 200 * t + 4 + 2 * k = 147 + 200 * t + (4 + 2 * k) by omega]; exact e2 _ (by omega)
theorem tV_same {s s' : Nat → Int32} {t : Nat} (e2 : ∀ j, j < 200 → s' (147 + 200 * t + j) = s (147 + 200 * t + j)) {k : Nat} (hk : k < 96) : tV s' t k = tV s t k := by
  unfold tV; rw [show 147 + 200 * t + 4 + 2 * k + 1 = 147 + 200 * t + (4 + 2 * k + 1) by omega]; exact e2 _ (by omega)
theorem stR_congr {w w' v v' : Nat → Int32} {n : Nat} (hw : ∀ k, k < n → w k = w' k) (hv : ∀ k, k < n → v k = v' k) : ∀ k, k ≤ n → dpR w v k = dpR w' v' k
  | 0, _ => rfl
  | k + 1, hk => by
    rw [dpR, dpR, hw k (by omega), hv k (by omega), stR_congr hw hv k (by omega)]
theorem TxtOK.same {s s' : Nat → Int32} {t : Nat} (h : TxtOK s t) (e2 : ∀ j, j < 200 → s' (147 + 200 * t + j) = s (147 + 200 * t + j)) : TxtOK s' t := by
  have e0 : s' (147 + 200 * t) = s (147 + 200 * t) := e2 0 (by decide)
  have hn := nSt_same e2
  obtain ⟨h1, h2, h3, h4, h5⟩ := h
  have hd : ∀ k, k ≤ nSt s t → dpR (tW s' t) (tV s' t) k = dpR (tW s t) (tV s t) k := stR_congr (fun k hk => tW_same e2 (by omega)) (fun k hk => tV_same e2 (by omega))
  refine ⟨by rw [hn]; exact h1, by rw [hn, e2 2 (by decide)]; exact h2, by rw [e0]; exact h3, fun k hk => ?_, ?_⟩
  · rw [hn] at hk
    rw [e0, tW_same e2 (by omega), tV_same e2 (by omega), hd k (by omega)]
    exact h4 k hk
  · rw [hn, hd _ (Nat.le_refl _)]; exact h5
theorem TxtsOK.same {s s' : Nat → Int32} (h : TxtsOK s) (e1 : s' 1 = s 1) (e2 : ∀ j, 147 ≤ j → s' j = s j) : TxtsOK s' := by
  obtain ⟨h1, h2, h3⟩ := h
  refine ⟨by rw [nX_same e1]; exact h1, by rw [nX_same e1, e1]; exact h2, fun t ht => ?_⟩
  rw [nX_same e1] at ht
  exact (h3 t ht).same (fun j _ => e2 _ (by omega))
theorem Txr.text {μ : Memo} {s s' : Nat → Int32} (h : Txr μ s) (hT : TxtsOK s) (e1 : s' 1 = s 1) (e2 : ∀ j, 147 ≤ j → s' j = s j) : Txr μ s' := by
  intro t ht
  rw [nX_same e1] at ht
  have e3 : ∀ j, j < 200 → s' (147 + 200 * t + j) = s (147 + 200 * t + j) := fun j _ => e2 _ (by omega)
  obtain ⟨h1, h2, h3, h4⟩ := h t ht
  have h96 := (hT.2.2 t ht).1
  refine ⟨by rw [e2 _ (by omega)]; exact h1, by rw [e2 _ (by omega)]; exact h2, by rw [e2 _ (by omega)]; exact h3, fun k hk => ?_⟩
  rw [nSt_same e3] at hk
  rw [e2 _ (by omega), tW_same e3 (by omega), tV_same e3 (by omega)]
  exact h4 k hk
theorem HouOK.same {s s' : Nat → Int32} (h : HouOK s) (e0 : s' 0 = s 0) (e : ∀ j, 131 ≤ j → j < 147 → s' j = s j) : HouOK s' := by
  obtain ⟨h1, h2, h3⟩ := h
  refine ⟨by rw [nH_same e0]; exact h1, by rw [nH_same e0, e0]; exact h2, fun q hq => ?_⟩
  rw [nH_same e0] at hq
  rw [e _ (by omega) (by omega)]; exact h3 q hq
theorem KindOK.same {s s' : Nat → Int32} (h : KindOK s) (e : ∀ c, c < 30 → s' (11 + 4 * c) = s (11 + 4 * c)) : KindOK s' := fun c hc => by rw [e c hc]; exact h c hc
theorem CornOK.same {s s' : Nat → Int32} (h : CornOK s) (e : ∀ c, c < 30 → s' (11 + 4 * c + 2) = s (11 + 4 * c + 2)) : CornOK s' := fun c hc => by rw [e c hc]; exact h c hc
theorem OwnOK.same {s s' : Nat → Int32} (h : OwnOK s) (e : ∀ c, c < 30 → s' (11 + 4 * c + 3) = s (11 + 4 * c + 3)) : OwnOK s' := fun c hc => by rw [e c hc]; exact h c hc
/-- the island's numbers that images keep, and are no texts -/
def IsOK (s : Nat → Int32) : Prop := CornOK s ∧ KindOK s ∧ OwnOK s ∧ HouOK s
theorem IsOK.low {s : Nat → Int32} (h : IsOK s) {j : Nat} (x : Int32) (h1 : 1 ≤ j) (h2 : j < 11) : IsOK (upd s j x) :=
  ⟨h.1.same (fun c hc => upd_ne _ _ (by omega)), h.2.1.same (fun c hc => upd_ne _ _ (by omega)), h.2.2.1.same (fun c hc => upd_ne _ _ (by omega)), h.2.2.2.same (upd_ne _ _ (by omega)) (fun j _ _ => upd_ne _ _ (by omega))⟩
theorem IsOK.kind {s : Nat → Int32} (h : IsOK s) {c q : Nat} (hc : c < 30) (hq : q < 6) : IsOK (upd s (11 + 4 * c) (nI q)) :=
  ⟨h.1.same (fun c hc => upd_ne _ _ (by omega)), fun e he => by
    by_cases z : e = c
    · subst z; exact ⟨q, hq, upd_self _ _ _⟩
    · rw [upd_ne _ _ (by omega)]; exact h.2.1 e he, h.2.2.1.same (fun c hc => upd_ne _ _ (by omega)), h.2.2.2.same (upd_ne _ _ (by omega)) (fun j _ _ => upd_ne _ _ (by omega))⟩
theorem IsOK.height {s : Nat → Int32} (h : IsOK s) {c : Nat} (hc : c < 30) (x : Int32) : IsOK (upd s (11 + 4 * c + 1) x) :=
  ⟨h.1.same (fun c hc => upd_ne _ _ (by omega)), h.2.1.same (fun c hc => upd_ne _ _ (by omega)), h.2.2.1.same (fun c hc => upd_ne _ _ (by omega)), h.2.2.2.same (upd_ne _ _ (by omega)) (fun j _ _ => upd_ne _ _ (by omega))⟩
theorem IsOK.corn {s : Nat → Int32} (h : IsOK s) {c : Nat} (hc : c < 30) {x : Int32} (hx : 0 ≤ x.toInt ∧ x.toInt ≤ 99) : IsOK (upd s (11 + 4 * c + 2) x) :=
  ⟨fun e he => by
    by_cases z : e = c
    · subst z; rw [upd_self]; exact hx
    · rw [upd_ne _ _ (by omega)]; exact h.1 e he, h.2.1.same (fun c hc => upd_ne _ _ (by omega)), h.2.2.1.same (fun c hc => upd_ne _ _ (by omega)), h.2.2.2.same (upd_ne _ _ (by omega)) (fun j _ _ => upd_ne _ _ (by omega))⟩
theorem IsOK.owner {s : Nat → Int32} (h : IsOK s) {c : Nat} (hc : c < 30) {x : Int32} (hx : x = (-1) ∨ ∃ k, k < 8 ∧ x = nI k) : IsOK (upd s (11 + 4 * c + 3) x) :=
  ⟨h.1.same (fun c hc => upd_ne _ _ (by omega)), h.2.1.same (fun c hc => upd_ne _ _ (by omega)), fun e he => by
    by_cases z : e = c
    · subst z; rw [upd_self]; exact hx
    · rw [upd_ne _ _ (by omega)]; exact h.2.2.1 e he, h.2.2.2.same (upd_ne _ _ (by omega)) (fun j _ _ => upd_ne _ _ (by omega))⟩
theorem IsOK.place {s : Nat → Int32} (h : IsOK s) {q : Nat} (hq : q < nH s) {x : Int32} (hx : x = (-1) ∨ ∃ c, c < 30 ∧ x = nI c) : IsOK (upd s (131 + 2 * q + 1) x) :=
  ⟨h.1.same (fun c hc => upd_ne _ _ (by have := h.2.2.2.1; omega)), h.2.1.same (fun c hc => upd_ne _ _ (by omega)), h.2.2.1.same (fun c hc => upd_ne _ _ (by omega)), by
    obtain ⟨h1, h2, h3⟩ := h.2.2.2
    have e0 : upd s (131 + 2 * q + 1) x 0 = s 0 := upd_ne _ _ (by omega)
    refine ⟨by rw [nH_same e0]; exact h1, by rw [nH_same e0, e0]; exact h2, fun e he => ?_⟩
    rw [nH_same e0] at he
    by_cases z : e = q
    · subst z; rw [upd_self]; exact hx
    · rw [upd_ne _ _ (by omega)]; exact h3 e he⟩
theorem nH_nI {s : Nat → Int32} {n : Nat} (hn : n < 1000) (e : s 0 = nI n) : nH s = n := by
  unfold nH; rw [e]
  have := nT n
  rw [Int32.toNatClampNeg]
  omega
theorem IsOK.house {s : Nat → Int32} (h : IsOK s) (h8 : nH s < 8) (x : Int32) : IsOK (upd (upd (upd s (131 + 2 * nH s) x) (131 + 2 * nH s + 1) (-1)) 0 (nI (nH s + 1))) :=
  ⟨h.1.same (fun c hc => by rw [upd_ne _ _ (by omega), upd_ne _ _ (by omega), upd_ne _ _ (by omega)]), h.2.1.same (fun c hc => by rw [upd_ne _ _ (by omega), upd_ne _ _ (by omega), upd_ne _ _ (by omega)]), h.2.2.1.same (fun c hc => by rw [upd_ne _ _ (by omega), upd_ne _ _ (by omega), upd_ne _ _ (by omega)]), by
    obtain ⟨h1, h2, h3⟩ := h.2.2.2
    have en := nH_nI (s := upd (upd (upd s (131 + 2 * nH s) x) (131 + 2 * nH s + 1) (-1)) 0 (nI (nH s + 1))) (n := nH s + 1) (by omega) (upd_self _ _ _)
    refine ⟨by rw [en]; omega, by rw [en, upd_self], fun e he => ?_⟩
    rw [en] at he
    rw [upd_ne _ _ (by omega)]
    by_cases z : e = nH s
    · subst z; rw [upd_self]; exact Or.inl rfl
    · rw [upd_ne _ _ (by omega), upd_ne _ _ (by omega)]; exact h3 e (by omega)⟩
/-! the island's cells follow -/
theorem Isl.kind {B : Nat} {μ : Memo} {s : Nat → Int32} (h : Isl B μ s) {c : Nat} (hc : c < 30) (hH : nH s ≤ 8) (x : Int32) : Isl B (ms μ (B + 1) c x) (upd s (11 + 4 * c) x) := by
  obtain ⟨h1, h2, h3, h4⟩ := h
  refine ⟨fun q hq => ?_, fun k hk => ?_, fun q hq => ?_, ?_⟩
  · by_cases e : q = c
    · subst e; simp (disch := omega) only [ms_self, ms_ne, upd_self, upd_ne, h1 q hq, and_self]
    · simp (disch := omega) only [ms_self, ms_ne, upd_self, upd_ne, h1 q hq, and_self]
  · simp (disch := omega) only [ms_ne, upd_ne, h2 k hk]
  · rw [nH_same (upd_ne _ _ (by omega))] at hq
    simp (disch := omega) only [ms_ne, upd_ne, h3 q hq, and_self]
  · simp (disch := omega) only [ms_ne, upd_ne]; exact h4
theorem Isl.height {B : Nat} {μ : Memo} {s : Nat → Int32} (h : Isl B μ s) {c : Nat} (hc : c < 30) (hH : nH s ≤ 8) (x : Int32) : Isl B (ms μ (B + 2) c x) (upd s (11 + 4 * c + 1) x) := by
  obtain ⟨h1, h2, h3, h4⟩ := h
  refine ⟨fun q hq => ?_, fun k hk => ?_, fun q hq => ?_, ?_⟩
  · by_cases e : q = c
    · subst e; simp (disch := omega) only [ms_self, ms_ne, upd_self, upd_ne, h1 q hq, and_self]
    · simp (disch := omega) only [ms_self, ms_ne, upd_self, upd_ne, h1 q hq, and_self]
  · simp (disch := omega) only [ms_ne, upd_ne, h2 k hk]
  · rw [nH_same (upd_ne _ _ (by omega))] at hq
    simp (disch := omega) only [ms_ne, upd_ne, h3 q hq, and_self]
  · simp (disch := omega) only [ms_ne, upd_ne]; exact h4
theorem Isl.corn {B : Nat} {μ : Memo} {s : Nat → Int32} (h : Isl B μ s) {c : Nat} (hc : c < 30) (hH : nH s ≤ 8) (x : Int32) : Isl B (ms μ (B + 3) c x) (upd s (11 + 4 * c + 2) x) := by
  obtain ⟨h1, h2, h3, h4⟩ := h
  refine ⟨fun q hq => ?_, fun k hk => ?_, fun q hq => ?_, ?_⟩
  · by_cases e : q = c
    · subst e; simp (disch := omega) only [ms_self, ms_ne, upd_self, upd_ne, h1 q hq, and_self]
    · simp (disch := omega) only [ms_self, ms_ne, upd_self, upd_ne, h1 q hq, and_self]
  · simp (disch := omega) only [ms_ne, upd_ne, h2 k hk]
  · rw [nH_same (upd_ne _ _ (by omega))] at hq
    simp (disch := omega) only [ms_ne, upd_ne, h3 q hq, and_self]
  · simp (disch := omega) only [ms_ne, upd_ne]; exact h4
theorem Isl.owner {B : Nat} {μ : Memo} {s : Nat → Int32} (h : Isl B μ s) {c : Nat} (hc : c < 30) (hH : nH s ≤ 8) {x y : Int32} (e : y = oN x) : Isl B (ms μ (B + 4) c y) (upd s (11 + 4 * c + 3) x) := by
  subst e
  obtain ⟨h1, h2, h3, h4⟩ := h
  refine ⟨fun q hq => ?_, fun k hk => ?_, fun q hq => ?_, ?_⟩
  · by_cases e : q = c
    · subst e; simp (disch := omega) only [ms_self, ms_ne, upd_self, upd_ne, h1 q hq, and_self]
    · simp (disch := omega) only [ms_self, ms_ne, upd_self, upd_ne, h1 q hq, and_self]
  · simp (disch := omega) only [ms_ne, upd_ne, h2 k hk]
  · rw [nH_same (upd_ne _ _ (by omega))] at hq
    simp (disch := omega) only [ms_ne, upd_ne, h3 q hq, and_self]
  · simp (disch := omega) only [ms_ne, upd_ne]; exact h4
theorem Isl.water {B : Nat} {μ : Memo} {s : Nat → Int32} (h : Isl B μ s) {j : Nat} (hj : j < 6) (x : Int32) : Isl B (ms μ (B + 5) j x) (upd s (5 + j) x) := by
  obtain ⟨h1, h2, h3, h4⟩ := h
  refine ⟨fun q hq => ?_, fun k hk => ?_, fun q hq => ?_, ?_⟩
  · simp (disch := omega) only [ms_self, ms_ne, upd_self, upd_ne, h1 q hq, and_self]
  · by_cases e : k = j
    · subst e; simp (disch := omega) only [ms_self, upd_self]
    · simp (disch := omega) only [ms_self, upd_ne, h2 k hk]
  · rw [nH_same (upd_ne _ _ (by omega))] at hq
    simp (disch := omega) only [ms_ne, upd_ne, h3 q hq, and_self]
  · simp (disch := omega) only [ms_ne, upd_ne]; exact h4
theorem Isl.place {B : Nat} {μ : Memo} {s : Nat → Int32} (h : Isl B μ s) {j : Nat} (hj : j < nH s) (hH : nH s ≤ 8) {x y : Int32} (e : y = oN x) : Isl B (ms μ (B + 7) j y) (upd s (131 + 2 * j + 1) x) := by
  subst e
  obtain ⟨h1, h2, h3, h4⟩ := h
  refine ⟨fun q hq => ?_, fun k hk => ?_, fun q hq => ?_, ?_⟩
  · simp (disch := omega) only [ms_self, ms_ne, upd_self, upd_ne, h1 q hq, and_self]
  · simp (disch := omega) only [ms_ne, upd_ne, h2 k hk]
  · rw [nH_same (upd_ne _ _ (by omega))] at hq
    by_cases e : q = j
    · subst e; simp (disch := omega) only [ms_self, ms_ne, upd_self, upd_ne, h3 q hq, and_self]
    · simp (disch := omega) only [ms_self, ms_ne, upd_ne, h3 q hq, and_self]
  · simp (disch := omega) only [ms_ne, upd_ne]; exact h4
theorem Isl.z {B : Nat} {μ : Memo} {s : Nat → Int32} (h : Isl B μ s) (x : Int32) : Isl B (ms μ B 10 x) (upd s 4 x) := by
  obtain ⟨h1, h2, h3, h4⟩ := h
  refine ⟨fun q hq => ?_, fun k hk => ?_, fun q hq => ?_, ?_⟩
  · simp (disch := omega) only [ms_self, ms_ne, upd_self, upd_ne, h1 q hq, and_self]
  · simp (disch := omega) only [ms_ne, upd_ne, h2 k hk]
  · rw [nH_same (upd_ne _ _ (by omega))] at hq
    simp (disch := omega) only [ms_ne, upd_ne, h3 q hq, and_self]
  · simp (disch := omega) only [ms_self, upd_ne, upd_self, h4, and_self]
theorem Isl.lost {B : Nat} {μ : Memo} {s : Nat → Int32} (h : Isl B μ s) (x : Int32) : Isl B (ms μ B 9 x) (upd s 3 x) := by
  obtain ⟨h1, h2, h3, h4⟩ := h
  refine ⟨fun q hq => ?_, fun k hk => ?_, fun q hq => ?_, ?_⟩
  · simp (disch := omega) only [ms_self, ms_ne, upd_self, upd_ne, h1 q hq, and_self]
  · simp (disch := omega) only [ms_ne, upd_ne, h2 k hk]
  · rw [nH_same (upd_ne _ _ (by omega))] at hq
    simp (disch := omega) only [ms_ne, upd_ne, h3 q hq, and_self]
  · simp (disch := omega) only [ms_self, upd_ne, upd_self, h4, and_self]
theorem Isl.hour {B : Nat} {μ : Memo} {s : Nat → Int32} (h : Isl B μ s) (x : Int32) : Isl B (ms μ B 8 x) (upd s 2 x) := by
  obtain ⟨h1, h2, h3, h4⟩ := h
  refine ⟨fun q hq => ?_, fun k hk => ?_, fun q hq => ?_, ?_⟩
  · simp (disch := omega) only [ms_self, ms_ne, upd_self, upd_ne, h1 q hq, and_self]
  · simp (disch := omega) only [ms_ne, upd_ne, h2 k hk]
  · rw [nH_same (upd_ne _ _ (by omega))] at hq
    simp (disch := omega) only [ms_ne, upd_ne, h3 q hq, and_self]
  · simp (disch := omega) only [ms_self, upd_ne, upd_self, h4, and_self]
theorem Isl.house {B : Nat} {μ : Memo} {s : Nat → Int32} (h : Isl B μ s) (h8 : nH s < 8) (x : Int32) : Isl B (ms (ms (ms μ (B + 6) (nH s) x) (B + 7) (nH s) (-1000000005)) B 7 (nI (nH s + 1))) (upd (upd (upd s (131 + 2 * nH s) x) (131 + 2 * nH s + 1) (-1)) 0 (nI (nH s + 1))) := by
  obtain ⟨h1, h2, h3, h4⟩ := h
  have en := nH_nI (s := upd (upd (upd s (131 + 2 * nH s) x) (131 + 2 * nH s + 1) (-1)) 0 (nI (nH s + 1))) (n := nH s + 1) (by omega) (upd_self _ _ _)
  refine ⟨fun q hq => ?_, fun k hk => ?_, fun q hq => ?_, ?_⟩
  · simp (disch := omega) only [ms_self, ms_ne, upd_self, upd_ne, h1 q hq, and_self]
  · simp (disch := omega) only [ms_ne, upd_ne, h2 k hk]
  · rw [en] at hq
    by_cases e : q = nH s
    · subst e; simp (disch := omega) only [ms_self, ms_ne, upd_self, upd_ne, oN_n1, and_self]
    · simp (disch := omega) only [ms_self, ms_ne, upd_ne, h3 q (by omega), and_self]
  · simp (disch := omega) only [ms_self, ms_ne, upd_ne, upd_self, h4, and_self]
/-! a change on both -/
theorem Sim.nw {μ μ1 μ2 : Memo} {s' : Nat → Int32} (hS : Sim μ) (h' : IsOK s') (e1 : s' 1 = μ 77 1) (e2 : ∀ j, 147 ≤ j → s' j = μ 77 j) (hI : Isl 7 μ1 s') (k1 : Fr [1, 6, 7, 8, 9, 10, 11, 12, 13, 14] μ μ1) (e77 : μ2 77 = s') (k2 : Fr [77, 88, 90, 91] μ1 μ2) : Sim μ2 := by
  have kk : ∀ o, (∀ q, q ∈ [1, 6, 7, 8, 9, 10, 11, 12, 13, 14, 77, 88, 90, 91] → o ≠ q) → μ2 o = μ o := fun o ho =>
    (k2 o (fun z => ho o (by revert z; simp only [List.mem_cons, List.not_mem_nil, or_false]; omega) rfl)).trans (k1 o (fun z => ho o (by revert z; simp only [List.mem_cons, List.not_mem_nil, or_false]; omega) rfl))
  have ko : ∀ o, (o = 0 ∨ (2 ≤ o ∧ o ≤ 5) ∨ (15 ≤ o ∧ o ≤ 76) ∨ (78 ≤ o ∧ o ≤ 87) ∨ o = 89 ∨ 92 ≤ o) → μ2 o = μ o := fun o ho => kk o (by simp only [List.mem_cons, List.not_mem_nil, or_false]; omega)
  obtain ⟨h1, h2, h3, h4, h5, h6, h7, h8⟩ := hS
  have hT' : TxtsOK s' := h1.1.same e1 e2
  have h3' := h3.text h1.1 e1 e2
  unfold Sim
  rw [e77]
  refine ⟨⟨hT', h'.1, h'.2.1, h'.2.2.1, h'.2.2.2⟩, hI.same (fun i hi => k2 _ (by simp only [List.mem_cons, List.not_mem_nil, or_false]; omega)), h3'.same (ko 2 (by omega)) (ko 3 (by omega)) (ko 4 (by omega)) (fun t ht => ko _ (by have := hT'.1; omega)), ?_, h5.same (fun o ho => ko o (by omega)), h6.same (fun o ho => ko o (by omega)), h7.same (ko 31 (by omega)) (ko 32 (by omega)) (ko 89 (by omega)) (by rw [ko 76 (by omega)]), h8.same (by rw [ko 0 (by omega)]) (ko 38 (by omega)) (ko 93 (by omega)) (by rw [ko 76 (by omega)])⟩
  unfold SimImg at *
  rw [ko 0 (by omega), ko 76 (by omega), ko 78 (by omega), e77, nX_same e1]
  rcases h4 with h | ⟨a1, a2, a3, a4, a5, a6⟩
  · exact Or.inl h
  · refine Or.inr ⟨a1, a2, a3, a4.same (fun i hi => ko _ (by omega)), a5, fun t ht j hj => ?_⟩
    rw [e2 _ (by omega)]
    exact a6 t ht j hj
theorem OpOK.m {V : VV} {d : Nat} {Mx Mm : Mthd} {As : List AVal} {μ : Memo} {x : Int32} (s' : Nat → Int32) (hS : Sim μ) (h' : IsOK s') (e1 : s' 1 = μ 77 1) (e2 : ∀ j, 147 ≤ j → s' j = μ 77 j)
    (hx : RetI V d Mx (vR 0 :: As) μ x (fun μ1 => Isl 7 μ1 s' ∧ Fr [1, 6, 7, 8, 9, 10, 11, 12, 13, 14] μ μ1))
    (hm : ∀ μ1, Fr [1, 6, 7, 8, 9, 10, 11, 12, 13, 14] μ μ1 → RetI V d Mm (vR 76 :: As) μ1 x (fun μ2 => μ2 77 = s' ∧ Fr [77, 88, 90, 91] μ1 μ2)) : OpOK V d Mx Mm As μ :=
  OpOK.of hx (fun μ1 k1 => (hm μ1 k1.2).mono (fun μ2 k2 => hS.nw h' e1 e2 k1.1 k1.2 k2.1 k2.2))
theorem SI.is {s : Nat → Int32} (h : SI s) : IsOK s := h.2
/-! drawn numbers -/
def zN (z : Int32) : Int32 := z * nI 1103515245 + nI 12345
theorem iush_rng (z : Int32) : 0 ≤ (iush z (nI 8)).toInt ∧ (iush z (nI 8)).toInt < 16777216 := by
  have e : (iush z (nI 8)).toBitVec = z.toBitVec >>> 8 := rfl
  have h2 : (z.toBitVec >>> 8).toNat < 16777216 := by
    rw [BitVec.toNat_ushiftRight, Nat.shiftRight_eq_div_pow]
    have := z.toBitVec.isLt
    omega
  rw [← Int32.toInt_toBitVec, e, BitVec.toInt_eq_toNat_of_lt (by omega)]
  omega
theorem drw_lt (z : Int32) (m : Nat) (h0 : 0 < m) (hm : m < 1000) : ∃ q, q < m ∧ irm (iush z (nI 8)) (nI m) = nI q := by
  obtain ⟨a, b⟩ := iush_rng z
  have e := nT m
  generalize hx : (iush z (nI 8)) = x at a b
  have e2 : (nI m).toInt = (m : Int) := by rw [e]; omega
  have hd : (x / nI m).toInt = x.toInt / m := by
    rw [Int32.toInt_div, e2, Int.tdiv_eq_ediv_of_nonneg a]
    have l1 : 0 ≤ x.toInt / m := Int.ediv_nonneg a (by omega)
    have l2 : x.toInt / m ≤ x.toInt := Int.ediv_le_self _ a
    rw [Int.bmod_eq_of_le (by omega) (by omega)]
  have hq : x.toInt / m * m ≤ x.toInt := Int.ediv_mul_le _ (by omega)
  have hq2 : x.toInt < x.toInt / m * m + m := by
    have := Int.lt_ediv_add_one_mul_self x.toInt (show (0 : Int) < m by omega)
    rw [Int.add_mul, Int.one_mul] at this
    exact this
  have hq3 : 0 ≤ x.toInt / m * m := Int.mul_nonneg (Int.ediv_nonneg a (by omega)) (by omega)
  refine ⟨(x.toInt - x.toInt / m * m).toNat, by omega, ?_⟩
  rw [sI_eq, irm, tI_sub, tI_mul, hd, e2, nT]
  generalize x.toInt / m * m = p at *
  omega
