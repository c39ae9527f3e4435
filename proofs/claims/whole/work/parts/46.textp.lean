/-! ===== what both parsers say ===== -/
theorem ff_no {N : Nat} {B : Nat → Nat} (h : keyW B (bg N B 0) (en N B (bg N B 0)) = none) : ffAll N B = .inl (bg N B 0) := by
  unfold ffAll; rw [h]
theorem ff_flt {N : Nat} {B : Nat → Nat} {key x : Nat} (hN : N ≤ 96) (h : keyW B (bg N B 0) (en N B (bg N B 0)) = some key) (hf : Flt N B key (en N B (bg N B 0)) [] [] 0 (nI 1) x) : ffAll N B = .inl x := by
  unfold ffAll; rw [h]
  obtain ⟨n, h1, h2⟩ := hf
  show mrun N B key 96 _ _ _ _ _ = _
  rw [show 96 = (96 - n) + n by omega]
  exact h2 _
theorem rkA_no40 : ∀ {Q : List Int32}, rkA 1 Q → cntL (nI 40) Q = 0
  | [], _ => rfl
  | c :: Q, h => by
    rw [cntL, if_neg (fun z => by have := h.1; rw [z, rank40] at this; omega)]
    exact rkA_no40 h.2
theorem ff_ok {N : Nat} {B : Nat → Nat} {key : Nat} {μ0 μ1 : Memo} {L : Nat} {k dp tn p' : Nat} {Y : List (Int32 × Int32)} {ok' : Nat} {Q R' : List Int32} (hN : N ≤ 96) (h : keyW B (bg N B 0) (en N B (bg N B 0)) = some key) (g : LvG μ0 μ1 N B key L (en N B (bg N B 0)) [] [] [] 0 k dp tn 1 1 p' Y ok' Q R') (he : ¬ bg N B p' < N) : ffAll N B = .inr (encX key Y [], ok') := by
  obtain ⟨g1, g2, g3, g4, g5, g6, g7, g8, g9, g10⟩ := g
  obtain ⟨n, h1, h2⟩ := g6
  have := g1.2.2.1
  unfold ffAll; rw [h]
  show mrun N B key 96 _ _ _ _ _ = _
  rw [show 96 = (96 - n) + n by omega, h2, mrun_end he, mfin, List.append_nil, if_pos ⟨rfl, rkA_no40 g7⟩]
  have e := putP_flu Q [] R' g7 (Or.inr rfl)
  rw [List.append_nil] at e
  rw [e, g8]
theorem ff_bad {N : Nat} {B : Nat → Nat} {key : Nat} {μ0 μ1 : Memo} {L : Nat} {k dp tn p' : Nat} {Y : List (Int32 × Int32)} {ok' : Nat} {Q R' : List Int32} (hN : N ≤ 96) (h : keyW B (bg N B 0) (en N B (bg N B 0)) = some key) (g : LvG μ0 μ1 N B key L (en N B (bg N B 0)) [] [] [] 0 k dp tn 1 1 p' Y ok' Q R') (hb : bg N B p' < N) : ffAll N B = .inl (bg N B p') := by
  obtain ⟨g1, g2, g3, g4, g5, g6, g7, g8, g9, g10⟩ := g
  refine ff_flt hN h (g6.flt (Flt.one hb ?_))
  unfold cstep signC
  rw [if_pos rfl]
  by_cases n41 : B (bg N B p') = 41
  · rw [if_pos n41, List.append_nil, if_pos (rkA_no40 g7)]
  · rw [if_neg n41]
    unfold Cont tkr at g9
    rw [if_pos hb] at g9
    rcases g9 with z | ⟨z, _, w⟩
    · rw [if_pos (by omega)]
    · rw [if_neg (by omega), if_pos z, if_pos w]
/-- the key's word is a word -/
theorem key_word {μ : Memo} {N : Nat} {B : Nat → Nat} {key : Nat} (hN : N ≤ 96) (hT : TkP μ N B 0) (h : keyW B (bg N B 0) (en N B (bg N B 0)) = some key) : μ 76 17 = nI 1 ∧ bg N B 0 < N ∧ key < 3 := by
  have hk : en N B (bg N B 0) = bg N B 0 + 4 ∧ (97 ≤ B (bg N B 0) ∧ B (bg N B 0) ≤ 122) ∧ key < 3 := by
    unfold keyW at h
    revert h
    (repeat' split) <;> intro h
    · rename_i q; injection h with h; exact ⟨q.1, by have : B (bg N B 0) = 116 := q.2.1; omega, by omega⟩
    · rename_i q; injection h with h; exact ⟨q.1, by have : B (bg N B 0) = 103 := q.2.1; omega, by omega⟩
    · rename_i q; injection h with h; exact ⟨q.1, by have : B (bg N B 0) = 114 := q.2.1; omega, by omega⟩
    · contradiction
  obtain ⟨e, l, k3⟩ := hk
  have hb : bg N B 0 < N := by
    by_cases z : bg N B 0 < N
    · exact z
    · unfold en at e; rw [if_neg z] at e; omega
  refine ⟨?_, hb, k3⟩
  have hs : srt N B (bg N B 0) = 2 := by
    unfold srt; rw [if_pos hb, if_neg (by omega), if_pos l]
  rcases tok_srt hT hN with ⟨z, q, -⟩ | ⟨z, ⟨q, f⟩ | ⟨q, f⟩⟩ | ⟨z, q⟩ | ⟨z, q⟩
  · omega
  · exact q
  · have := ((flw_bg hN).mp f).2.1; omega
  · omega
  · omega
theorem key_none {μ : Memo} {N : Nat} {B : Nat → Nat} (hN : N ≤ 96) (hT : TkP μ N B 0) (h : ¬ μ 76 17 = nI 1) : keyW B (bg N B 0) (en N B (bg N B 0)) = none := by
  cases q : keyW B (bg N B 0) (en N B (bg N B 0)) with
  | none => rfl
  | some key => exact absurd (key_word hN hT q).1 h
/-! ===== a new text ===== -/
theorem dp_vdp {s : Nat → Int32} {t key : Nat} : ∀ {Y : List (Int32 × Int32)}, ArX s (147 + 200 * t + 4) Y → okX key Y → dpR (tW s t) (tV s t) Y.length = vdp Y ∧ ∀ k, k < Y.length → stepOK (nI key) (tW s t k) (tV s t k) (dpR (tW s t) (tV s t) k)
  | [], _, _ => ⟨rfl, fun k hk => absurd hk (Nat.not_lt_zero k)⟩
  | q :: X, h, ho => by
    obtain ⟨i1, i2⟩ := dp_vdp h.2.2 ho.2
    have e1 : tW s t X.length = q.1 := h.1
    have e2 : tV s t X.length = q.2 := h.2.1
    constructor
    · show dpR (tW s t) (tV s t) (X.length + 1) = _
      rw [dpR, e1, e2, i1]; rfl
    · intro k hk
      by_cases z : k = X.length
      · rw [z, e1, e2, i1]; exact ho.1
      · exact i2 k (by have : k < X.length + 1 := hk; omega)
theorem enc_at {s : Nat → Int32} {t key : Nat} {f : Nat → Int32} : ∀ {Y : List (Int32 × Int32)}, ArX s (147 + 200 * t + 4) Y → ArS f (encX key Y []) → (encX key Y []).length = Y.length ∧ ∀ k, k < Y.length → f k = encR (nI key) (tW s t k) (tV s t k)
  | [], _, _ => ⟨rfl, fun k hk => absurd hk (Nat.not_lt_zero k)⟩
  | q :: X, h, ho => by
    have ho1 : f (encX key X []).length = encR (nI key) q.1 q.2 := ho.1
    obtain ⟨i1, i2⟩ := enc_at (f := f) h.2.2 ho.2
    have e1 : tW s t X.length = q.1 := h.1
    have e2 : tV s t X.length = q.2 := h.2.1
    constructor
    · show (encX key X []).length + 1 = X.length + 1; rw [i1]
    · intro k hk
      by_cases z : k = X.length
      · rw [z, e1, e2, ← ho1, i1]
      · exact i2 k (by have : k < X.length + 1 := hk; omega)
theorem encX_len (key : Nat) (Y : List (Int32 × Int32)) : (encX key Y []).length = Y.length := by
  unfold encX; rw [List.length_append, List.length_map]; rfl
theorem ArX.same {s s' : Nat → Int32} {L : Nat} : ∀ {Y : List (Int32 × Int32)}, ArX s L Y → (∀ j, L ≤ j → j < L + 2 * Y.length → s' j = s j) → ArX s' L Y
  | [], _, _ => trivial
  | q :: X, h, e => by
    have e' : ∀ j, L ≤ j → j < L + 2 * (X.length + 1) → s' j = s j := e
    exact ⟨by rw [e' _ (by omega) (by omega)]; exact h.1, by rw [e' _ (by omega) (by omega)]; exact h.2.1, ArX.same h.2.2 (fun j a b => e' j a (by omega))⟩
/-- only the row that is begun differs -/
def RowD (s s' : Nat → Int32) (n : Nat) : Prop := ∀ j, j < 147 + 200 * n → s' j = s j
theorem nX_of {s : Nat → Int32} {n : Nat} (hn : n ≤ 14) (h : s 1 = nI n) : nX s = n := by
  unfold nX; rw [h]; exact clN (by omega)
theorem SI.row {s s' : Nat → Int32} (h : SI s) (e : RowD s s' (nX s)) : SI s' := by
  obtain ⟨⟨t1, t2, t3⟩, h2, h3, h4, h5⟩ := h
  have e1 := e 1 (by omega)
  refine ⟨⟨by rw [nX_same e1]; exact t1, by rw [nX_same e1, e1]; exact t2, fun t ht => ?_⟩, h2.same (fun c hc => e _ (by omega)), h3.same (fun c hc => e _ (by omega)), h4.same (fun c hc => e _ (by omega)), h5.same (e 0 (by omega)) (fun j _ _ => e _ (by omega))⟩
  rw [nX_same e1] at ht
  exact (t3 t ht).same (fun j hj => e _ (by omega))
theorem Isl.row {B : Nat} {μ : Memo} {s s' : Nat → Int32} (h : Isl B μ s) (hH : nH s ≤ 8) (e : ∀ k, k < 147 → s' k = s k) : Isl B μ s' := by
  obtain ⟨h1, h2, h3, h4⟩ := h
  refine ⟨fun c hc => ?_, fun k hk => ?_, fun q hq => ?_, ?_⟩
  · rw [e _ (by omega), e _ (by omega), e _ (by omega), e _ (by omega)]; exact h1 c hc
  · rw [e _ (by omega)]; exact h2 k hk
  · rw [nH_same (e 0 (by decide))] at hq
    rw [e _ (by omega), e _ (by omega)]; exact h3 q hq
  · rw [e 0 (by decide), e 2 (by decide), e 3 (by decide), e 4 (by decide), e 1 (by decide)]; exact h4
/-- nothing came of it -/
theorem Sim.nochg {μ μ' : Memo} (h : Sim μ) (k : ∀ o, o ≠ 31 → o ≠ 33 → o ≠ 34 → o ≠ 35 → o ≠ 76 → o ≠ 77 → μ' o = μ o) (k31 : μ' 31 0 = nI 0) (k14 : μ' 76 14 = nI 0) (k76 : ∀ q, q < 14 ∨ 25 ≤ q → μ' 76 q = μ 76 q) (k77 : RowD (μ 77) (μ' 77) (nX (μ 77))) : Sim μ' := by
  obtain ⟨h1, h2, h3, h4, h5, h6, h7, h8⟩ := h
  have e1 : μ' 77 1 = μ 77 1 := k77 1 (by omega)
  have hH := h1.2.2.2.2.1
  have k0 : ∀ o, (o < 31 ∨ o = 32 ∨ (36 ≤ o ∧ o < 76) ∨ 78 ≤ o) → μ' o = μ o := fun o ho => k o (by omega) (by omega) (by omega) (by omega) (by omega) (by omega)
  have hn14 := h1.1.1
  refine ⟨h1.row k77, ?_, ?_, ?_, h5.same (fun o ho => k0 o (by omega)), h6.same (fun o ho => k0 o (by omega)), ?_, h8.same (by rw [k0 0 (by omega)]) (k0 38 (by omega)) (k0 93 (by omega)) (k76 29 (by omega))⟩
  · exact (h2.row hH (fun j hj => k77 j (by omega))).same (fun i hi => k0 _ (by omega))
  · have := Txr.less (s' := μ' 77) h3 h1.1 (by rw [nX_same e1]; exact Nat.le_refl _) (fun t ht j hj => k77 _ (by rw [nX_same e1] at ht; omega))
    exact this.same (k0 2 (by omega)) (k0 3 (by omega)) (k0 4 (by omega)) (fun t ht => k0 _ (by rw [nX_same e1] at ht; omega))
  · unfold SimImg at *
    rw [k0 0 (by omega), k76 3 (by omega), k0 78 (by omega), nX_same e1]
    rcases h4 with h | ⟨a1, a2, a3, a4, a5, a6⟩
    · exact Or.inl h
    · exact Or.inr ⟨a1, a2, a3, a4.same (fun i hi => k0 _ (by omega)), a5, fun t ht j hj => by rw [a6 t ht j hj, k77 _ (by omega)]⟩
  · exact ⟨0, by omega, k31, k14, fun j hj => absurd hj (Nat.not_lt_zero j)⟩
/-- a text came of it -/
theorem Sim.newtext {μ μ' : Memo} {n key ok : Nat} {Y : List (Int32 × Int32)} {f : Nat → Int32} (h : Sim μ) (hn : nX (μ 77) = n) (hn14 : n < 14) (hk3 : key < 3) (hY : Y.length ≤ 96) (hoY : okX key Y) (hvY : vdp Y = 1)
    (k : ∀ o, o ≠ 31 → o ≠ 33 → o ≠ 34 → o ≠ 35 → o ≠ 76 → o ≠ 77 → o ≠ 2 → o ≠ 3 → o ≠ 4 → o ≠ 7 → o ≠ 39 + n → μ' o = μ o) (k31 : μ' 31 0 = nI 0) (k14 : μ' 76 14 = nI 0) (k76 : ∀ q, q < 14 ∨ 25 ≤ q → μ' 76 q = μ 76 q) (k77 : ∀ j, j ≠ 1 → j < 147 + 200 * n → μ' 77 j = μ 77 j) (k771 : μ' 77 1 = nI (n + 1))
    (k2 : μ' 2 = upd (μ 2) n (nI key)) (k3 : μ' 3 = upd (μ 3) n (nI ok)) (k4 : μ' 4 = upd (μ 4) n (nI Y.length)) (k7 : μ' 7 = upd (μ 7) 11 (nI (n + 1))) (k39 : ∀ q, q < Y.length → μ' (39 + n) q = f q) (hf : ArS f (encX key Y []))
    (r0 : μ' 77 (147 + 200 * n) = nI key) (r1 : μ' 77 (147 + 200 * n + 1) = nI ok) (r2 : μ' 77 (147 + 200 * n + 2) = nI Y.length) (rA : ArX (μ' 77) (147 + 200 * n + 4) Y) : Sim μ' := by
  obtain ⟨h1, h2, h3, h4, h5, h6, h7, h8⟩ := h
  have hH := h1.2.2.2.2.1
  have nX' : nX (μ' 77) = n + 1 := nX_of (by omega) k771
  have hnS : nSt (μ' 77) n = Y.length := by unfold nSt; rw [r2]; exact clN (by omega)
  have k0 : ∀ o, (o < 2 ∨ (4 < o ∧ o < 7) ∨ (7 < o ∧ o < 31) ∨ o = 32 ∨ (36 ≤ o ∧ o < 39) ∨ (53 ≤ o ∧ o < 76) ∨ 78 ≤ o) → μ' o = μ o := fun o ho => k o (by omega) (by omega) (by omega) (by omega) (by omega) (by omega) (by omega) (by omega) (by omega) (by omega) (by omega)
  obtain ⟨d1, d2⟩ := dp_vdp (s := μ' 77) (t := n) rA hoY
  obtain ⟨t1, t2, t3⟩ := h1.1
  obtain ⟨-, c2, c3, c4, c5⟩ := h1
  have row : ∀ t, t < n → ∀ j, j < 200 → μ' 77 (147 + 200 * t + j) = μ 77 (147 + 200 * t + j) := fun t ht j hj => k77 _ (by omega) (by omega)
  refine ⟨⟨⟨by omega, by rw [nX']; exact k771, fun t ht => ?_⟩, c2.same (fun c hc => k77 _ (by omega) (by omega)), c3.same (fun c hc => k77 _ (by omega) (by omega)), c4.same (fun c hc => k77 _ (by omega) (by omega)), c5.same (k77 0 (by omega) (by omega)) (fun j _ _ => k77 _ (by omega) (by omega))⟩, ?_, ?_, ?_, h5.same (fun o ho => k0 o (by omega)), h6.same (fun o ho => k0 o (by omega)), ?_, h8.same (by rw [k0 0 (by omega)]) (k0 38 (by omega)) (k0 93 (by omega)) (k76 29 (by omega))⟩
  · rw [nX'] at ht
    by_cases z : t = n
    · subst z
      refine ⟨by rw [hnS]; exact hY, by rw [hnS]; exact r2, ?_, fun q hq => ?_, ?_⟩
      · rw [r0]; have : key = 0 ∨ key = 1 ∨ key = 2 := (by omega); rcases this with z | z | z
        · exact Or.inl (by rw [z])
        · exact Or.inr (Or.inl (by rw [z]))
        · exact Or.inr (Or.inr (by rw [z]))
      · rw [hnS] at hq; rw [r0]; exact d2 q hq
      · rw [hnS, d1]; exact hvY
    · exact (t3 t (by omega)).same (row t (by omega))
  · obtain ⟨i1, i2, i3, i4, i5, i6, i7, i8⟩ := h2
    have e7 : ∀ q, q ≠ 11 → μ' 7 q = μ 7 q := fun q hq => by rw [k7, upd_ne _ _ hq]
    refine ⟨fun c hc => ?_, fun q hq => ?_, fun q hq => ?_, ?_⟩
    · rw [k0 8 (by omega), k0 9 (by omega), k0 10 (by omega), k0 11 (by omega), k77 _ (by omega) (by omega), k77 _ (by omega) (by omega), k77 _ (by omega) (by omega), k77 _ (by omega) (by omega)]; exact i1 c hc
    · rw [k0 12 (by omega), k77 _ (by omega) (by omega)]; exact i2 q hq
    · rw [nH_same (k77 0 (by omega) (by omega))] at hq
      rw [k0 13 (by omega), k0 14 (by omega), k77 _ (by omega) (by omega), k77 _ (by omega) (by omega)]; exact i3 q hq
    · rw [e7 7 (by decide), e7 8 (by decide), e7 9 (by decide), e7 10 (by decide), k77 0 (by omega) (by omega), k77 2 (by omega) (by omega), k77 3 (by omega) (by omega), k77 4 (by omega) (by omega)]
      exact ⟨i4, i5, i6, i7, by rw [k7, upd_self, k771]⟩
  · intro t ht
    rw [nX'] at ht
    by_cases z : t = n
    · subst z
      refine ⟨by rw [k2, upd_self, r0], by rw [k3, upd_self, r1], by rw [k4, upd_self, r2], fun q hq => ?_⟩
      rw [hnS] at hq
      rw [k39 q hq, r0]
      exact (enc_at rA hf).2 q hq
    · have ht2 : t < nX (μ 77) := by omega
      obtain ⟨a1, a2, a3, a4⟩ := h3 t ht2
      have e3 := row t (by omega)
      have h96 := (t3 t ht2).1
      rw [k2, k3, k4, upd_ne _ _ z, upd_ne _ _ z, upd_ne _ _ z, show μ' 77 (147 + 200 * t) = μ 77 (147 + 200 * t) from e3 0 (by decide), e3 1 (by decide), e3 2 (by decide), nSt_same e3, k (39 + t) (by omega) (by omega) (by omega) (by omega) (by omega) (by omega) (by omega) (by omega) (by omega) (by omega) (by omega)]
      refine ⟨a1, a2, a3, fun q hq => ?_⟩
      rw [tW_same e3 (by omega), tV_same e3 (by omega)]
      exact a4 q hq
  · unfold SimImg at *
    rw [k0 0 (by omega), k76 3 (by omega), k0 78 (by omega), nX']
    rcases h4 with h | ⟨a1, a2, a3, a4, a5, a6⟩
    · exact Or.inl h
    · exact Or.inr ⟨a1, a2, a3, a4.same (fun i hi => k0 _ (by omega)), by omega, fun t ht j hj => by rw [a6 t ht j hj, row t (by omega) j hj]⟩
  · exact ⟨0, by omega, k31, k14, fun j hj => absurd hj (Nat.not_lt_zero j)⟩
theorem mfin_le {N : Nat} {B : Nat → Nat} {p : Nat} {P R : List Int32} {ok : Nat} {due : Int32} (h : Mok N B p P R due) : (∀ x, mfin N B p P R ok due = .inl x → x ≤ N) ∧ ∀ R' ok', mfin N B p P R ok due = .inr (R', ok') → R'.length ≤ N := by
  have hb := bg_le (N := N) (B := B) h.1
  have hl := putP_len 1 P R
  have h1 := h.1
  have h2 := h.2.1
  unfold mfin
  split
  · exact ⟨fun x e => by contradiction, fun R' ok' e => by injection e with e; injection e with e1 e2; rw [← e1]; omega⟩
  · exact ⟨fun x e => by injection e with e; omega, fun R' ok' e => by contradiction⟩
theorem mrun_le {N : Nat} {B : Nat → Nat} {key : Nat} : ∀ (j p : Nat) (P R : List Int32) (ok : Nat) (due : Int32), Mok N B p P R due → (∀ x, mrun N B key j p P R ok due = .inl x → x ≤ N) ∧ ∀ R' ok', mrun N B key j p P R ok due = .inr (R', ok') → R'.length ≤ N
  | 0, p, P, R, ok, due, h => mfin_le h
  | j + 1, p, P, R, ok, due, h => by
    rw [mrun]
    by_cases hb : bg N B p < N
    · rw [if_pos hb]
      cases e : cstep N B key p P R ok due with
      | none => exact ⟨fun x q => by injection q with q; omega, fun R' ok' q => by contradiction⟩
      | some o =>
        obtain ⟨P1, R1, ok1, due1⟩ := o
        exact mrun_le j _ P1 R1 ok1 due1 (cstep_ok h hb e)
    · rw [if_neg hb]; exact mfin_le h
theorem ff_bnd {N : Nat} {B : Nat → Nat} : (∀ x, ffAll N B = .inl x → x ≤ N) ∧ ∀ R' ok', ffAll N B = .inr (R', ok') → R'.length ≤ N := by
  have hble := bg_le (N := N) (B := B) (p := 0) (Nat.zero_le _)
  have hele := en_le (N := N) (B := B) hble
  unfold ffAll
  cases keyW B (bg N B 0) (en N B (bg N B 0)) with
  | none => exact ⟨fun x q => by injection q with q; omega, fun R' ok' q => by contradiction⟩
  | some key => exact mrun_le 96 _ [] [] 0 (nI 1) ⟨hele, Nat.zero_le _, Nat.zero_le _, Nat.zero_le _, Or.inr ⟨rfl, trivial⟩⟩
theorem ff_le {N : Nat} {B : Nat → Nat} (_hN : N ≤ 96) {x : Nat} (h : ffAll N B = .inl x) : x ≤ N := ff_bnd.1 x h
theorem ff_len {N : Nat} {B : Nat → Nat} (_hN : N ≤ 96) {R : List Int32} {ok : Nat} (h : ffAll N B = .inr (R, ok)) : R.length ≤ N := ff_bnd.2 R ok h
