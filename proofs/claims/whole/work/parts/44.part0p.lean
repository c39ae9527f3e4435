/-! ===== the test level's sign, the pieces of part0 ===== -/
theorem LvG.sign3 {μ0 μ1 : Memo} {N : Nat} {B : Nat → Nat} {key L p : Nat} {P R : List Int32} {X : List (Int32 × Int32)} {ok k dp tn rc p' : Nat} {Y : List (Int32 × Int32)} {ok' : Nat} {Q R' : List Int32} (h : LvG μ0 μ1 N B key L p P R X ok k dp tn 4 rc p' Y ok' Q R') (hP : P = [] ∨ ¬ topS P = nI 33 ∧ rankI (topS P) < 3) (hb : bg N B p' < N) (hc : rankI (nI (B (bg N B p'))) = 3) :
    Rch N B key p P R ok (nI 1) (en N B (bg N B p')) (nI (B (bg N B p')) :: P) (encX key Y R) ok' (nI 1) ∧ Mok N B (en N B (bg N B p')) (nI (B (bg N B p')) :: P) (encX key Y R) (nI 1) := by
  obtain ⟨h1, h2, h3, h4, h5, h6, h7, h8, h9, h10⟩ := h
  have hput : putP 4 (Q ++ P) R' = (P, encX key Y R) := by
    rw [putP_flu Q P R' h7 (by rcases hP with z | z; exact Or.inr z; exact Or.inl (by omega)), h8]
  have n41 : ¬ B (bg N B p') = 41 := fun z => by rw [z] at hc; have : rankI (nI 41) = 0 := (by decide); omega
  have ht : ¬ rankI (topS P) = 3 := by
    rcases hP with z | z
    · rw [z]; decide
    · omega
  have e : cstep N B key p' (Q ++ P) R' ok' (nI 0) = some (nI (B (bg N B p')) :: P, encX key Y R, ok', nI 1) := by
    unfold cstep signC
    rw [if_pos rfl, if_neg n41, if_neg (by omega), if_pos hc, hput, if_neg ht]
  exact ⟨h6.tr (Rch.one hb e), cstep_ok h10 hb e⟩
theorem LvG.end3 {μ0 μ1 : Memo} {N : Nat} {B : Nat → Nat} {key L p : Nat} {P R : List Int32} {X : List (Int32 × Int32)} {ok k dp tn p' : Nat} {Y : List (Int32 × Int32)} {ok' : Nat} {Q R' : List Int32} {c : Int32} (h : LvG μ0 μ1 N B key L p P R X ok k dp tn 3 4 p' Y ok' (Q ++ [c]) R') (hQ : rkA 4 Q) (hc : rankI c = 3) : LvS μ0 μ1 N B key L p P R X ok k dp tn 3 := by
  obtain ⟨h1, h2, h3, h4, h5, h6, h7, h8, h9, h10⟩ := h
  refine ⟨p', Y, ok', Q ++ [c], R', h1, h2, h3, h4, h5, h6, h7, h8, ?_, h10⟩
  rcases h9 with h | ⟨a, b, c⟩
  · by_cases z : tkr N B p' = 3
    · refine Or.inr ⟨z, Nat.le_refl _, ?_⟩
      rw [List.append_assoc]
      show rankI (topS (putP 4 (Q ++ c :: P) R').1) = 3
      rw [putP_flu Q (c :: P) R' hQ (Or.inl (by show ¬ 4 ≤ rankI c; omega))]
      exact hc
    · exact Or.inl (by omega)
  · omega
theorem cnt40_app (Q P : List Int32) : cntL (nI 40) (Q ++ nI 40 :: P) ≠ 0 := by
  induction Q with
  | nil => show cntL (nI 40) (nI 40 :: P) ≠ 0; rw [cntL, if_pos rfl]; omega
  | cons c Q ih =>
    show cntL (nI 40) (c :: (Q ++ nI 40 :: P)) ≠ 0
    rw [cntL]; split
    · omega
    · exact ih
theorem encN_nm {key c q : Nat} (hk : key < 3) (hc : c < 256) (h : nmF key c = some q) : encN (nI key) (nI c) = (-1) - nI q ∧ nameP (nI key) (nI c) := by
  have : key = 0 ∨ key = 1 ∨ key = 2 := by omega
  unfold nmF at h
  rcases this with rfl | rfl | rfl
  · rw [if_pos rfl] at h
    by_cases e1 : c = 104
    · subst e1; rw [if_pos rfl] at h; injection h with h; subst h; decide
    · rw [if_neg e1] at h
      by_cases e2 : c = 100
      · subst e2; rw [if_pos rfl] at h; injection h with h; subst h; decide
      · rw [if_neg e2] at h
        by_cases e3 : c = 115
        · subst e3; rw [if_pos rfl] at h; injection h with h; subst h; decide
        · rw [if_neg e3] at h; contradiction
  · rw [if_neg (by decide), if_pos rfl] at h
    by_cases e1 : c = 99
    · subst e1; rw [if_pos rfl] at h; injection h with h; subst h; decide
    · rw [if_neg e1] at h
      by_cases e2 : c = 104
      · subst e2; rw [if_pos rfl] at h; injection h with h; subst h; decide
      · rw [if_neg e2] at h; contradiction
  · rw [if_neg (by decide), if_neg (by decide)] at h
    by_cases e1 : c = 116
    · subst e1; rw [if_pos rfl] at h; injection h with h; subst h; decide
    · rw [if_neg e1] at h
      by_cases e2 : c = 104
      · subst e2; rw [if_pos rfl] at h; injection h with h; subst h; decide
      · rw [if_neg e2] at h; contradiction
theorem P0S.opd {μ0 μ1 : Memo} {N : Nat} {B : Nat → Nat} {key L p : Nat} {P R : List Int32} {X : List (Int32 × Int32)} {ok k dp tn : Nat} {w v0 v : Int32} (hMk : Mok N B p P R (nI 1)) (hX : X.length + k ≤ p) (hoX : okX key X) (hb : bg N B p < N) (n40 : B (bg N B p) ≠ 40) (n33 : B (bg N B p) ≠ 33) (ho : opnd N B key (bg N B p) = some v) (he : encR (nI key) w v0 = v) (hs : stepOK (nI key) w v0 (vdp X)) (hw : ¬ w = nI 2) (hM : Mt μ0 μ1 N B L (en N B (bg N B p)) ((w, v0) :: X) (ok + 1) dp tn) : P0S μ0 μ1 N B key L p P R X ok k dp tn := by
  have g1 := bg_ge (N := N) (B := B) p
  have g2 := en_gt (B := B) hb
  have e : cstep N B key p P R ok (nI 1) = some ((endP P (encX key [(w, v0)] R)).1, (endP P (encX key [(w, v0)] R)).2, ok + 1, nI 0) := by
    unfold cstep pieceC
    rw [if_neg (by decide), if_neg n40, if_neg n33, ho]
    show _ = some ((endP P (encR (nI key) w v0 :: R)).1, (endP P (encR (nI key) w v0 :: R)).2, ok + 1, nI 0)
    rw [he]
  refine ⟨_, [(w, v0)], ok + 1, hM, ?_, by omega, ⟨hs, hoX⟩, ?_, Rch.one hb e, cstep_ok hMk hb e⟩
  · show X.length + 1 + k ≤ _; omega
  · show (if w = nI 2 then _ else vdp X + 1) = _
    rw [if_neg hw]
theorem P0S.nt {μ0 μ1 μ2 : Memo} {N : Nat} {B : Nat → Nat} {key L p q : Nat} {P R : List Int32} {X : List (Int32 × Int32)} {ok k dp tn tn2 : Nat} (hR : Rch N B key p P R ok (nI 1) q (nI 33 :: P) R ok (nI 1)) (hq : p < q) {p' : Nat} {Y : List (Int32 × Int32)} {ok' : Nat}
    (g2 : (Y ++ X).length + (k + 1) ≤ p') (g3 : q < p') (g4 : okX key (Y ++ X)) (g5 : vdp (Y ++ X) = vdp X + 1) (g6 : Rch N B key q (nI 33 :: P) R ok (nI 1) p' (endP (nI 33 :: P) (encX key Y R)).1 (endP (nI 33 :: P) (encX key Y R)).2 ok' (nI 0)) (g7 : Mok N B p' (endP (nI 33 :: P) (encX key Y R)).1 (endP (nI 33 :: P) (encX key Y R)).2 (nI 0))
    (hM : Mt μ0 μ2 N B L p' ((nI 2, nI 33) :: (Y ++ X)) ok' dp tn) : P0S μ0 μ2 N B key L p P R X ok k dp tn := by
  have e : endP (nI 33 :: P) (encX key Y R) = endP P (encX key ((nI 2, nI 33) :: Y) R) := by
    rw [endP, if_pos rfl]
    show _ = endP P (encR (nI key) (nI 2) (nI 33) :: encX key Y R)
    rw [encR_sgn]
  rw [e] at g6 g7
  refine ⟨p', (nI 2, nI 33) :: Y, ok', hM, ?_, by omega, ⟨Or.inr (Or.inr (Or.inl ⟨rfl, rfl, by show 1 ≤ vdp (Y ++ X); omega⟩)), g4⟩, ?_, hR.tr g6, g7⟩
  · show (Y ++ X).length + 1 + k ≤ p'; omega
  · show (if nI 2 = nI 2 then (if nI 33 = nI 33 then vdp (Y ++ X) else _) else _) = _
    rw [if_pos rfl, if_pos rfl]; exact g5
theorem P0S.br {μ0 μ1 μ2 : Memo} {N : Nat} {B : Nat → Nat} {key L p q : Nat} {P R : List Int32} {X : List (Int32 × Int32)} {ok k dp tn : Nat} (hR : Rch N B key p P R ok (nI 1) q (nI 40 :: P) R ok (nI 1)) (hq : p < q) {r rc p' dp2 : Nat} {Y : List (Int32 × Int32)} {ok' : Nat} {Q R' : List Int32} (hr : r = 1)
    (g : LvG μ0 μ1 N B key L q (nI 40 :: P) R X ok (k + 1) dp2 tn r rc p' Y ok' Q R') (hb : bg N B p' < N) (eb : B (bg N B p') = 41) (hM : Mt μ0 μ2 N B L (en N B (bg N B p')) (Y ++ X) ok' dp tn) : P0S μ0 μ2 N B key L p P R X ok k dp tn := by
  subst hr
  obtain ⟨h1, h2, h3, h4, h5, h6, h7, h8, h9, h10⟩ := g
  have a1 := bg_ge (N := N) (B := B) p'
  have a2 := en_gt (B := B) hb
  have e : cstep N B key p' (Q ++ nI 40 :: P) R' ok' (nI 0) = some ((endP P (encX key Y R)).1, (endP P (encX key Y R)).2, ok', nI 0) := by
    unfold cstep signC
    rw [if_pos rfl, if_pos eb, if_neg (cnt40_app Q P), putP_flu Q (nI 40 :: P) R' h7 (Or.inl (by show ¬ 1 ≤ rankI (nI 40); decide)), h8]
    rfl
  exact ⟨_, Y, ok', hM, by omega, by omega, h4, h5, hR.tr (h6.tr (Rch.one hb e)), cstep_ok h10 hb e⟩
theorem FlS.br {μ0 μ1 : Memo} {N : Nat} {B : Nat → Nat} {key L p q : Nat} {P R : List Int32} {X : List (Int32 × Int32)} {ok k tn : Nat} (hR : Rch N B key p P R ok (nI 1) q (nI 40 :: P) R ok (nI 1)) {p' dp2 : Nat} {Y : List (Int32 × Int32)} {ok' : Nat} {Q R' : List Int32}
    (g : LvG μ0 μ1 N B key L q (nI 40 :: P) R X ok (k + 1) dp2 tn 1 1 p' Y ok' Q R') (hn : ¬ (bg N B p' < N ∧ B (bg N B p') = 41)) : FlS μ0 μ1 N B key L p P R ok := by
  obtain ⟨h1, h2, h3, h4, h5, h6, h7, h8, h9, h10⟩ := g
  refine ⟨p', h1.2.1, h1.2.2.1, h1.fr, hR.flt (h6.flt ?_)⟩
  by_cases hb : bg N B p' < N
  · refine Flt.one hb ?_
    have n41 : ¬ B (bg N B p') = 41 := fun z => hn ⟨hb, z⟩
    unfold cstep signC
    rw [if_pos rfl, if_neg n41]
    unfold Cont tkr at h9
    rw [if_pos hb] at h9
    rcases h9 with z | ⟨z, _, w⟩
    · rw [if_pos (by omega)]
    · rw [if_neg (by omega), if_pos z, if_pos w]
  · exact Flt.fin h1.2.2.1 hb (fun z => cnt40_app Q P z.2)
theorem FlS.here {μ0 μ : Memo} {N : Nat} {B : Nat → Nat} {key L p : Nat} {P R : List Int32} {X : List (Int32 × Int32)} {ok dp tn : Nat} (hM : Mt μ0 μ N B L p X ok dp tn) (h : bg N B p < N → pieceC N B key (bg N B p) P R ok = none) : FlS μ0 μ N B key L p P R ok := by
  refine ⟨p, hM.2.1, hM.2.2.1, hM.fr, ?_⟩
  by_cases hb : bg N B p < N
  · refine Flt.one hb ?_
    unfold cstep; rw [if_neg (by decide)]; exact h hb
  · exact Flt.fin hM.2.2.1 hb (fun z => absurd z.1 (by decide))
theorem nI_neq {a b : Nat} (ha : a < 1000000) (hb : b < 1000000) (h : a ≠ b) : ¬ nI a = nI b := fun z => by
  have := congrArg Int32.toInt z
  rw [nT, nT] at this; omega
theorem nI_pos0 {a : Nat} (ha : a < 1000000) : (0 : Int32) ≤ nI a := by
  show nI 0 ≤ nI a
  rw [sI_le, nT, nT]; omega
