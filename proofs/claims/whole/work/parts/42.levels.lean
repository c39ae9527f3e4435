/-! ===== levels ===== -/
def encX (key : Nat) (Y : List (Int32 × Int32)) (R : List Int32) : List Int32 := Y.map (fun q => encR (nI key) q.1 q.2) ++ R
def vdp : List (Int32 × Int32) → Nat
  | [] => 0
  | q :: X => if q.1 = nI 2 then (if q.2 = nI 33 then vdp X else vdp X - 1) else vdp X + 1
def okX (key : Nat) : List (Int32 × Int32) → Prop
  | [] => True
  | q :: X => stepOK (nI key) q.1 q.2 (vdp X) ∧ okX key X
theorem encX_app (key : Nat) (Y2 Y1 : List (Int32 × Int32)) (R : List Int32) : encX key (Y2 ++ Y1) R = encX key Y2 (encX key Y1 R) := by
  unfold encX; rw [List.map_append, List.append_assoc]
def tkr (N : Nat) (B : Nat → Nat) (p : Nat) : Nat := if bg N B p < N then rankI (nI (B (bg N B p))) else 0
def Cont (N : Nat) (B : Nat → Nat) (r p : Nat) (Q P R : List Int32) : Prop := tkr N B p < r ∨ (tkr N B p = 3 ∧ r ≤ 3 ∧ rankI (topS (putP 4 (Q ++ P) R).1) = 3)
def Mfr (μ0 μ : Memo) (L : Nat) : Prop := (∀ j, j < L ∨ L + 196 ≤ j → μ 77 j = μ0 77 j) ∧ (∀ o, o ≠ 76 → o ≠ 77 → μ o = μ0 o) ∧ (∀ k, k < 14 ∨ 25 ≤ k → μ 76 k = μ0 76 k) ∧ L + 196 ≤ 3147
def FlS (μ0 μ1 : Memo) (N : Nat) (B : Nat → Nat) (key L p : Nat) (P R : List Int32) (ok : Nat) : Prop := ∃ pf, TkP μ1 N B pf ∧ pf ≤ N ∧ Mfr μ0 μ1 L ∧ Flt N B key p P R ok (nI 1) (bg N B pf)
def LvG (μ0 μ1 : Memo) (N : Nat) (B : Nat → Nat) (key L p : Nat) (P R : List Int32) (X : List (Int32 × Int32)) (ok k dp tn r rc p' : Nat) (Y : List (Int32 × Int32)) (ok' : Nat) (Q R' : List Int32) : Prop :=
  Mt μ0 μ1 N B L p' (Y ++ X) ok' dp tn ∧ (Y ++ X).length + k ≤ p' ∧ p < p' ∧ okX key (Y ++ X) ∧ vdp (Y ++ X) = vdp X + 1 ∧ Rch N B key p P R ok (nI 1) p' (Q ++ P) R' ok' (nI 0) ∧ rkA r Q ∧ flu Q R' = encX key Y R ∧ Cont N B rc p' Q P R' ∧ Mok N B p' (Q ++ P) R' (nI 0)
def LvS (μ0 μ1 : Memo) (N : Nat) (B : Nat → Nat) (key L p : Nat) (P R : List Int32) (X : List (Int32 × Int32)) (ok k dp tn r : Nat) : Prop :=
  ∃ p' Y ok' Q R', LvG μ0 μ1 N B key L p P R X ok k dp tn r r p' Y ok' Q R'
def P0S (μ0 μ1 : Memo) (N : Nat) (B : Nat → Nat) (key L p : Nat) (P R : List Int32) (X : List (Int32 × Int32)) (ok k dp tn : Nat) : Prop :=
  ∃ p' Y ok', Mt μ0 μ1 N B L p' (Y ++ X) ok' dp tn ∧ (Y ++ X).length + k ≤ p' ∧ p < p' ∧ okX key (Y ++ X) ∧ vdp (Y ++ X) = vdp X + 1 ∧ Rch N B key p P R ok (nI 1) p' (endP P (encX key Y R)).1 (endP P (encX key Y R)).2 ok' (nI 0) ∧ Mok N B p' (endP P (encX key Y R)).1 (endP P (encX key Y R)).2 (nI 0)
def dor (A F : Memo → Prop) (r : Option AVal) (μ : Memo) : Prop := (r = some (vI (nI 1)) ∧ A μ) ∨ (r = some (vI (nI 0)) ∧ F μ)
section CD
variable {V : VV} {d : Nat} {M M' : Mthd} {pc idx n : Nat} {ls : List (Option AVal)} {μ : Memo} {Q : Option AVal → Memo → Prop}
theorem Go.callVd {A F : Memo → Prop} (o : Nat) (As rest : List AVal) {st : List AVal} (hd : decode M.2.1 pc = .ok (.invokevirtual idx, 3)) (hk : LkV M.1.cls idx M' n) (hrc : rcvOK o M'.1.cls) (hn : As.length = n) (hlen : (entL (vR o :: As)).length ≤ M'.2.2.1) (hst : st = As.reverse ++ vR o :: rest) (hrest : rest.length ≤ 4) (hc : Go V d M' 0 (entF M' (vR o :: As)) [] μ (dor A F)) (k1 : ∀ μ1, A μ1 → Go V (d + 1) M (pc + 3) ls (vI (nI 1) :: rest) μ1 Q) (k0 : ∀ μ1, F μ1 → Go V (d + 1) M (pc + 3) ls (vI (nI 0) :: rest) μ1 Q) : Go V (d + 1) M pc ls st μ Q :=
  Go.callV o As rest hd hk.1 hk.2.1 hk.2.2.1 hk.2.2.2 hrc hn hlen hst hrest (Go.mono hc (by rintro r m2 (⟨rfl, h⟩ | ⟨rfl, h⟩); exact k1 m2 h; exact k0 m2 h))
end CD
/-- the contract of a level at p: its right sides bind by more than r - 1 -/
def CL (V : VV) (Me : Mthd) (c N : Nat) (B : Nat → Nat) (key L r p : Nat) : Prop :=
  ∀ (μ0 μ : Memo) (P R : List Int32) (X : List (Int32 × Int32)) (ok k dp tn D : Nat), Mt μ0 μ N B L p X ok dp tn → Mok N B p P R (nI 1) → cntL (nI 40) P = dp → cntL (nI 33) P = tn → (P = [] ∨ ¬ topS P = nI 33 ∧ rankI (topS P) < r) → X.length + k ≤ p → okX key X → 6 * (8 - dp) + (8 - tn) + c ≤ D →
    Go V D Me 0 (entF Me [vR 76, vI (nI key)]) [] μ (dor (fun μ1 => LvS μ0 μ1 N B key L p P R X ok k dp tn r) (fun μ1 => FlS μ0 μ1 N B key L p P R ok))
def CP0 (V : VV) (N : Nat) (B : Nat → Nat) (key L p : Nat) : Prop :=
  ∀ (μ0 μ : Memo) (P R : List Int32) (X : List (Int32 × Int32)) (ok k dp tn D : Nat), Mt μ0 μ N B L p X ok dp tn → Mok N B p P R (nI 1) → cntL (nI 40) P = dp → cntL (nI 33) P = tn → X.length + k ≤ p → okX key X → 6 * (8 - dp) + (8 - tn) + 4 ≤ D →
    Go V D mX9_part0 0 (entF mX9_part0 [vR 76, vI (nI key)]) [] μ (dor (fun μ1 => P0S μ0 μ1 N B key L p P R X ok k dp tn) (fun μ1 => FlS μ0 μ1 N B key L p P R ok))
theorem endP_top {P R : List Int32} (h : P = [] ∨ ¬ topS P = nI 33) : endP P R = (P, R) := by
  cases P with
  | nil => rfl
  | cons c L =>
    have : ¬ c = nI 33 := by rcases h with h | h; contradiction; exact h
    rw [endP, if_neg this]
theorem P0S.lv {μ0 μ1 : Memo} {N : Nat} {B : Nat → Nat} {key L p : Nat} {P R : List Int32} {X : List (Int32 × Int32)} {ok k dp tn : Nat} (h : P0S μ0 μ1 N B key L p P R X ok k dp tn) (hP : P = [] ∨ ¬ topS P = nI 33) : ∃ p' Y ok' Q R', LvG μ0 μ1 N B key L p P R X ok k dp tn 5 6 p' Y ok' Q R' := by
  obtain ⟨p', Y, ok', h1, h2, h3, h4, h5, h6, h7⟩ := h
  rw [endP_top hP] at h6 h7
  refine ⟨p', Y, ok', [], encX key Y R, h1, h2, h3, h4, h5, h6, trivial, rfl, Or.inl ?_, h7⟩
  unfold tkr; split
  · have := rank_le (nI (B (bg N B p'))); omega
  · omega
theorem LvG.lower {μ0 μ1 : Memo} {N : Nat} {B : Nat → Nat} {key L p : Nat} {P R : List Int32} {X : List (Int32 × Int32)} {ok k dp tn r rc p' : Nat} {Y : List (Int32 × Int32)} {ok' : Nat} {Q R' : List Int32} (h : LvG μ0 μ1 N B key L p P R X ok k dp tn r rc p' Y ok' Q R') {r2 : Nat} (hr : r2 ≤ r) : LvG μ0 μ1 N B key L p P R X ok k dp tn r2 rc p' Y ok' Q R' := by
  obtain ⟨h1, h2, h3, h4, h5, h6, h7, h8, h9, h10⟩ := h
  exact ⟨h1, h2, h3, h4, h5, h6, rkA.mono hr h7, h8, h9, h10⟩
theorem LvG.exit {μ0 μ1 : Memo} {N : Nat} {B : Nat → Nat} {key L p : Nat} {P R : List Int32} {X : List (Int32 × Int32)} {ok k dp tn r p' : Nat} {Y : List (Int32 × Int32)} {ok' : Nat} {Q R' : List Int32} (h : LvG μ0 μ1 N B key L p P R X ok k dp tn r (r + 1) p' Y ok' Q R') (ht : tkr N B p' ≠ r) : LvS μ0 μ1 N B key L p P R X ok k dp tn r := by
  obtain ⟨h1, h2, h3, h4, h5, h6, h7, h8, h9, h10⟩ := h
  refine ⟨p', Y, ok', Q, R', h1, h2, h3, h4, h5, h6, h7, h8, ?_, h10⟩
  rcases h9 with h | ⟨a, b, c⟩
  · exact Or.inl (by omega)
  · exact Or.inr ⟨a, by omega, c⟩
theorem Mt.fr {μ0 μ : Memo} {N : Nat} {B : Nat → Nat} {L p : Nat} {X : List (Int32 × Int32)} {ok dp tn : Nat} (h : Mt μ0 μ N B L p X ok dp tn) : Mfr μ0 μ L := ⟨h.2.2.2.2.2.2.2.2.2.2.1, h.2.2.2.2.2.2.2.2.2.2.2.1, h.2.2.2.2.2.2.2.2.2.2.2.2, h.2.2.2.1⟩
/-- the sign's step of the machine, r not 3 -/
theorem LvG.sign {μ0 μ1 : Memo} {N : Nat} {B : Nat → Nat} {key L p : Nat} {P R : List Int32} {X : List (Int32 × Int32)} {ok k dp tn r rc p' : Nat} {Y : List (Int32 × Int32)} {ok' : Nat} {Q R' : List Int32} (h : LvG μ0 μ1 N B key L p P R X ok k dp tn r rc p' Y ok' Q R') (hr1 : 1 ≤ r) (hr3 : r ≠ 3) (hP : P = [] ∨ ¬ topS P = nI 33 ∧ rankI (topS P) < r) (hb : bg N B p' < N) (hc : rankI (nI (B (bg N B p'))) = r) (hB : B (bg N B p') < 256) :
    Rch N B key p P R ok (nI 1) (en N B (bg N B p')) (nI (B (bg N B p')) :: P) (encX key Y R) ok' (nI 1) ∧ Mok N B (en N B (bg N B p')) (nI (B (bg N B p')) :: P) (encX key Y R) (nI 1) := by
  obtain ⟨h1, h2, h3, h4, h5, h6, h7, h8, h9, h10⟩ := h
  have hput : putP r (Q ++ P) R' = (P, encX key Y R) := by
    rw [putP_flu Q P R' h7 (by rcases hP with z | z; exact Or.inr z; exact Or.inl (by omega)), h8]
  have n41 : ¬ B (bg N B p') = 41 := fun z => by rw [z] at hc; have : rankI (nI 41) = 0 := (by decide); omega
  have e : cstep N B key p' (Q ++ P) R' ok' (nI 0) = some (nI (B (bg N B p')) :: P, encX key Y R, ok', nI 1) := by
    unfold cstep signC
    rw [if_pos rfl, if_neg n41, if_neg (by omega), if_neg (by omega), hc, hput]
  exact ⟨h6.tr (Rch.one hb e), cstep_ok h10 hb e⟩
theorem encR_sgn (key c : Int32) : encR key (nI 2) c = -c := by unfold encR; rw [if_neg (by decide), if_neg (by decide)]
theorem LvG.join {μ0 μ1 μ2 μ3 : Memo} {N : Nat} {B : Nat → Nat} {key L p : Nat} {P R : List Int32} {X : List (Int32 × Int32)} {ok k dp tn r rc r2 rc2 p1 p2 : Nat} {Y Y2 : List (Int32 × Int32)} {ok1 ok2 : Nat} {Q R1 Q2 R2 : List Int32} {c : Int32} {q : Nat}
    (h : LvG μ0 μ1 N B key L p P R X ok k dp tn r rc p1 Y ok1 Q R1) (hR : Rch N B key p P R ok (nI 1) q (c :: P) (encX key Y R) ok1 (nI 1)) (hq : p1 < q) (hs : signP c) (hc : r ≤ rankI c) (hr2 : r ≤ r2)
    (g : LvG μ0 μ2 N B key L q (c :: P) (encX key Y R) (Y ++ X) ok1 (k + 1) dp tn r2 rc2 p2 Y2 ok2 Q2 R2) (hM : Mt μ0 μ3 N B L p2 ((nI 2, c) :: (Y2 ++ (Y ++ X))) ok2 dp tn) :
    LvG μ0 μ3 N B key L p P R X ok k dp tn r rc2 p2 ((nI 2, c) :: (Y2 ++ Y)) ok2 (Q2 ++ [c]) R2 := by
  obtain ⟨h1, h2, h3, h4, h5, h6, h7, h8, h9, h10⟩ := h
  obtain ⟨g1, g2, g3, g4, g5, g6, g7, g8, g9, g10⟩ := g
  have eX : ((nI 2, c) :: (Y2 ++ Y)) ++ X = (nI 2, c) :: (Y2 ++ (Y ++ X)) := by rw [List.cons_append, List.append_assoc]
  have eQ : (Q2 ++ [c]) ++ P = Q2 ++ c :: P := by rw [List.append_assoc]; rfl
  unfold LvG
  rw [eX, eQ]
  refine ⟨hM, by simp only [List.length_cons] at *; omega, by omega, ⟨Or.inr (Or.inr (Or.inr ⟨rfl, hs, by omega⟩)), g4⟩, ?_, hR.tr g6, (rkA.mono hr2 g7).app ⟨hc, trivial⟩, ?_, ?_, g10⟩
  · show (if nI 2 = nI 2 then (if c = nI 33 then vdp (Y2 ++ (Y ++ X)) else vdp (Y2 ++ (Y ++ X)) - 1) else _) = _
    rw [if_pos rfl, if_neg (sign_no33 hs)]; omega
  · rw [flu_app, g8]
    show -c :: encX key Y2 (encX key Y R) = encX key ((nI 2, c) :: (Y2 ++ Y)) R
    rw [← encX_app]
    show _ = encR (nI key) (nI 2) c :: encX key (Y2 ++ Y) R
    rw [encR_sgn]
  · unfold Cont at *
    rw [eQ]; exact g9
