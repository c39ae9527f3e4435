/-! ===== levels ===== -/
def encX (key : Nat) (Y : List (Int32 × Int32)) (R : List Int32) : List Int32 := Y.map (fun q => encR (nI key) q.1 q.2) ++ R
def vdp : List (Int32 × Int32) → Nat
  | [] => 0
  | q :: X => if q.1 = nI 2 then (if q.2 = nI 33 then vdp X else vdp X - 1) else vdp X + 1
def okX (key : Nat) : List (Int32 × Int32) → Prop
  | [] => True
  | q :: X => stepOK (nI key) q.1 q.2 (vdp X) ∧ okX key X
theorem encX_app (key : Nat) (Y2 Y1 : List (Int32 × Int32)) (R : List Int32) : encX key (Y2 ++ Y1) R = encX key Y2 (encX key Y1 R) := by
  unfold encX; rw [List.map_append, List.append_assoc]
def tkr (N : Nat) (B : Nat → Nat) (p : Nat) : Nat := if bg N B p < N then rankI (nI (B (bg N B p))) else 0
def Cont (N : Nat) (B : Nat → Nat) (r p : Nat) (Q P R : List Int32) : Prop := tkr N B p < r ∨ (tkr N B p = 3 ∧ r ≤ 3 ∧ rankI (topS (putP 4 (Q ++ P) R).1) = 3)
def Mfr (μ0 μ : Memo) (L : Nat) : Prop := (∀ j, j < L ∨ L + 196 ≤ j → μ 77 j = μ0 77 j) ∧ (∀ o, o ≠ 76 → o ≠ 77 → μ o = μ0 o) ∧ (∀ k, k < 14 ∨ 25 ≤ k → μ 76 k = μ0 76 k) ∧ L + 196 ≤ 3147
def FlS (μ0 μ1 : Memo) (N : Nat) (B : Nat → Nat) (key L p : Nat) (P R : List Int32) (ok : Nat) : Prop := ∃ pf, TkP μ1 N B pf ∧ pf ≤ N ∧ Mfr μ0 μ1 L ∧ Flt N B key p P R ok (nI 1) (bg N B pf)
def LvS (μ0 μ1 : Memo) (N : Nat) (B : Nat → Nat) (key L p : Nat) (P R : List Int32) (X : List (Int32 × Int32)) (ok k dp tn r : Nat) : Prop :=
  ∃ p' Y ok' Q R', Mt μ0 μ1 N B L p' (Y ++ X) ok' dp tn ∧ (Y ++ X).length + k ≤ p' ∧ p < p' ∧ okX key (Y ++ X) ∧ vdp (Y ++ X) = vdp X + 1 ∧ Rch N B key p P R ok (nI 1) p' (Q ++ P) R' ok' (nI 0) ∧ rkA r Q ∧ flu Q R' = encX key Y R ∧ Cont N B r p' Q P R'
def P0S (μ0 μ1 : Memo) (N : Nat) (B : Nat → Nat) (key L p : Nat) (P R : List Int32) (X : List (Int32 × Int32)) (ok k dp tn : Nat) : Prop :=
  ∃ p' Y ok', Mt μ0 μ1 N B L p' (Y ++ X) ok' dp tn ∧ (Y ++ X).length + k ≤ p' ∧ p < p' ∧ okX key (Y ++ X) ∧ vdp (Y ++ X) = vdp X + 1 ∧ Rch N B key p P R ok (nI 1) p' (endP P (encX key Y R)).1 (endP P (encX key Y R)).2 ok' (nI 0)
def dor (A F : Memo → Prop) (r : Option AVal) (μ : Memo) : Prop := (r = some (vI (nI 1)) ∧ A μ) ∨ (r = some (vI (nI 0)) ∧ F μ)
section CD
variable {V : VV} {d : Nat} {M M' : Mthd} {pc idx n : Nat} {ls : List (Option AVal)} {μ : Memo} {Q : Option AVal → Memo → Prop}
theorem Go.callVd {A F : Memo → Prop} (o : Nat) (As rest : List AVal) {st : List AVal} (hd : decode M.2.1 pc = .ok (.invokevirtual idx, 3)) (hk : LkV M.1.cls idx M' n) (hrc : rcvOK o M'.1.cls) (hn : As.length = n) (hlen : (entL (vR o :: As)).length ≤ M'.2.2.1) (hst : st = As.reverse ++ vR o :: rest) (hrest : rest.length ≤ 4) (hc : Go V d M' 0 (entF M' (vR o :: As)) [] μ (dor A F)) (k1 : ∀ μ1, A μ1 → Go V (d + 1) M (pc + 3) ls (vI (nI 1) :: rest) μ1 Q) (k0 : ∀ μ1, F μ1 → Go V (d + 1) M (pc + 3) ls (vI (nI 0) :: rest) μ1 Q) : Go V (d + 1) M pc ls st μ Q :=
  Go.callV o As rest hd hk.1 hk.2.1 hk.2.2.1 hk.2.2.2 hrc hn hlen hst hrest (Go.mono hc (by rintro r m2 (⟨rfl, h⟩ | ⟨rfl, h⟩); exact k1 m2 h; exact k0 m2 h))
end CD
/-- the contract of a level at p: its right sides bind by more than r - 1 -/
def CL (V : VV) (Me : Mthd) (c N : Nat) (B : Nat → Nat) (key L r p : Nat) : Prop :=
  ∀ (μ0 μ : Memo) (P R : List Int32) (X : List (Int32 × Int32)) (ok k dp tn D : Nat), Mt μ0 μ N B L p X ok dp tn → Mok N B p P R (nI 1) → cntL (nI 40) P = dp → cntL (nI 33) P = tn → (P = [] ∨ ¬ topS P = nI 33 ∧ rankI (topS P) < r) → X.length + k ≤ p → okX key X → 6 * (8 - dp) + (8 - tn) + c ≤ D →
    Go V D Me 0 (entF Me [vR 76, vI (nI key)]) [] μ (dor (fun μ1 => LvS μ0 μ1 N B key L p P R X ok k dp tn r) (fun μ1 => FlS μ0 μ1 N B key L p P R ok))
def CP0 (V : VV) (N : Nat) (B : Nat → Nat) (key L p : Nat) : Prop :=
  ∀ (μ0 μ : Memo) (P R : List Int32) (X : List (Int32 × Int32)) (ok k dp tn D : Nat), Mt μ0 μ N B L p X ok dp tn → Mok N B p P R (nI 1) → cntL (nI 40) P = dp → cntL (nI 33) P = tn → X.length + k ≤ p → okX key X → 6 * (8 - dp) + (8 - tn) + 4 ≤ D →
    Go V D mX9_part0 0 (entF mX9_part0 [vR 76, vI (nI key)]) [] μ (dor (fun μ1 => P0S μ0 μ1 N B key L p P R X ok k dp tn) (fun μ1 => FlS μ0 μ1 N B key L p P R ok))
