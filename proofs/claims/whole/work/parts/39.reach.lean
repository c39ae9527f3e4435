/-! ===== how far the machine comes ===== -/
def Rch (N : Nat) (B : Nat → Nat) (key p : Nat) (P R : List Int32) (ok : Nat) (due : Int32) (p' : Nat) (P' R' : List Int32) (ok' : Nat) (due' : Int32) : Prop := ∃ n, n + p ≤ p' ∧ ∀ m, mrun N B key (m + n) p P R ok due = mrun N B key m p' P' R' ok' due'
def Flt (N : Nat) (B : Nat → Nat) (key p : Nat) (P R : List Int32) (ok : Nat) (due : Int32) (x : Nat) : Prop := ∃ n, n + p ≤ N ∧ ∀ m, mrun N B key (m + n) p P R ok due = .inl x
section RCH
variable {N : Nat} {B : Nat → Nat} {key p p1 p2 ok ok1 ok2 x : Nat} {P P1 P2 R R1 R2 : List Int32} {due due1 due2 : Int32}
theorem Rch.rf : Rch N B key p P R ok due p P R ok due := ⟨0, by omega, fun m => rfl⟩
theorem Rch.tr (h : Rch N B key p P R ok due p1 P1 R1 ok1 due1) (k : Rch N B key p1 P1 R1 ok1 due1 p2 P2 R2 ok2 due2) : Rch N B key p P R ok due p2 P2 R2 ok2 due2 := by
  obtain ⟨n, h1, h2⟩ := h
  obtain ⟨q, k1, k2⟩ := k
  refine ⟨q + n, by omega, fun m => ?_⟩
  rw [← Nat.add_assoc, h2, k2]
theorem Rch.flt (h : Rch N B key p P R ok due p1 P1 R1 ok1 due1) (k : Flt N B key p1 P1 R1 ok1 due1 x) : Flt N B key p P R ok due x := by
  obtain ⟨n, h1, h2⟩ := h
  obtain ⟨q, k1, k2⟩ := k
  refine ⟨q + n, by omega, fun m => ?_⟩
  rw [← Nat.add_assoc, h2, k2]
theorem Rch.one (hb : bg N B p < N) (h : cstep N B key p P R ok due = some (P1, R1, ok1, due1)) : Rch N B key p P R ok due (en N B (bg N B p)) P1 R1 ok1 due1 := by
  have g1 := bg_ge (N := N) (B := B) p
  have g2 := en_gt (B := B) hb
  refine ⟨1, by omega, fun m => ?_⟩
  rw [mrun, if_pos hb, h]
theorem Flt.one (hb : bg N B p < N) (h : cstep N B key p P R ok due = none) : Flt N B key p P R ok due (bg N B p) := by
  have g1 := bg_ge (N := N) (B := B) p
  refine ⟨1, by omega, fun m => ?_⟩
  rw [mrun, if_pos hb, h]
theorem mrun_end (hb : ¬ bg N B p < N) : ∀ m, mrun N B key m p P R ok due = mfin N B p P R ok due
  | 0 => by rw [mrun]
  | m + 1 => by rw [mrun, if_neg hb]
theorem Flt.fin (hp : p ≤ N) (hb : ¬ bg N B p < N) (h : ¬ (due = nI 0 ∧ cntL (nI 40) P = 0)) : Flt N B key p P R ok due (bg N B p) := by
  refine ⟨0, by omega, fun m => ?_⟩
  rw [mrun_end hb, mfin, if_neg h]
end RCH
/-- pending signs put into the row, the top first -/
def flu : List Int32 → List Int32 → List Int32
  | [], R => R
  | c :: Q, R => flu Q (-c :: R)
def rkA (r : Nat) : List Int32 → Prop
  | [] => True
  | c :: Q => r ≤ rankI c ∧ rkA r Q
theorem putP_flu {r : Nat} : ∀ (Q P R : List Int32), rkA r Q → ¬ r ≤ rankI (topS P) ∨ P = [] → putP r (Q ++ P) R = (P, flu Q R)
  | [], P, R, _, hP => by
    cases P with
    | nil => rfl
    | cons c L =>
      have : ¬ r ≤ rankI c := by rcases hP with h | h; exact h; contradiction
      show putP r (c :: L) R = (c :: L, R)
      rw [putP, if_neg this]
  | c :: Q, P, R, h, hP => by
    show putP r (c :: (Q ++ P)) R = (P, flu Q (-c :: R))
    rw [putP, if_pos h.1, putP_flu Q P _ h.2 hP]
theorem flu_app : ∀ (Q1 Q2 R : List Int32), flu (Q1 ++ Q2) R = flu Q2 (flu Q1 R)
  | [], _, _ => rfl
  | c :: Q1, Q2, R => flu_app Q1 Q2 (-c :: R)
theorem rkA.mono {r q : Nat} (h : q ≤ r) : ∀ {Q : List Int32}, rkA r Q → rkA q Q
  | [], _ => trivial
  | _ :: _, k => ⟨Nat.le_trans h k.1, rkA.mono h k.2⟩
theorem rkA.app {r : Nat} : ∀ {Q1 Q2 : List Int32}, rkA r Q1 → rkA r Q2 → rkA r (Q1 ++ Q2)
  | [], _, _, h => h
  | _ :: _, _, h, k => ⟨h.1, rkA.app h.2 k⟩
