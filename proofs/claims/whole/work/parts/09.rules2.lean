/-! ===== more rules: numbers in normal form, booleans, switches ===== -/
def bI (p : Prop) [Decidable p] : Int32 := if p then nI 1 else nI 0
def iush (x y : Int32) : Int32 := (x.toUInt32 >>> (y.toUInt32 &&& Int32.toUInt32 31)).toInt32
def irm (x y : Int32) : Int32 := x - x / y * y
def maxI (x y : Int32) : Int32 := if x < y then y else x
def minI (x y : Int32) : Int32 := if y < x then y else x
theorem bI_t {p : Prop} [Decidable p] (h : p) : bI p = nI 1 := if_pos h
theorem bI_f {p : Prop} [Decidable p] (h : ¬ p) : bI p = nI 0 := if_neg h
theorem bI_eq0 {p : Prop} [Decidable p] : bI p = 0 ↔ ¬ p := by
  by_cases h : p
  · rw [bI_t h]; exact ⟨fun e => absurd e (by decide), fun n => absurd h n⟩
  · rw [bI_f h]; exact ⟨fun _ => h, fun _ => rfl⟩
theorem bI_congr {p q : Prop} [Decidable p] [Decidable q] (h : p ↔ q) : bI p = bI q := by
  by_cases hp : p
  · rw [bI_t hp, bI_t (h.mp hp)]
  · rw [bI_f hp, bI_f (fun z => hp (h.mpr z))]
theorem nar_b {p : Prop} [Decidable p] (_ : Unit) : narrow .boolean (.int (bI p)) = .int (bI p) := by
  by_cases h : p
  · rw [bI_t h]; rfl
  · rw [bI_f h]; rfl
theorem fit_b {p : Prop} [Decidable p] : fits .boolean (.int (bI p)) = true := by
  by_cases h : p
  · rw [bI_t h]; rfl
  · rw [bI_f h]; rfl
section GO3
variable {V : VV} {d : Nat} {M : Mthd} {pc idx : Nat} {ls : List (Option AVal)} {st : List AVal} {μ : Memo} {Q : Option AVal → Memo → Prop}
theorem Go.topE {x : Int32} (y : Int32) (h : x = y) (k : Go V d M pc ls (vI y :: st) μ Q) : Go V d M pc ls (vI x :: st) μ Q := h ▸ k
theorem Go.at (n : Nat) (h : pc = n) (k : Go V d M n ls st μ Q) : Go V d M pc ls st μ Q := h ▸ k
theorem Go.memE {μ' : Memo} (h : μ = μ') (k : Go V d M pc ls st μ' Q) : Go V d M pc ls st μ Q := h ▸ k
theorem Go.iaddN {a b : Nat} (hd : decode M.2.1 pc = .ok (.iadd, 1)) (k : Go V d M (pc + 1) ls (vI (nI (a + b)) :: st) μ Q) : Go V d M pc ls (vI (nI b) :: vI (nI a) :: st) μ Q := Go.iadd hd (by rw [nI_add]; exact k)
theorem Go.imulN {a b : Nat} (hd : decode M.2.1 pc = .ok (.imul, 1)) (k : Go V d M (pc + 1) ls (vI (nI (a * b)) :: st) μ Q) : Go V d M pc ls (vI (nI b) :: vI (nI a) :: st) μ Q := Go.imul hd (by rw [pk_mul]; exact k)
theorem Go.isubN {a b : Nat} (hd : decode M.2.1 pc = .ok (.isub, 1)) (h : b ≤ a) (k : Go V d M (pc + 1) ls (vI (nI (a - b)) :: st) μ Q) : Go V d M pc ls (vI (nI b) :: vI (nI a) :: st) μ Q := Go.isub hd (by rw [pk_sub h]; exact k)
theorem Go.iushrE {x y : Int32} (hd : decode M.2.1 pc = .ok (.iushr, 1)) (k : Go V d M (pc + 1) ls (vI (iush x y) :: st) μ Q) : Go V d M pc ls (vI y :: vI x :: st) μ Q := Go.iushr hd k
theorem Go.iremE {x y : Int32} (hd : decode M.2.1 pc = .ok (.irem, 1)) (hne : ¬ y = 0) (k : Go V d M (pc + 1) ls (vI (irm x y) :: st) μ Q) : Go V d M pc ls (vI y :: vI x :: st) μ Q := Go.irem hd hne k
theorem Go.mmaxE {x y : Int32} (hd : decode M.2.1 pc = .ok (.invokestatic idx, 3)) (hw : Cond.methodLink M.1.cls idx Lib.Math.max.name ∈ T0) (hst : st.length ≤ 4) (k : Go V (d + 1) M (pc + 3) ls (vI (maxI x y) :: st) μ Q) : Go V (d + 1) M pc ls (vI y :: vI x :: st) μ Q := Go.mmax hd hw hst k
theorem Go.mminE {x y : Int32} (hd : decode M.2.1 pc = .ok (.invokestatic idx, 3)) (hw : Cond.methodLink M.1.cls idx Lib.Math.min.name ∈ T0) (hst : st.length ≤ 4) (k : Go V (d + 1) M (pc + 3) ls (vI (minI x y) :: st) μ Q) : Go V (d + 1) M pc ls (vI y :: vI x :: st) μ Q := Go.mmin hd hw hst k
theorem Go.if_eqb {p : Prop} [Decidable p] {off : Int} {tgt : Nat} (hd : decode M.2.1 pc = .ok (.ifCond .eq off, 3)) (ht : (pc : Int) + off = (tgt : Int)) (kt : ¬ p → Go V d M tgt ls st μ Q) (kf : p → Go V d M (pc + 3) ls st μ Q) : Go V d M pc ls (vI (bI p) :: st) μ Q :=
  Go.if_eq hd ht (fun h => kt (bI_eq0.mp h)) (fun h => kf (Decidable.not_not.mp (fun n => h (bI_eq0.mpr n))))
theorem Go.if_neb {p : Prop} [Decidable p] {off : Int} {tgt : Nat} (hd : decode M.2.1 pc = .ok (.ifCond .ne off, 3)) (ht : (pc : Int) + off = (tgt : Int)) (kt : p → Go V d M tgt ls st μ Q) (kf : ¬ p → Go V d M (pc + 3) ls st μ Q) : Go V d M pc ls (vI (bI p) :: st) μ Q :=
  Go.if_ne hd ht (fun h => kt (Decidable.not_not.mp (fun n => h (bI_eq0.mpr n)))) (fun h => kf (bI_eq0.mp h))
theorem Go.if_eqb_t {p : Prop} [Decidable p] {off : Int} {tgt : Nat} (hd : decode M.2.1 pc = .ok (.ifCond .eq off, 3)) (ht : (pc : Int) + off = (tgt : Int)) (h : ¬ p) (k : Go V d M tgt ls st μ Q) : Go V d M pc ls (vI (bI p) :: st) μ Q := Go.if_eqb hd ht (fun _ => k) (fun n => absurd n h)
theorem Go.if_eqb_f {p : Prop} [Decidable p] {off : Int} {tgt : Nat} (hd : decode M.2.1 pc = .ok (.ifCond .eq off, 3)) (ht : (pc : Int) + off = (tgt : Int)) (h : p) (k : Go V d M (pc + 3) ls st μ Q) : Go V d M pc ls (vI (bI p) :: st) μ Q := Go.if_eqb hd ht (fun n => absurd h n) (fun _ => k)
theorem Go.if_neb_t {p : Prop} [Decidable p] {off : Int} {tgt : Nat} (hd : decode M.2.1 pc = .ok (.ifCond .ne off, 3)) (ht : (pc : Int) + off = (tgt : Int)) (h : p) (k : Go V d M tgt ls st μ Q) : Go V d M pc ls (vI (bI p) :: st) μ Q := Go.if_neb hd ht (fun _ => k) (fun n => absurd h n)
theorem Go.if_neb_f {p : Prop} [Decidable p] {off : Int} {tgt : Nat} (hd : decode M.2.1 pc = .ok (.ifCond .ne off, 3)) (ht : (pc : Int) + off = (tgt : Int)) (h : ¬ p) (k : Go V d M (pc + 3) ls st μ Q) : Go V d M pc ls (vI (bI p) :: st) μ Q := Go.if_neb hd ht (fun n => absurd n h) (fun _ => k)
theorem Go.lswV {dflt : Int} {ps : Array (Int × Int)} {len : Nat} {x : Int32} {off : Int} {tgt : Nat} (v : Int32) (hx : x = v) (hd : decode M.2.1 pc = .ok (.lookupswitch dflt ps, len)) (hp : (ps.toList.zip (ps.toList.drop 1)).all (fun (a, next) => a.1 < next.1) = true) (ho : Op.lookupswitch.offset ps.toList dflt v.toInt = off) (ht : (pc : Int) + off = (tgt : Int)) (k : Go V d M tgt ls st μ Q) : Go V d M pc ls (vI x :: st) μ Q := by
  subst hx
  exact Go.lsw hd hp ho ht k
end GO3
/-! ===== numbers ===== -/
theorem sI_lt (a b : Int32) : a < b ↔ a.toInt < b.toInt := Int32.lt_iff_toInt_lt
theorem sI_le (a b : Int32) : a ≤ b ↔ a.toInt ≤ b.toInt := Int32.le_iff_toInt_le
theorem sI_eq (a b : Int32) : a = b ↔ a.toInt = b.toInt := Int32.toInt_inj.symm
theorem sI_lt64 (a b : Int64) : a < b ↔ a.toInt < b.toInt := Int64.lt_iff_toInt_lt
theorem sI_le64 (a b : Int64) : a ≤ b ↔ a.toInt ≤ b.toInt := Int64.le_iff_toInt_le
theorem sI_w (a : Int32) : a.toInt64.toInt = a.toInt := Int32.toInt_toInt64 a
