def mu0 : Memo := fun o => if o = 11 ∨ o = 19 ∨ o = 27 then (fun j => if j < 30 then (-1000000005) else 0) else if o = 12 ∨ o = 20 ∨ o = 28 then (upd (upd (upd (upd (upd (upd (fun _ => 0) 0 (nI 2)) 1 (nI 8)) 2 (nI 3)) 3 (nI 0)) 4 (nI 20)) 5 (nI 1)) else if o = 77 then smF (upd (upd (upd (upd (upd (upd (fun _ => 0) 4 (nI 1)) 5 (nI 2)) 6 (nI 8)) 7 (nI 3)) 9 (nI 20)) 10 (nI 1)) 30 else if o = 80 then tsF (fun _ => 0) 4 else if (53 ≤ o ∧ o ≤ 56) ∨ (66 ≤ o ∧ o ≤ 70) then (fun j => if j = 0 then (-1) else 0) else if o = 7 ∨ o = 15 ∨ o = 23 then (fun j => if j = 10 then nI 1 else 0) else (fun _ => 0)
def fl95 (cA : Nat → ClassId) (A r : Nat → Nat) : va_W := [
  (A 0, .inr (6, [.ref (A 1), .ref (A 7), .ref (A 15), .ref (A 23), .ref (A 31), .ref (A 33), .ref (A 36), .ref (A 37), .ref (A 38), .int 0, .int 0])),
  (A 1, .inr (1, [.ref (A 2), .ref (A 3), .ref (A 4), .ref (A 5), .ref (A 6), .int 0])),
  (A 2, .inl (cA 0, 14, .inl (fun _ => 0))),
  (A 3, .inl (cA 0, 14, .inl (fun _ => 0))),
  (A 4, .inl (cA 0, 14, .inl (fun _ => 0))),
  (A 5, .inl (cA 3, 14, .inr (.inr (.inr (.inr (fun i => if i < 14 then some (r i) else none)))))),
  (A 39, .inl (cA 0, 96, .inl (fun _ => 0))),
  (A 40, .inl (cA 0, 96, .inl (fun _ => 0))),
  (A 41, .inl (cA 0, 96, .inl (fun _ => 0))),
  (A 42, .inl (cA 0, 96, .inl (fun _ => 0))),
  (A 43, .inl (cA 0, 96, .inl (fun _ => 0))),
  (A 44, .inl (cA 0, 96, .inl (fun _ => 0))),
  (A 45, .inl (cA 0, 96, .inl (fun _ => 0))),
  (A 46, .inl (cA 0, 96, .inl (fun _ => 0))),
  (A 47, .inl (cA 0, 96, .inl (fun _ => 0))),
  (A 48, .inl (cA 0, 96, .inl (fun _ => 0))),
  (A 49, .inl (cA 0, 96, .inl (fun _ => 0))),
  (A 50, .inl (cA 0, 96, .inl (fun _ => 0))),
  (A 51, .inl (cA 0, 96, .inl (fun _ => 0))),
  (A 52, .inl (cA 0, 96, .inl (fun _ => 0))),
  (A 6, .inl (cA 0, 96, .inl (fun _ => 0))),
  (A 7, .inr (0, [.ref (A 8), .ref (A 9), .ref (A 10), .ref (A 11), .ref (A 12), .ref (A 13), .ref (A 14), .int 0, .int 0, .int 0, .int (nI 1), .int 0, .ref (A 1)])),
  (A 8, .inl (cA 0, 30, .inl (fun _ => 0))),
  (A 9, .inl (cA 0, 30, .inl (fun _ => 0))),
  (A 10, .inl (cA 0, 30, .inl (fun _ => 0))),
  (A 11, .inl (cA 0, 30, .inl (fun j => if j < 30 then (-1000000005) else 0))),
  (A 12, .inl (cA 0, 6, .inl (upd (upd (upd (upd (upd (upd (fun _ => 0) 0 (nI 2)) 1 (nI 8)) 2 (nI 3)) 3 (nI 0)) 4 (nI 20)) 5 (nI 1)))),
  (A 13, .inl (cA 0, 8, .inl (fun _ => 0))),
  (A 14, .inl (cA 0, 8, .inl (fun _ => 0))),
  (A 15, .inr (0, [.ref (A 16), .ref (A 17), .ref (A 18), .ref (A 19), .ref (A 20), .ref (A 21), .ref (A 22), .int 0, .int 0, .int 0, .int (nI 1), .int 0, .ref (A 1)])),
  (A 16, .inl (cA 0, 30, .inl (fun _ => 0))),
  (A 17, .inl (cA 0, 30, .inl (fun _ => 0))),
  (A 18, .inl (cA 0, 30, .inl (fun _ => 0))),
  (A 19, .inl (cA 0, 30, .inl (fun j => if j < 30 then (-1000000005) else 0))),
  (A 20, .inl (cA 0, 6, .inl (upd (upd (upd (upd (upd (upd (fun _ => 0) 0 (nI 2)) 1 (nI 8)) 2 (nI 3)) 3 (nI 0)) 4 (nI 20)) 5 (nI 1)))),
  (A 21, .inl (cA 0, 8, .inl (fun _ => 0))),
  (A 22, .inl (cA 0, 8, .inl (fun _ => 0))),
  (A 23, .inr (0, [.ref (A 24), .ref (A 25), .ref (A 26), .ref (A 27), .ref (A 28), .ref (A 29), .ref (A 30), .int 0, .int 0, .int 0, .int (nI 1), .int 0, .ref (A 1)])),
  (A 24, .inl (cA 0, 30, .inl (fun _ => 0))),
  (A 25, .inl (cA 0, 30, .inl (fun _ => 0))),
  (A 26, .inl (cA 0, 30, .inl (fun _ => 0))),
  (A 27, .inl (cA 0, 30, .inl (fun j => if j < 30 then (-1000000005) else 0))),
  (A 28, .inl (cA 0, 6, .inl (upd (upd (upd (upd (upd (upd (fun _ => 0) 0 (nI 2)) 1 (nI 8)) 2 (nI 3)) 3 (nI 0)) 4 (nI 20)) 5 (nI 1)))),
  (A 29, .inl (cA 0, 8, .inl (fun _ => 0))),
  (A 30, .inl (cA 0, 8, .inl (fun _ => 0))),
  (A 31, .inr (5, [.int 0, .ref (A 32)])),
  (A 32, .inl (cA 0, 96, .inl (fun _ => 0))),
  (A 33, .inr (2, [.int 0, .int 0, .ref (A 34), .int 0, .ref (A 31), .int 0, .int 0, .ref (A 35), .int 0, .int 0, .int 0, .int 0])),
  (A 34, .inl (cA 0, 96, .inl (fun _ => 0))),
  (A 35, .inl (cA 0, 96, .inl (fun _ => 0))),
  (A 36, .inl (cA 1, 4, .inr (.inr (.inr (.inr (va_up (va_up (va_up (va_up (fun _ => none) 0 (some (A 53))) 1 (some (A 54))) 2 (some (A 55))) 3 (some (A 56)))))))),
  (A 37, .inl (cA 2, 5, .inr (.inr (.inr (.inr (va_up (va_up (va_up (va_up (va_up (fun _ => none) 0 (some (A 61))) 1 (some (A 62))) 2 (some (A 63))) 3 (some (A 64))) 4 (some (A 65)))))))),
  (A 38, .inl (cA 0, 60, .inl (fun _ => 0))),
  (A 53, .inr (3, [.int (-1), .int 0, .ref (A 57)])),
  (A 57, .inl (cA 0, 24, .inl (fun _ => 0))),
  (A 54, .inr (3, [.int (-1), .int 0, .ref (A 58)])),
  (A 58, .inl (cA 0, 24, .inl (fun _ => 0))),
  (A 55, .inr (3, [.int (-1), .int 0, .ref (A 59)])),
  (A 59, .inl (cA 0, 24, .inl (fun _ => 0))),
  (A 56, .inr (3, [.int (-1), .int 0, .ref (A 60)])),
  (A 60, .inl (cA 0, 24, .inl (fun _ => 0))),
  (A 61, .inr (4, [.int 0, .int 0, .int 0, .int 0, .ref (A 66)])),
  (A 66, .inr (3, [.int (-1), .int 0, .ref (A 71)])),
  (A 71, .inl (cA 0, 24, .inl (fun _ => 0))),
  (A 62, .inr (4, [.int 0, .int 0, .int 0, .int 0, .ref (A 67)])),
  (A 67, .inr (3, [.int (-1), .int 0, .ref (A 72)])),
  (A 72, .inl (cA 0, 24, .inl (fun _ => 0))),
  (A 63, .inr (4, [.int 0, .int 0, .int 0, .int 0, .ref (A 68)])),
  (A 68, .inr (3, [.int (-1), .int 0, .ref (A 73)])),
  (A 73, .inl (cA 0, 24, .inl (fun _ => 0))),
  (A 64, .inr (4, [.int 0, .int 0, .int 0, .int 0, .ref (A 69)])),
  (A 69, .inr (3, [.int (-1), .int 0, .ref (A 74)])),
  (A 74, .inl (cA 0, 24, .inl (fun _ => 0))),
  (A 65, .inr (4, [.int 0, .int 0, .int 0, .int 0, .ref (A 70)])),
  (A 70, .inr (3, [.int (-1), .int 0, .ref (A 75)])),
  (A 75, .inl (cA 0, 24, .inl (fun _ => 0))),
  (A 76, .inr (7, [.ref (A 77), .ref (A 78), .ref (A 79), .int 0, .ref (A 80), .ref (A 81), .ref (A 82), .ref (A 83), .ref (A 84), .ref (A 85), .ref (A 86), .ref (A 87), .ref (A 88), .ref (A 89), .int 0, .int 0, .int 0, .int 0, .int 0, .int 0, .int 0, .int 0, .int 0, .int 0, .int 0, .ref (A 90), .ref (A 91), .ref (A 92), .ref (A 93), .int 0, .ref (A 94)])),
  (A 77, .inl (cA 0, 3147, .inl (smF (upd (upd (upd (upd (upd (upd (fun _ => 0) 4 (nI 1)) 5 (nI 2)) 6 (nI 8)) 7 (nI 3)) 9 (nI 20)) 10 (nI 1)) 30))),
  (A 78, .inl (cA 0, 3147, .inl (fun _ => 0))),
  (A 79, .inl (cA 0, 3147, .inl (fun _ => 0))),
  (A 80, .inl (cA 0, 4, .inl (tsF (fun _ => 0) 4))),
  (A 81, .inl (cA 0, 4, .inl (fun _ => 0))),
  (A 82, .inl (cA 0, 96, .inl (fun _ => 0))),
  (A 83, .inl (cA 0, 5, .inl (fun _ => 0))),
  (A 84, .inl (cA 0, 5, .inl (fun _ => 0))),
  (A 85, .inl (cA 0, 5, .inl (fun _ => 0))),
  (A 86, .inl (cA 0, 5, .inl (fun _ => 0))),
  (A 87, .inl (cA 0, 120, .inl (fun _ => 0))),
  (A 88, .inl (cA 0, 8, .inl (fun _ => 0))),
  (A 89, .inl (cA 0, 96, .inl (fun _ => 0))),
  (A 90, .inl (cA 0, 128, .inl (fun _ => 0))),
  (A 91, .inl (cA 0, 100, .inl (fun _ => 0))),
  (A 92, .inl (cA 0, 24, .inl (fun _ => 0))),
  (A 93, .inl (cA 0, 60, .inl (fun _ => 0))),
  (A 94, .inl (cA 0, 60, .inl (fun _ => 0)))]
abbrev mkV (l : Launch) (L : Nat) (xs : Nat → Int32) (A : Nat → Nat) (D : va_G) (cA : Nat → ClassId) (fm : Value) : VV := (l, ((L, xs), (A, D.1, D.2, cA, fm)))
section F95
variable {l : Launch} {L : Nat} {xs : Nat → Int32} {A r : Nat → Nat} {D : va_G} {cA : Nat → ClassId} {fm : Value}
theorem rows_f (hr : ∀ i, i < 14 → A (39 + i) = r i) : (fun i => if i < 14 then some (r i) else none) = (fun j => (([some 39, some 40, some 41, some 42, some 43, some 44, some 45, some 46, some 47, some 48, some 49, some 50, some 51, some 52] : List (Option Nat)).getD j none).map A) := by
  funext i
  match i with
  | 0 => exact congrArg some (hr 0 (by decide)).symm
  | 1 => exact congrArg some (hr 1 (by decide)).symm
  | 2 => exact congrArg some (hr 2 (by decide)).symm
  | 3 => exact congrArg some (hr 3 (by decide)).symm
  | 4 => exact congrArg some (hr 4 (by decide)).symm
  | 5 => exact congrArg some (hr 5 (by decide)).symm
  | 6 => exact congrArg some (hr 6 (by decide)).symm
  | 7 => exact congrArg some (hr 7 (by decide)).symm
  | 8 => exact congrArg some (hr 8 (by decide)).symm
  | 9 => exact congrArg some (hr 9 (by decide)).symm
  | 10 => exact congrArg some (hr 10 (by decide)).symm
  | 11 => exact congrArg some (hr 11 (by decide)).symm
  | 12 => exact congrArg some (hr 12 (by decide)).symm
  | 13 => exact congrArg some (hr 13 (by decide)).symm
  | i + 14 => rw [if_neg (by omega)]; rfl
theorem sheets_f : (va_up (va_up (va_up (va_up (fun _ => none) 0 (some (A 53))) 1 (some (A 54))) 2 (some (A 55))) 3 (some (A 56))) = (fun j => (([some 53, some 54, some 55, some 56] : List (Option Nat)).getD j none).map A) := by
  funext i
  match i with
  | 0 => rfl
  | 1 => rfl
  | 2 => rfl
  | 3 => rfl
  | i + 4 => show (if i + 4 = 3 then _ else if i + 4 = 2 then _ else if i + 4 = 1 then _ else if i + 4 = 0 then _ else none) = _; rw [if_neg (by omega), if_neg (by omega), if_neg (by omega), if_neg (by omega)]; rfl
theorem slots_f : (va_up (va_up (va_up (va_up (va_up (fun _ => none) 0 (some (A 61))) 1 (some (A 62))) 2 (some (A 63))) 3 (some (A 64))) 4 (some (A 65))) = (fun j => (([some 61, some 62, some 63, some 64, some 65] : List (Option Nat)).getD j none).map A) := by
  funext i
  match i with
  | 0 => rfl
  | 1 => rfl
  | 2 => rfl
  | 3 => rfl
  | 4 => rfl
  | i + 5 => show (if i + 5 = 4 then _ else if i + 5 = 3 then _ else if i + 5 = 2 then _ else if i + 5 = 1 then _ else if i + 5 = 0 then _ else none) = _; rw [if_neg (by omega), if_neg (by omega), if_neg (by omega), if_neg (by omega), if_neg (by omega)]; rfl
theorem c95_0 {l : Launch} {L : Nat} {xs : Nat → Int32} {D : va_G} {fm : Value} : (fl95 cA A r)[0]? = some (A 0, entf (mkV l L xs A D cA fm) (mu0 0) (0, 6, [some 1, some 7, some 15, some 23, some 31, some 33, some 36, some 37, some 38, none, none])) := by
  unfold entf
  simp only [List.mapIdx_cons, List.mapIdx_nil]
  rfl
theorem c95_1 {l : Launch} {L : Nat} {xs : Nat → Int32} {D : va_G} {fm : Value} : (fl95 cA A r)[1]? = some (A 1, entf (mkV l L xs A D cA fm) (mu0 1) (0, 1, [some 2, some 3, some 4, some 5, some 6, none])) := by
  unfold entf
  simp only [List.mapIdx_cons, List.mapIdx_nil]
  rfl
theorem c95_2 {l : Launch} {L : Nat} {xs : Nat → Int32} {D : va_G} {fm : Value} : (fl95 cA A r)[2]? = some (A 2, entf (mkV l L xs A D cA fm) (mu0 2) (1, 14, [])) := rfl
theorem c95_3 {l : Launch} {L : Nat} {xs : Nat → Int32} {D : va_G} {fm : Value} : (fl95 cA A r)[3]? = some (A 3, entf (mkV l L xs A D cA fm) (mu0 3) (1, 14, [])) := rfl
theorem c95_4 {l : Launch} {L : Nat} {xs : Nat → Int32} {D : va_G} {fm : Value} : (fl95 cA A r)[4]? = some (A 4, entf (mkV l L xs A D cA fm) (mu0 4) (1, 14, [])) := rfl
theorem c95_5 {l : Launch} {L : Nat} {xs : Nat → Int32} {D : va_G} {fm : Value} (hr : ∀ i, i < 14 → A (39 + i) = r i) : (fl95 cA A r)[5]? = some (A 5, entf (mkV l L xs A D cA fm) (mu0 5) (4, 0, [some 39, some 40, some 41, some 42, some 43, some 44, some 45, some 46, some 47, some 48, some 49, some 50, some 51, some 52])) := by
  show some (A 5, (Sum.inl (cA 3, 14, .inr (.inr (.inr (.inr (fun i => if i < 14 then some (r i) else none))))) : va_E)) = _
  rw [rows_f hr]; rfl
theorem c95_6 {l : Launch} {L : Nat} {xs : Nat → Int32} {D : va_G} {fm : Value} : (fl95 cA A r)[20]? = some (A 6, entf (mkV l L xs A D cA fm) (mu0 6) (1, 96, [])) := rfl
theorem c95_7 {l : Launch} {L : Nat} {xs : Nat → Int32} {D : va_G} {fm : Value} : (fl95 cA A r)[21]? = some (A 7, entf (mkV l L xs A D cA fm) (mu0 7) (0, 0, [some 8, some 9, some 10, some 11, some 12, some 13, some 14, none, none, none, none, none, some 1])) := by
  unfold entf
  simp only [List.mapIdx_cons, List.mapIdx_nil]
  rfl
theorem c95_8 {l : Launch} {L : Nat} {xs : Nat → Int32} {D : va_G} {fm : Value} : (fl95 cA A r)[22]? = some (A 8, entf (mkV l L xs A D cA fm) (mu0 8) (1, 30, [])) := rfl
theorem c95_9 {l : Launch} {L : Nat} {xs : Nat → Int32} {D : va_G} {fm : Value} : (fl95 cA A r)[23]? = some (A 9, entf (mkV l L xs A D cA fm) (mu0 9) (1, 30, [])) := rfl
theorem c95_10 {l : Launch} {L : Nat} {xs : Nat → Int32} {D : va_G} {fm : Value} : (fl95 cA A r)[24]? = some (A 10, entf (mkV l L xs A D cA fm) (mu0 10) (1, 30, [])) := rfl
theorem c95_11 {l : Launch} {L : Nat} {xs : Nat → Int32} {D : va_G} {fm : Value} : (fl95 cA A r)[25]? = some (A 11, entf (mkV l L xs A D cA fm) (mu0 11) (1, 30, [])) := rfl
theorem c95_12 {l : Launch} {L : Nat} {xs : Nat → Int32} {D : va_G} {fm : Value} : (fl95 cA A r)[26]? = some (A 12, entf (mkV l L xs A D cA fm) (mu0 12) (1, 6, [])) := rfl
theorem c95_13 {l : Launch} {L : Nat} {xs : Nat → Int32} {D : va_G} {fm : Value} : (fl95 cA A r)[27]? = some (A 13, entf (mkV l L xs A D cA fm) (mu0 13) (1, 8, [])) := rfl
theorem c95_14 {l : Launch} {L : Nat} {xs : Nat → Int32} {D : va_G} {fm : Value} : (fl95 cA A r)[28]? = some (A 14, entf (mkV l L xs A D cA fm) (mu0 14) (1, 8, [])) := rfl
theorem c95_15 {l : Launch} {L : Nat} {xs : Nat → Int32} {D : va_G} {fm : Value} : (fl95 cA A r)[29]? = some (A 15, entf (mkV l L xs A D cA fm) (mu0 15) (0, 0, [some 16, some 17, some 18, some 19, some 20, some 21, some 22, none, none, none, none, none, some 1])) := by
  unfold entf
  simp only [List.mapIdx_cons, List.mapIdx_nil]
  rfl
theorem c95_16 {l : Launch} {L : Nat} {xs : Nat → Int32} {D : va_G} {fm : Value} : (fl95 cA A r)[30]? = some (A 16, entf (mkV l L xs A D cA fm) (mu0 16) (1, 30, [])) := rfl
theorem c95_17 {l : Launch} {L : Nat} {xs : Nat → Int32} {D : va_G} {fm : Value} : (fl95 cA A r)[31]? = some (A 17, entf (mkV l L xs A D cA fm) (mu0 17) (1, 30, [])) := rfl
theorem c95_18 {l : Launch} {L : Nat} {xs : Nat → Int32} {D : va_G} {fm : Value} : (fl95 cA A r)[32]? = some (A 18, entf (mkV l L xs A D cA fm) (mu0 18) (1, 30, [])) := rfl
theorem c95_19 {l : Launch} {L : Nat} {xs : Nat → Int32} {D : va_G} {fm : Value} : (fl95 cA A r)[33]? = some (A 19, entf (mkV l L xs A D cA fm) (mu0 19) (1, 30, [])) := rfl
theorem c95_20 {l : Launch} {L : Nat} {xs : Nat → Int32} {D : va_G} {fm : Value} : (fl95 cA A r)[34]? = some (A 20, entf (mkV l L xs A D cA fm) (mu0 20) (1, 6, [])) := rfl
theorem c95_21 {l : Launch} {L : Nat} {xs : Nat → Int32} {D : va_G} {fm : Value} : (fl95 cA A r)[35]? = some (A 21, entf (mkV l L xs A D cA fm) (mu0 21) (1, 8, [])) := rfl
theorem c95_22 {l : Launch} {L : Nat} {xs : Nat → Int32} {D : va_G} {fm : Value} : (fl95 cA A r)[36]? = some (A 22, entf (mkV l L xs A D cA fm) (mu0 22) (1, 8, [])) := rfl
theorem c95_23 {l : Launch} {L : Nat} {xs : Nat → Int32} {D : va_G} {fm : Value} : (fl95 cA A r)[37]? = some (A 23, entf (mkV l L xs A D cA fm) (mu0 23) (0, 0, [some 24, some 25, some 26, some 27, some 28, some 29, some 30, none, none, none, none, none, some 1])) := by
  unfold entf
  simp only [List.mapIdx_cons, List.mapIdx_nil]
  rfl
theorem c95_24 {l : Launch} {L : Nat} {xs : Nat → Int32} {D : va_G} {fm : Value} : (fl95 cA A r)[38]? = some (A 24, entf (mkV l L xs A D cA fm) (mu0 24) (1, 30, [])) := rfl
theorem c95_25 {l : Launch} {L : Nat} {xs : Nat → Int32} {D : va_G} {fm : Value} : (fl95 cA A r)[39]? = some (A 25, entf (mkV l L xs A D cA fm) (mu0 25) (1, 30, [])) := rfl
theorem c95_26 {l : Launch} {L : Nat} {xs : Nat → Int32} {D : va_G} {fm : Value} : (fl95 cA A r)[40]? = some (A 26, entf (mkV l L xs A D cA fm) (mu0 26) (1, 30, [])) := rfl
theorem c95_27 {l : Launch} {L : Nat} {xs : Nat → Int32} {D : va_G} {fm : Value} : (fl95 cA A r)[41]? = some (A 27, entf (mkV l L xs A D cA fm) (mu0 27) (1, 30, [])) := rfl
theorem c95_28 {l : Launch} {L : Nat} {xs : Nat → Int32} {D : va_G} {fm : Value} : (fl95 cA A r)[42]? = some (A 28, entf (mkV l L xs A D cA fm) (mu0 28) (1, 6, [])) := rfl
theorem c95_29 {l : Launch} {L : Nat} {xs : Nat → Int32} {D : va_G} {fm : Value} : (fl95 cA A r)[43]? = some (A 29, entf (mkV l L xs A D cA fm) (mu0 29) (1, 8, [])) := rfl
theorem c95_30 {l : Launch} {L : Nat} {xs : Nat → Int32} {D : va_G} {fm : Value} : (fl95 cA A r)[44]? = some (A 30, entf (mkV l L xs A D cA fm) (mu0 30) (1, 8, [])) := rfl
theorem c95_31 {l : Launch} {L : Nat} {xs : Nat → Int32} {D : va_G} {fm : Value} : (fl95 cA A r)[45]? = some (A 31, entf (mkV l L xs A D cA fm) (mu0 31) (0, 5, [none, some 32])) := by
  unfold entf
  simp only [List.mapIdx_cons, List.mapIdx_nil]
  rfl
theorem c95_32 {l : Launch} {L : Nat} {xs : Nat → Int32} {D : va_G} {fm : Value} : (fl95 cA A r)[46]? = some (A 32, entf (mkV l L xs A D cA fm) (mu0 32) (1, 96, [])) := rfl
theorem c95_33 {l : Launch} {L : Nat} {xs : Nat → Int32} {D : va_G} {fm : Value} : (fl95 cA A r)[47]? = some (A 33, entf (mkV l L xs A D cA fm) (mu0 33) (0, 2, [none, none, some 34, none, some 31, none, none, some 35, none, none, none, none])) := by
  unfold entf
  simp only [List.mapIdx_cons, List.mapIdx_nil]
  rfl
theorem c95_34 {l : Launch} {L : Nat} {xs : Nat → Int32} {D : va_G} {fm : Value} : (fl95 cA A r)[48]? = some (A 34, entf (mkV l L xs A D cA fm) (mu0 34) (1, 96, [])) := rfl
theorem c95_35 {l : Launch} {L : Nat} {xs : Nat → Int32} {D : va_G} {fm : Value} : (fl95 cA A r)[49]? = some (A 35, entf (mkV l L xs A D cA fm) (mu0 35) (1, 96, [])) := rfl
theorem c95_36 {l : Launch} {L : Nat} {xs : Nat → Int32} {D : va_G} {fm : Value} : (fl95 cA A r)[50]? = some (A 36, entf (mkV l L xs A D cA fm) (mu0 36) (2, 0, [some 53, some 54, some 55, some 56])) := by
  show some (A 36, (Sum.inl (cA 1, 4, .inr (.inr (.inr (.inr (va_up (va_up (va_up (va_up (fun _ => none) 0 (some (A 53))) 1 (some (A 54))) 2 (some (A 55))) 3 (some (A 56))))))) : va_E)) = _
  rw [sheets_f]; rfl
theorem c95_37 {l : Launch} {L : Nat} {xs : Nat → Int32} {D : va_G} {fm : Value} : (fl95 cA A r)[51]? = some (A 37, entf (mkV l L xs A D cA fm) (mu0 37) (3, 0, [some 61, some 62, some 63, some 64, some 65])) := by
  show some (A 37, (Sum.inl (cA 2, 5, .inr (.inr (.inr (.inr (va_up (va_up (va_up (va_up (va_up (fun _ => none) 0 (some (A 61))) 1 (some (A 62))) 2 (some (A 63))) 3 (some (A 64))) 4 (some (A 65))))))) : va_E)) = _
  rw [slots_f]; rfl
theorem c95_38 {l : Launch} {L : Nat} {xs : Nat → Int32} {D : va_G} {fm : Value} : (fl95 cA A r)[52]? = some (A 38, entf (mkV l L xs A D cA fm) (mu0 38) (1, 60, [])) := rfl
theorem c95_39 {l : Launch} {L : Nat} {xs : Nat → Int32} {D : va_G} {fm : Value} : (fl95 cA A r)[6]? = some (A 39, entf (mkV l L xs A D cA fm) (mu0 39) (1, 96, [])) := rfl
theorem c95_40 {l : Launch} {L : Nat} {xs : Nat → Int32} {D : va_G} {fm : Value} : (fl95 cA A r)[7]? = some (A 40, entf (mkV l L xs A D cA fm) (mu0 40) (1, 96, [])) := rfl
theorem c95_41 {l : Launch} {L : Nat} {xs : Nat → Int32} {D : va_G} {fm : Value} : (fl95 cA A r)[8]? = some (A 41, entf (mkV l L xs A D cA fm) (mu0 41) (1, 96, [])) := rfl
theorem c95_42 {l : Launch} {L : Nat} {xs : Nat → Int32} {D : va_G} {fm : Value} : (fl95 cA A r)[9]? = some (A 42, entf (mkV l L xs A D cA fm) (mu0 42) (1, 96, [])) := rfl
theorem c95_43 {l : Launch} {L : Nat} {xs : Nat → Int32} {D : va_G} {fm : Value} : (fl95 cA A r)[10]? = some (A 43, entf (mkV l L xs A D cA fm) (mu0 43) (1, 96, [])) := rfl
theorem c95_44 {l : Launch} {L : Nat} {xs : Nat → Int32} {D : va_G} {fm : Value} : (fl95 cA A r)[11]? = some (A 44, entf (mkV l L xs A D cA fm) (mu0 44) (1, 96, [])) := rfl
theorem c95_45 {l : Launch} {L : Nat} {xs : Nat → Int32} {D : va_G} {fm : Value} : (fl95 cA A r)[12]? = some (A 45, entf (mkV l L xs A D cA fm) (mu0 45) (1, 96, [])) := rfl
theorem c95_46 {l : Launch} {L : Nat} {xs : Nat → Int32} {D : va_G} {fm : Value} : (fl95 cA A r)[13]? = some (A 46, entf (mkV l L xs A D cA fm) (mu0 46) (1, 96, [])) := rfl
theorem c95_47 {l : Launch} {L : Nat} {xs : Nat → Int32} {D : va_G} {fm : Value} : (fl95 cA A r)[14]? = some (A 47, entf (mkV l L xs A D cA fm) (mu0 47) (1, 96, [])) := rfl
theorem c95_48 {l : Launch} {L : Nat} {xs : Nat → Int32} {D : va_G} {fm : Value} : (fl95 cA A r)[15]? = some (A 48, entf (mkV l L xs A D cA fm) (mu0 48) (1, 96, [])) := rfl
theorem c95_49 {l : Launch} {L : Nat} {xs : Nat → Int32} {D : va_G} {fm : Value} : (fl95 cA A r)[16]? = some (A 49, entf (mkV l L xs A D cA fm) (mu0 49) (1, 96, [])) := rfl
theorem c95_50 {l : Launch} {L : Nat} {xs : Nat → Int32} {D : va_G} {fm : Value} : (fl95 cA A r)[17]? = some (A 50, entf (mkV l L xs A D cA fm) (mu0 50) (1, 96, [])) := rfl
theorem c95_51 {l : Launch} {L : Nat} {xs : Nat → Int32} {D : va_G} {fm : Value} : (fl95 cA A r)[18]? = some (A 51, entf (mkV l L xs A D cA fm) (mu0 51) (1, 96, [])) := rfl
theorem c95_52 {l : Launch} {L : Nat} {xs : Nat → Int32} {D : va_G} {fm : Value} : (fl95 cA A r)[19]? = some (A 52, entf (mkV l L xs A D cA fm) (mu0 52) (1, 96, [])) := rfl
theorem c95_53 {l : Launch} {L : Nat} {xs : Nat → Int32} {D : va_G} {fm : Value} : (fl95 cA A r)[53]? = some (A 53, entf (mkV l L xs A D cA fm) (mu0 53) (0, 3, [none, none, some 57])) := by
  unfold entf
  simp only [List.mapIdx_cons, List.mapIdx_nil]
  rfl
theorem c95_54 {l : Launch} {L : Nat} {xs : Nat → Int32} {D : va_G} {fm : Value} : (fl95 cA A r)[55]? = some (A 54, entf (mkV l L xs A D cA fm) (mu0 54) (0, 3, [none, none, some 58])) := by
  unfold entf
  simp only [List.mapIdx_cons, List.mapIdx_nil]
  rfl
theorem c95_55 {l : Launch} {L : Nat} {xs : Nat → Int32} {D : va_G} {fm : Value} : (fl95 cA A r)[57]? = some (A 55, entf (mkV l L xs A D cA fm) (mu0 55) (0, 3, [none, none, some 59])) := by
  unfold entf
  simp only [List.mapIdx_cons, List.mapIdx_nil]
  rfl
theorem c95_56 {l : Launch} {L : Nat} {xs : Nat → Int32} {D : va_G} {fm : Value} : (fl95 cA A r)[59]? = some (A 56, entf (mkV l L xs A D cA fm) (mu0 56) (0, 3, [none, none, some 60])) := by
  unfold entf
  simp only [List.mapIdx_cons, List.mapIdx_nil]
  rfl
theorem c95_57 {l : Launch} {L : Nat} {xs : Nat → Int32} {D : va_G} {fm : Value} : (fl95 cA A r)[54]? = some (A 57, entf (mkV l L xs A D cA fm) (mu0 57) (1, 24, [])) := rfl
theorem c95_58 {l : Launch} {L : Nat} {xs : Nat → Int32} {D : va_G} {fm : Value} : (fl95 cA A r)[56]? = some (A 58, entf (mkV l L xs A D cA fm) (mu0 58) (1, 24, [])) := rfl
theorem c95_59 {l : Launch} {L : Nat} {xs : Nat → Int32} {D : va_G} {fm : Value} : (fl95 cA A r)[58]? = some (A 59, entf (mkV l L xs A D cA fm) (mu0 59) (1, 24, [])) := rfl
theorem c95_60 {l : Launch} {L : Nat} {xs : Nat → Int32} {D : va_G} {fm : Value} : (fl95 cA A r)[60]? = some (A 60, entf (mkV l L xs A D cA fm) (mu0 60) (1, 24, [])) := rfl
theorem c95_61 {l : Launch} {L : Nat} {xs : Nat → Int32} {D : va_G} {fm : Value} : (fl95 cA A r)[61]? = some (A 61, entf (mkV l L xs A D cA fm) (mu0 61) (0, 4, [none, none, none, none, some 66])) := by
  unfold entf
  simp only [List.mapIdx_cons, List.mapIdx_nil]
  rfl
theorem c95_62 {l : Launch} {L : Nat} {xs : Nat → Int32} {D : va_G} {fm : Value} : (fl95 cA A r)[64]? = some (A 62, entf (mkV l L xs A D cA fm) (mu0 62) (0, 4, [none, none, none, none, some 67])) := by
  unfold entf
  simp only [List.mapIdx_cons, List.mapIdx_nil]
  rfl
theorem c95_63 {l : Launch} {L : Nat} {xs : Nat → Int32} {D : va_G} {fm : Value} : (fl95 cA A r)[67]? = some (A 63, entf (mkV l L xs A D cA fm) (mu0 63) (0, 4, [none, none, none, none, some 68])) := by
  unfold entf
  simp only [List.mapIdx_cons, List.mapIdx_nil]
  rfl
theorem c95_64 {l : Launch} {L : Nat} {xs : Nat → Int32} {D : va_G} {fm : Value} : (fl95 cA A r)[70]? = some (A 64, entf (mkV l L xs A D cA fm) (mu0 64) (0, 4, [none, none, none, none, some 69])) := by
  unfold entf
  simp only [List.mapIdx_cons, List.mapIdx_nil]
  rfl
theorem c95_65 {l : Launch} {L : Nat} {xs : Nat → Int32} {D : va_G} {fm : Value} : (fl95 cA A r)[73]? = some (A 65, entf (mkV l L xs A D cA fm) (mu0 65) (0, 4, [none, none, none, none, some 70])) := by
  unfold entf
  simp only [List.mapIdx_cons, List.mapIdx_nil]
  rfl
theorem c95_66 {l : Launch} {L : Nat} {xs : Nat → Int32} {D : va_G} {fm : Value} : (fl95 cA A r)[62]? = some (A 66, entf (mkV l L xs A D cA fm) (mu0 66) (0, 3, [none, none, some 71])) := by
  unfold entf
  simp only [List.mapIdx_cons, List.mapIdx_nil]
  rfl
theorem c95_67 {l : Launch} {L : Nat} {xs : Nat → Int32} {D : va_G} {fm : Value} : (fl95 cA A r)[65]? = some (A 67, entf (mkV l L xs A D cA fm) (mu0 67) (0, 3, [none, none, some 72])) := by
  unfold entf
  simp only [List.mapIdx_cons, List.mapIdx_nil]
  rfl
theorem c95_68 {l : Launch} {L : Nat} {xs : Nat → Int32} {D : va_G} {fm : Value} : (fl95 cA A r)[68]? = some (A 68, entf (mkV l L xs A D cA fm) (mu0 68) (0, 3, [none, none, some 73])) := by
  unfold entf
  simp only [List.mapIdx_cons, List.mapIdx_nil]
  rfl
theorem c95_69 {l : Launch} {L : Nat} {xs : Nat → Int32} {D : va_G} {fm : Value} : (fl95 cA A r)[71]? = some (A 69, entf (mkV l L xs A D cA fm) (mu0 69) (0, 3, [none, none, some 74])) := by
  unfold entf
  simp only [List.mapIdx_cons, List.mapIdx_nil]
  rfl
theorem c95_70 {l : Launch} {L : Nat} {xs : Nat → Int32} {D : va_G} {fm : Value} : (fl95 cA A r)[74]? = some (A 70, entf (mkV l L xs A D cA fm) (mu0 70) (0, 3, [none, none, some 75])) := by
  unfold entf
  simp only [List.mapIdx_cons, List.mapIdx_nil]
  rfl
theorem c95_71 {l : Launch} {L : Nat} {xs : Nat → Int32} {D : va_G} {fm : Value} : (fl95 cA A r)[63]? = some (A 71, entf (mkV l L xs A D cA fm) (mu0 71) (1, 24, [])) := rfl
theorem c95_72 {l : Launch} {L : Nat} {xs : Nat → Int32} {D : va_G} {fm : Value} : (fl95 cA A r)[66]? = some (A 72, entf (mkV l L xs A D cA fm) (mu0 72) (1, 24, [])) := rfl
theorem c95_73 {l : Launch} {L : Nat} {xs : Nat → Int32} {D : va_G} {fm : Value} : (fl95 cA A r)[69]? = some (A 73, entf (mkV l L xs A D cA fm) (mu0 73) (1, 24, [])) := rfl
theorem c95_74 {l : Launch} {L : Nat} {xs : Nat → Int32} {D : va_G} {fm : Value} : (fl95 cA A r)[72]? = some (A 74, entf (mkV l L xs A D cA fm) (mu0 74) (1, 24, [])) := rfl
theorem c95_75 {l : Launch} {L : Nat} {xs : Nat → Int32} {D : va_G} {fm : Value} : (fl95 cA A r)[75]? = some (A 75, entf (mkV l L xs A D cA fm) (mu0 75) (1, 24, [])) := rfl
theorem c95_76 {l : Launch} {L : Nat} {xs : Nat → Int32} {D : va_G} {fm : Value} : (fl95 cA A r)[76]? = some (A 76, entf (mkV l L xs A D cA fm) (mu0 76) (0, 7, [some 77, some 78, some 79, none, some 80, some 81, some 82, some 83, some 84, some 85, some 86, some 87, some 88, some 89, none, none, none, none, none, none, none, none, none, none, none, some 90, some 91, some 92, some 93, none, some 94])) := by
  unfold entf
  simp only [List.mapIdx_cons, List.mapIdx_nil]
  rfl
theorem c95_77 {l : Launch} {L : Nat} {xs : Nat → Int32} {D : va_G} {fm : Value} : (fl95 cA A r)[77]? = some (A 77, entf (mkV l L xs A D cA fm) (mu0 77) (1, 3147, [])) := rfl
theorem c95_78 {l : Launch} {L : Nat} {xs : Nat → Int32} {D : va_G} {fm : Value} : (fl95 cA A r)[78]? = some (A 78, entf (mkV l L xs A D cA fm) (mu0 78) (1, 3147, [])) := rfl
theorem c95_79 {l : Launch} {L : Nat} {xs : Nat → Int32} {D : va_G} {fm : Value} : (fl95 cA A r)[79]? = some (A 79, entf (mkV l L xs A D cA fm) (mu0 79) (1, 3147, [])) := rfl
theorem c95_80 {l : Launch} {L : Nat} {xs : Nat → Int32} {D : va_G} {fm : Value} : (fl95 cA A r)[80]? = some (A 80, entf (mkV l L xs A D cA fm) (mu0 80) (1, 4, [])) := rfl
theorem c95_81 {l : Launch} {L : Nat} {xs : Nat → Int32} {D : va_G} {fm : Value} : (fl95 cA A r)[81]? = some (A 81, entf (mkV l L xs A D cA fm) (mu0 81) (1, 4, [])) := rfl
theorem c95_82 {l : Launch} {L : Nat} {xs : Nat → Int32} {D : va_G} {fm : Value} : (fl95 cA A r)[82]? = some (A 82, entf (mkV l L xs A D cA fm) (mu0 82) (1, 96, [])) := rfl
theorem c95_83 {l : Launch} {L : Nat} {xs : Nat → Int32} {D : va_G} {fm : Value} : (fl95 cA A r)[83]? = some (A 83, entf (mkV l L xs A D cA fm) (mu0 83) (1, 5, [])) := rfl
theorem c95_84 {l : Launch} {L : Nat} {xs : Nat → Int32} {D : va_G} {fm : Value} : (fl95 cA A r)[84]? = some (A 84, entf (mkV l L xs A D cA fm) (mu0 84) (1, 5, [])) := rfl
theorem c95_85 {l : Launch} {L : Nat} {xs : Nat → Int32} {D : va_G} {fm : Value} : (fl95 cA A r)[85]? = some (A 85, entf (mkV l L xs A D cA fm) (mu0 85) (1, 5, [])) := rfl
theorem c95_86 {l : Launch} {L : Nat} {xs : Nat → Int32} {D : va_G} {fm : Value} : (fl95 cA A r)[86]? = some (A 86, entf (mkV l L xs A D cA fm) (mu0 86) (1, 5, [])) := rfl
theorem c95_87 {l : Launch} {L : Nat} {xs : Nat → Int32} {D : va_G} {fm : Value} : (fl95 cA A r)[87]? = some (A 87, entf (mkV l L xs A D cA fm) (mu0 87) (1, 120, [])) := rfl
theorem c95_88 {l : Launch} {L : Nat} {xs : Nat → Int32} {D : va_G} {fm : Value} : (fl95 cA A r)[88]? = some (A 88, entf (mkV l L xs A D cA fm) (mu0 88) (1, 8, [])) := rfl
theorem c95_89 {l : Launch} {L : Nat} {xs : Nat → Int32} {D : va_G} {fm : Value} : (fl95 cA A r)[89]? = some (A 89, entf (mkV l L xs A D cA fm) (mu0 89) (1, 96, [])) := rfl
theorem c95_90 {l : Launch} {L : Nat} {xs : Nat → Int32} {D : va_G} {fm : Value} : (fl95 cA A r)[90]? = some (A 90, entf (mkV l L xs A D cA fm) (mu0 90) (1, 128, [])) := rfl
theorem c95_91 {l : Launch} {L : Nat} {xs : Nat → Int32} {D : va_G} {fm : Value} : (fl95 cA A r)[91]? = some (A 91, entf (mkV l L xs A D cA fm) (mu0 91) (1, 100, [])) := rfl
theorem c95_92 {l : Launch} {L : Nat} {xs : Nat → Int32} {D : va_G} {fm : Value} : (fl95 cA A r)[92]? = some (A 92, entf (mkV l L xs A D cA fm) (mu0 92) (1, 24, [])) := rfl
theorem c95_93 {l : Launch} {L : Nat} {xs : Nat → Int32} {D : va_G} {fm : Value} : (fl95 cA A r)[93]? = some (A 93, entf (mkV l L xs A D cA fm) (mu0 93) (1, 60, [])) := rfl
theorem c95_94 {l : Launch} {L : Nat} {xs : Nat → Int32} {D : va_G} {fm : Value} : (fl95 cA A r)[94]? = some (A 94, entf (mkV l L xs A D cA fm) (mu0 94) (1, 60, [])) := rfl
def pos95 (k : Nat) : Nat := [0, 1, 2, 3, 4, 5, 20, 21, 22, 23, 24, 25, 26, 27, 28, 29, 30, 31, 32, 33, 34, 35, 36, 37, 38, 39, 40, 41, 42, 43, 44, 45, 46, 47, 48, 49, 50, 51, 52, 6, 7, 8, 9, 10, 11, 12, 13, 14, 15, 16, 17, 18, 19, 53, 55, 57, 59, 54, 56, 58, 60, 61, 64, 67, 70, 73, 62, 65, 68, 71, 74, 63, 66, 69, 72, 75, 76, 77, 78, 79, 80, 81, 82, 83, 84, 85, 86, 87, 88, 89, 90, 91, 92, 93, 94].getD k 0
theorem cel95 (hr : ∀ i, i < 14 → A (39 + i) = r i) : ∀ (k : Nat) (q : Nat × va_E), (cel (mkV l L xs A D cA fm) mu0)[k]? = some q → (fl95 cA A r)[pos95 k]? = some q := by
  intro k q hk
  have hlt : k < 95 := by
    have := (List.getElem?_eq_some_iff.mp hk).1
    rw [cel_len] at this
    exact this
  match k, hk, hlt with
  | 0, hk, _ => rw [cel_get (mkV l L xs A D cA fm) mu0 (i := 0) rfl] at hk; rw [← hk]; exact c95_0
  | 1, hk, _ => rw [cel_get (mkV l L xs A D cA fm) mu0 (i := 1) rfl] at hk; rw [← hk]; exact c95_1
  | 2, hk, _ => rw [cel_get (mkV l L xs A D cA fm) mu0 (i := 2) rfl] at hk; rw [← hk]; exact c95_2
  | 3, hk, _ => rw [cel_get (mkV l L xs A D cA fm) mu0 (i := 3) rfl] at hk; rw [← hk]; exact c95_3
  | 4, hk, _ => rw [cel_get (mkV l L xs A D cA fm) mu0 (i := 4) rfl] at hk; rw [← hk]; exact c95_4
  | 5, hk, _ => rw [cel_get (mkV l L xs A D cA fm) mu0 (i := 5) rfl] at hk; rw [← hk]; exact c95_5 hr
  | 6, hk, _ => rw [cel_get (mkV l L xs A D cA fm) mu0 (i := 6) rfl] at hk; rw [← hk]; exact c95_6
  | 7, hk, _ => rw [cel_get (mkV l L xs A D cA fm) mu0 (i := 7) rfl] at hk; rw [← hk]; exact c95_7
  | 8, hk, _ => rw [cel_get (mkV l L xs A D cA fm) mu0 (i := 8) rfl] at hk; rw [← hk]; exact c95_8
  | 9, hk, _ => rw [cel_get (mkV l L xs A D cA fm) mu0 (i := 9) rfl] at hk; rw [← hk]; exact c95_9
  | 10, hk, _ => rw [cel_get (mkV l L xs A D cA fm) mu0 (i := 10) rfl] at hk; rw [← hk]; exact c95_10
  | 11, hk, _ => rw [cel_get (mkV l L xs A D cA fm) mu0 (i := 11) rfl] at hk; rw [← hk]; exact c95_11
  | 12, hk, _ => rw [cel_get (mkV l L xs A D cA fm) mu0 (i := 12) rfl] at hk; rw [← hk]; exact c95_12
  | 13, hk, _ => rw [cel_get (mkV l L xs A D cA fm) mu0 (i := 13) rfl] at hk; rw [← hk]; exact c95_13
  | 14, hk, _ => rw [cel_get (mkV l L xs A D cA fm) mu0 (i := 14) rfl] at hk; rw [← hk]; exact c95_14
  | 15, hk, _ => rw [cel_get (mkV l L xs A D cA fm) mu0 (i := 15) rfl] at hk; rw [← hk]; exact c95_15
  | 16, hk, _ => rw [cel_get (mkV l L xs A D cA fm) mu0 (i := 16) rfl] at hk; rw [← hk]; exact c95_16
  | 17, hk, _ => rw [cel_get (mkV l L xs A D cA fm) mu0 (i := 17) rfl] at hk; rw [← hk]; exact c95_17
  | 18, hk, _ => rw [cel_get (mkV l L xs A D cA fm) mu0 (i := 18) rfl] at hk; rw [← hk]; exact c95_18
  | 19, hk, _ => rw [cel_get (mkV l L xs A D cA fm) mu0 (i := 19) rfl] at hk; rw [← hk]; exact c95_19
  | 20, hk, _ => rw [cel_get (mkV l L xs A D cA fm) mu0 (i := 20) rfl] at hk; rw [← hk]; exact c95_20
  | 21, hk, _ => rw [cel_get (mkV l L xs A D cA fm) mu0 (i := 21) rfl] at hk; rw [← hk]; exact c95_21
  | 22, hk, _ => rw [cel_get (mkV l L xs A D cA fm) mu0 (i := 22) rfl] at hk; rw [← hk]; exact c95_22
  | 23, hk, _ => rw [cel_get (mkV l L xs A D cA fm) mu0 (i := 23) rfl] at hk; rw [← hk]; exact c95_23
  | 24, hk, _ => rw [cel_get (mkV l L xs A D cA fm) mu0 (i := 24) rfl] at hk; rw [← hk]; exact c95_24
  | 25, hk, _ => rw [cel_get (mkV l L xs A D cA fm) mu0 (i := 25) rfl] at hk; rw [← hk]; exact c95_25
  | 26, hk, _ => rw [cel_get (mkV l L xs A D cA fm) mu0 (i := 26) rfl] at hk; rw [← hk]; exact c95_26
  | 27, hk, _ => rw [cel_get (mkV l L xs A D cA fm) mu0 (i := 27) rfl] at hk; rw [← hk]; exact c95_27
  | 28, hk, _ => rw [cel_get (mkV l L xs A D cA fm) mu0 (i := 28) rfl] at hk; rw [← hk]; exact c95_28
  | 29, hk, _ => rw [cel_get (mkV l L xs A D cA fm) mu0 (i := 29) rfl] at hk; rw [← hk]; exact c95_29
  | 30, hk, _ => rw [cel_get (mkV l L xs A D cA fm) mu0 (i := 30) rfl] at hk; rw [← hk]; exact c95_30
  | 31, hk, _ => rw [cel_get (mkV l L xs A D cA fm) mu0 (i := 31) rfl] at hk; rw [← hk]; exact c95_31
  | 32, hk, _ => rw [cel_get (mkV l L xs A D cA fm) mu0 (i := 32) rfl] at hk; rw [← hk]; exact c95_32
  | 33, hk, _ => rw [cel_get (mkV l L xs A D cA fm) mu0 (i := 33) rfl] at hk; rw [← hk]; exact c95_33
  | 34, hk, _ => rw [cel_get (mkV l L xs A D cA fm) mu0 (i := 34) rfl] at hk; rw [← hk]; exact c95_34
  | 35, hk, _ => rw [cel_get (mkV l L xs A D cA fm) mu0 (i := 35) rfl] at hk; rw [← hk]; exact c95_35
  | 36, hk, _ => rw [cel_get (mkV l L xs A D cA fm) mu0 (i := 36) rfl] at hk; rw [← hk]; exact c95_36
  | 37, hk, _ => rw [cel_get (mkV l L xs A D cA fm) mu0 (i := 37) rfl] at hk; rw [← hk]; exact c95_37
  | 38, hk, _ => rw [cel_get (mkV l L xs A D cA fm) mu0 (i := 38) rfl] at hk; rw [← hk]; exact c95_38
  | 39, hk, _ => rw [cel_get (mkV l L xs A D cA fm) mu0 (i := 39) rfl] at hk; rw [← hk]; exact c95_39
  | 40, hk, _ => rw [cel_get (mkV l L xs A D cA fm) mu0 (i := 40) rfl] at hk; rw [← hk]; exact c95_40
  | 41, hk, _ => rw [cel_get (mkV l L xs A D cA fm) mu0 (i := 41) rfl] at hk; rw [← hk]; exact c95_41
  | 42, hk, _ => rw [cel_get (mkV l L xs A D cA fm) mu0 (i := 42) rfl] at hk; rw [← hk]; exact c95_42
  | 43, hk, _ => rw [cel_get (mkV l L xs A D cA fm) mu0 (i := 43) rfl] at hk; rw [← hk]; exact c95_43
  | 44, hk, _ => rw [cel_get (mkV l L xs A D cA fm) mu0 (i := 44) rfl] at hk; rw [← hk]; exact c95_44
  | 45, hk, _ => rw [cel_get (mkV l L xs A D cA fm) mu0 (i := 45) rfl] at hk; rw [← hk]; exact c95_45
  | 46, hk, _ => rw [cel_get (mkV l L xs A D cA fm) mu0 (i := 46) rfl] at hk; rw [← hk]; exact c95_46
  | 47, hk, _ => rw [cel_get (mkV l L xs A D cA fm) mu0 (i := 47) rfl] at hk; rw [← hk]; exact c95_47
  | 48, hk, _ => rw [cel_get (mkV l L xs A D cA fm) mu0 (i := 48) rfl] at hk; rw [← hk]; exact c95_48
  | 49, hk, _ => rw [cel_get (mkV l L xs A D cA fm) mu0 (i := 49) rfl] at hk; rw [← hk]; exact c95_49
  | 50, hk, _ => rw [cel_get (mkV l L xs A D cA fm) mu0 (i := 50) rfl] at hk; rw [← hk]; exact c95_50
  | 51, hk, _ => rw [cel_get (mkV l L xs A D cA fm) mu0 (i := 51) rfl] at hk; rw [← hk]; exact c95_51
  | 52, hk, _ => rw [cel_get (mkV l L xs A D cA fm) mu0 (i := 52) rfl] at hk; rw [← hk]; exact c95_52
  | 53, hk, _ => rw [cel_get (mkV l L xs A D cA fm) mu0 (i := 53) rfl] at hk; rw [← hk]; exact c95_53
  | 54, hk, _ => rw [cel_get (mkV l L xs A D cA fm) mu0 (i := 54) rfl] at hk; rw [← hk]; exact c95_54
  | 55, hk, _ => rw [cel_get (mkV l L xs A D cA fm) mu0 (i := 55) rfl] at hk; rw [← hk]; exact c95_55
  | 56, hk, _ => rw [cel_get (mkV l L xs A D cA fm) mu0 (i := 56) rfl] at hk; rw [← hk]; exact c95_56
  | 57, hk, _ => rw [cel_get (mkV l L xs A D cA fm) mu0 (i := 57) rfl] at hk; rw [← hk]; exact c95_57
  | 58, hk, _ => rw [cel_get (mkV l L xs A D cA fm) mu0 (i := 58) rfl] at hk; rw [← hk]; exact c95_58
  | 59, hk, _ => rw [cel_get (mkV l L xs A D cA fm) mu0 (i := 59) rfl] at hk; rw [← hk]; exact c95_59
  | 60, hk, _ => rw [cel_get (mkV l L xs A D cA fm) mu0 (i := 60) rfl] at hk; rw [← hk]; exact c95_60
  | 61, hk, _ => rw [cel_get (mkV l L xs A D cA fm) mu0 (i := 61) rfl] at hk; rw [← hk]; exact c95_61
  | 62, hk, _ => rw [cel_get (mkV l L xs A D cA fm) mu0 (i := 62) rfl] at hk; rw [← hk]; exact c95_62
  | 63, hk, _ => rw [cel_get (mkV l L xs A D cA fm) mu0 (i := 63) rfl] at hk; rw [← hk]; exact c95_63
  | 64, hk, _ => rw [cel_get (mkV l L xs A D cA fm) mu0 (i := 64) rfl] at hk; rw [← hk]; exact c95_64
  | 65, hk, _ => rw [cel_get (mkV l L xs A D cA fm) mu0 (i := 65) rfl] at hk; rw [← hk]; exact c95_65
  | 66, hk, _ => rw [cel_get (mkV l L xs A D cA fm) mu0 (i := 66) rfl] at hk; rw [← hk]; exact c95_66
  | 67, hk, _ => rw [cel_get (mkV l L xs A D cA fm) mu0 (i := 67) rfl] at hk; rw [← hk]; exact c95_67
  | 68, hk, _ => rw [cel_get (mkV l L xs A D cA fm) mu0 (i := 68) rfl] at hk; rw [← hk]; exact c95_68
  | 69, hk, _ => rw [cel_get (mkV l L xs A D cA fm) mu0 (i := 69) rfl] at hk; rw [← hk]; exact c95_69
  | 70, hk, _ => rw [cel_get (mkV l L xs A D cA fm) mu0 (i := 70) rfl] at hk; rw [← hk]; exact c95_70
  | 71, hk, _ => rw [cel_get (mkV l L xs A D cA fm) mu0 (i := 71) rfl] at hk; rw [← hk]; exact c95_71
  | 72, hk, _ => rw [cel_get (mkV l L xs A D cA fm) mu0 (i := 72) rfl] at hk; rw [← hk]; exact c95_72
  | 73, hk, _ => rw [cel_get (mkV l L xs A D cA fm) mu0 (i := 73) rfl] at hk; rw [← hk]; exact c95_73
  | 74, hk, _ => rw [cel_get (mkV l L xs A D cA fm) mu0 (i := 74) rfl] at hk; rw [← hk]; exact c95_74
  | 75, hk, _ => rw [cel_get (mkV l L xs A D cA fm) mu0 (i := 75) rfl] at hk; rw [← hk]; exact c95_75
  | 76, hk, _ => rw [cel_get (mkV l L xs A D cA fm) mu0 (i := 76) rfl] at hk; rw [← hk]; exact c95_76
  | 77, hk, _ => rw [cel_get (mkV l L xs A D cA fm) mu0 (i := 77) rfl] at hk; rw [← hk]; exact c95_77
  | 78, hk, _ => rw [cel_get (mkV l L xs A D cA fm) mu0 (i := 78) rfl] at hk; rw [← hk]; exact c95_78
  | 79, hk, _ => rw [cel_get (mkV l L xs A D cA fm) mu0 (i := 79) rfl] at hk; rw [← hk]; exact c95_79
  | 80, hk, _ => rw [cel_get (mkV l L xs A D cA fm) mu0 (i := 80) rfl] at hk; rw [← hk]; exact c95_80
  | 81, hk, _ => rw [cel_get (mkV l L xs A D cA fm) mu0 (i := 81) rfl] at hk; rw [← hk]; exact c95_81
  | 82, hk, _ => rw [cel_get (mkV l L xs A D cA fm) mu0 (i := 82) rfl] at hk; rw [← hk]; exact c95_82
  | 83, hk, _ => rw [cel_get (mkV l L xs A D cA fm) mu0 (i := 83) rfl] at hk; rw [← hk]; exact c95_83
  | 84, hk, _ => rw [cel_get (mkV l L xs A D cA fm) mu0 (i := 84) rfl] at hk; rw [← hk]; exact c95_84
  | 85, hk, _ => rw [cel_get (mkV l L xs A D cA fm) mu0 (i := 85) rfl] at hk; rw [← hk]; exact c95_85
  | 86, hk, _ => rw [cel_get (mkV l L xs A D cA fm) mu0 (i := 86) rfl] at hk; rw [← hk]; exact c95_86
  | 87, hk, _ => rw [cel_get (mkV l L xs A D cA fm) mu0 (i := 87) rfl] at hk; rw [← hk]; exact c95_87
  | 88, hk, _ => rw [cel_get (mkV l L xs A D cA fm) mu0 (i := 88) rfl] at hk; rw [← hk]; exact c95_88
  | 89, hk, _ => rw [cel_get (mkV l L xs A D cA fm) mu0 (i := 89) rfl] at hk; rw [← hk]; exact c95_89
  | 90, hk, _ => rw [cel_get (mkV l L xs A D cA fm) mu0 (i := 90) rfl] at hk; rw [← hk]; exact c95_90
  | 91, hk, _ => rw [cel_get (mkV l L xs A D cA fm) mu0 (i := 91) rfl] at hk; rw [← hk]; exact c95_91
  | 92, hk, _ => rw [cel_get (mkV l L xs A D cA fm) mu0 (i := 92) rfl] at hk; rw [← hk]; exact c95_92
  | 93, hk, _ => rw [cel_get (mkV l L xs A D cA fm) mu0 (i := 93) rfl] at hk; rw [← hk]; exact c95_93
  | 94, hk, _ => rw [cel_get (mkV l L xs A D cA fm) mu0 (i := 94) rfl] at hk; rw [← hk]; exact c95_94
  | k + 95, _, h => exact absurd h (by omega)
theorem pos95_inj : ∀ i, i < 95 → ∀ j, j < 95 → pos95 i = pos95 j → i = j := by decide +kernel
end F95
