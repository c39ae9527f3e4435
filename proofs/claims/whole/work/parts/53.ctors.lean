abbrev mX1_init : Mthd := (yX1_init, cX1_init, 2, none)
theorem okX1_init : MthOK mX1_init 1 := ⟨T0_at 62 (by decide +kernel) (by decide +kernel), T0_at 3 (by decide +kernel) (by decide +kernel), (by decide +kernel), (by decide +kernel), by decide, by decide⟩
theorem inX1_init : Cond.instanceMethod yX1_init ∈ T0 := T0_at 61 (by decide +kernel) (by decide +kernel)
abbrev mX3_init : Mthd := (yX3_init, cX3_init, 1, none)
theorem okX3_init : MthOK mX3_init 0 := ⟨T0_at 32 (by decide +kernel) (by decide +kernel), T0_at 2 (by decide +kernel) (by decide +kernel), (by decide +kernel), (by decide +kernel), by decide, by decide⟩
theorem inX3_init : Cond.instanceMethod yX3_init ∈ T0 := T0_at 31 (by decide +kernel) (by decide +kernel)
abbrev mX4_init : Mthd := (yX4_init, cX4_init, 2, none)
theorem okX4_init : MthOK mX4_init 1 := ⟨T0_at 139 (by decide +kernel) (by decide +kernel), T0_at 6 (by decide +kernel) (by decide +kernel), (by decide +kernel), (by decide +kernel), by decide, by decide⟩
theorem inX4_init : Cond.instanceMethod yX4_init ∈ T0 := T0_at 138 (by decide +kernel) (by decide +kernel)
abbrev mX5_init : Mthd := (yX5_init, cX5_init, 1, none)
theorem okX5_init : MthOK mX5_init 0 := ⟨T0_at 189 (by decide +kernel) (by decide +kernel), T0_at 7 (by decide +kernel) (by decide +kernel), (by decide +kernel), (by decide +kernel), by decide, by decide⟩
theorem inX5_init : Cond.instanceMethod yX5_init ∈ T0 := T0_at 188 (by decide +kernel) (by decide +kernel)
abbrev mX6_init : Mthd := (yX6_init, cX6_init, 1, none)
theorem okX6_init : MthOK mX6_init 0 := ⟨T0_at 208 (by decide +kernel) (by decide +kernel), T0_at 8 (by decide +kernel) (by decide +kernel), (by decide +kernel), (by decide +kernel), by decide, by decide⟩
theorem inX6_init : Cond.instanceMethod yX6_init ∈ T0 := T0_at 207 (by decide +kernel) (by decide +kernel)
abbrev mX7_init : Mthd := (yX7_init, cX7_init, 1, none)
theorem okX7_init : MthOK mX7_init 0 := ⟨T0_at 124 (by decide +kernel) (by decide +kernel), T0_at 5 (by decide +kernel) (by decide +kernel), (by decide +kernel), (by decide +kernel), by decide, by decide⟩
theorem inX7_init : Cond.instanceMethod yX7_init ∈ T0 := T0_at 123 (by decide +kernel) (by decide +kernel)
abbrev mX8_init : Mthd := (yX8_init, cX8_init, 2, none)
theorem okX8_init : MthOK mX8_init 0 := ⟨T0_at 24 (by decide +kernel) (by decide +kernel), T0_at 1 (by decide +kernel) (by decide +kernel), (by decide +kernel), (by decide +kernel), by decide, by decide⟩
theorem inX8_init : Cond.instanceMethod yX8_init ∈ T0 := T0_at 23 (by decide +kernel) (by decide +kernel)
abbrev mX9_init : Mthd := (yX9_init, cX9_init, 2, none)
theorem okX9_init : MthOK mX9_init 0 := ⟨T0_at 908 (by decide +kernel) (by decide +kernel), T0_at 9 (by decide +kernel) (by decide +kernel), (by decide +kernel), (by decide +kernel), by decide, by decide⟩
theorem inX9_init : Cond.instanceMethod yX9_init ∈ T0 := T0_at 907 (by decide +kernel) (by decide +kernel)
theorem upd_lt (f : Nat → Int32) (v : Int32) (i : Nat) : upd (fun j => if j < i then v else f j) i v = (fun j => if j < i + 1 then v else f j) := by
  funext j
  unfold upd
  by_cases e : j = i
  · rw [if_pos e, if_pos (by omega)]
  · rw [if_neg e]
    show (if j < i then v else f j) = _
    by_cases h : j < i
    · rw [if_pos h, if_pos (by omega)]
    · rw [if_neg h, if_neg (by omega)]
theorem k_fill_lp {E : Ec} {d : Nat} {ws : va_W} {k a n : Nat} {v : Int32} {f : Nat → Int32} (hw : k < ws.length) (hn : n < 1000) : ∀ (q i : Nat), i + q = n → Gc E d 0 0 mJ7_fill_53178 5 [some (vR a), some (vI v), some (vI (nI i)), some (vI (nI n))] [] (ws.set k (a, .inl (E.2.2 0, n, .inl (fun j => if j < i then v else f j)))) 0 0 (fun w => w = ws.set k (a, .inl (E.2.2 0, n, .inl (fun j => if j < n then v else f j))))
  | 0, i, hq => by
    have hi : i = n := by omega
    subst hi
    refine Gc.iload_n dJ7_fill_53178_5 rfl ?_
    refine Gc.iload_n dJ7_fill_53178_6 rfl ?_
    refine Gc.icmp_ge (tgt := 20) dJ7_fill_53178_7 (by decide) (fun _ => ?_) (fun z => absurd (by rw [sI_le]; exact Int.le_refl _) z)
    exact Gc.ret dJ7_fill_53178_20 rfl rfl rfl
  | q + 1, i, hq => by
    refine Gc.iload_n dJ7_fill_53178_5 rfl ?_
    refine Gc.iload_n dJ7_fill_53178_6 rfl ?_
    refine Gc.icmp_ge (tgt := 20) dJ7_fill_53178_7 (by decide) (fun z => absurd z (by rw [sI_le, nT, nT]; omega)) (fun _ => ?_)
    refine Gc.aload_n dJ7_fill_53178_10 rfl ?_
    refine Gc.iload_n dJ7_fill_53178_11 rfl ?_
    refine Gc.iload_n dJ7_fill_53178_12 rfl ?_
    refine Gc.iastore k i dJ7_fill_53178_13 (List.getElem?_set_self hw) (by omega) (by omega) rfl ?_
    refine Gc.eqw (List.set_set _) ?_
    rw [upd_lt]
    refine Gc.iinc (v := nI (i + 1)) (ls' := [some (vR a), some (vI v), some (vI (nI (i + 1))), some (vI (nI n))]) dJ7_fill_53178_14 rfl (nI_add _ _) (by decide) rfl ?_
    refine Gc.goto (tgt := 5) dJ7_fill_53178_17 (by decide) ?_
    exact k_fill_lp hw hn q (i + 1) (by omega)
theorem k_fill {E : Ec} {d : Nat} {ws : va_W} {k a n : Nat} {v : Int32} {f : Nat → Int32} (h : ws[k]? = some (a, .inl (E.2.2 0, n, .inl f))) (hn : n < 1000) : Gc E d 0 0 mJ7_fill_53178 0 (entF mJ7_fill_53178 [vR a, vI v]) [] ws 0 0 (fun w => w = ws.set k (a, .inl (E.2.2 0, n, .inl (fun j => if j < n then v else f j)))) := by
  have hw : k < ws.length := (List.getElem?_eq_some_iff.mp h).1
  show Gc E d 0 0 mJ7_fill_53178 0 [some (vR a), some (vI v), none, none] [] ws 0 0 _
  refine Gc.iconst (v := nI 0) dJ7_fill_53178_0 rfl ?_
  refine Gc.istore_n (ls' := [some (vR a), some (vI v), some (vI (nI 0)), none]) dJ7_fill_53178_1 (by decide) rfl ?_
  refine Gc.aload_n dJ7_fill_53178_2 rfl ?_
  refine Gc.alen k dJ7_fill_53178_3 h ?_
  refine Gc.istore_n (ls' := [some (vR a), some (vI v), some (vI (nI 0)), some (vI (nI n))]) dJ7_fill_53178_4 (by decide) rfl ?_
  have e : ws = ws.set k (a, .inl (E.2.2 0, n, .inl (fun j => if j < 0 then v else f j))) := by
    have e0 : (fun j => if j < 0 then v else f j) = f := by funext j; rw [if_neg (by omega)]
    rw [e0]
    have := Wd.init h
    unfold Wd at this
    rw [List.append_nil] at this
    exact this
  refine Gc.eqw e ?_
  exact k_fill_lp hw hn n 0 (by omega)
theorem k_X7 {E : Ec} {d : Nat} {ws : va_W} {k a : Nat} (h : ws[k]? = some (a, .inr (5, [.int 0, .null]))) : Gc E (d + 1) 1 96 mX7_init 0 (entF mX7_init [vR a]) [] ws 0 0 (fun w => ∃ q0, w = Wd ws k (a, .inr (5, [.int 0, .ref q0])) [(q0, .inl (E.2.2 0, 96, .inl (fun _ => 0)))]) := by
  have hw : k < ws.length := (List.getElem?_eq_some_iff.mp h).1
  show Gc E (d + 1) 1 96 mX7_init 0 [some (vR a)] [] ws 0 0 _
  refine Gc.eqw (Wd.init h) ?_
  refine Gc.aload_n dX7_init_0 rfl ?_
  refine Gc.obj dX7_init_1 (T0_at 125 (by decide +kernel) (by decide +kernel)) tObj tObjC (by omega) ?_
  refine Gc.aload_n dX7_init_4 rfl ?_
  refine Gc.bipush (v := nI 96) dX7_init_5 rfl ?_
  refine Gc.newiW (N := 96) dX7_init_7 rfl (Nat.le_of_ble_eq_true rfl) (Nat.le_of_ble_eq_true rfl) (Nat.le_of_ble_eq_true rfl) tI (fun q0 => ?_)
  refine Gc.at 9 rfl ?_
  refine Gc.putFW hw dX7_init_9 flX7_9 rfl rfl rfl rfl rfl (Nat.le_of_ble_eq_true rfl) ?_
  refine Gc.ret dX7_init_12 rfl rfl ?_
  exact ⟨q0, rfl⟩
theorem k_X5 {E : Ec} {d : Nat} {ws : va_W} {k a : Nat} (h : ws[k]? = some (a, .inr (3, [.int 0, .int 0, .null]))) : Gc E (d + 1) 1 24 mX5_init 0 (entF mX5_init [vR a]) [] ws 0 0 (fun w => ∃ q0, w = Wd ws k (a, .inr (3, [.int (-1), .int 0, .ref q0])) [(q0, .inl (E.2.2 0, 24, .inl (fun _ => 0)))]) := by
  have hw : k < ws.length := (List.getElem?_eq_some_iff.mp h).1
  show Gc E (d + 1) 1 24 mX5_init 0 [some (vR a)] [] ws 0 0 _
  refine Gc.eqw (Wd.init h) ?_
  refine Gc.aload_n dX5_init_0 rfl ?_
  refine Gc.obj dX5_init_1 (T0_at 190 (by decide +kernel) (by decide +kernel)) tObj tObjC (by omega) ?_
  refine Gc.aload_n dX5_init_4 rfl ?_
  refine Gc.iconst (v := (-1)) dX5_init_5 rfl ?_
  refine Gc.putW hw dX5_init_6 flX5_9 rfl rfl rfl (Nat.le_of_ble_eq_true rfl) ?_
  refine Gc.at 9 rfl ?_
  refine Gc.aload_n dX5_init_9 rfl ?_
  refine Gc.bipush (v := nI 24) dX5_init_10 rfl ?_
  refine Gc.newiW (N := 24) dX5_init_12 rfl (Nat.le_of_ble_eq_true rfl) (Nat.le_of_ble_eq_true rfl) (Nat.le_of_ble_eq_true rfl) tI (fun q0 => ?_)
  refine Gc.putFW hw dX5_init_14 flX5_15 rfl rfl rfl rfl rfl (Nat.le_of_ble_eq_true rfl) ?_
  refine Gc.ret dX5_init_17 rfl rfl ?_
  exact ⟨q0, rfl⟩
theorem k_X6 {E : Ec} {d : Nat} {ws : va_W} {k a : Nat} (h : ws[k]? = some (a, .inr (4, [.int 0, .int 0, .int 0, .int 0, .null]))) : Gc E (d + 2) 2 27 mX6_init 0 (entF mX6_init [vR a]) [] ws 0 0 (fun w => ∃ q0 q1, w = Wd ws k (a, .inr (4, [.int 0, .int 0, .int 0, .int 0, .ref q0])) [(q0, .inr (3, [.int (-1), .int 0, .ref q1])), (q1, .inl (E.2.2 0, 24, .inl (fun _ => 0)))]) := by
  have hw : k < ws.length := (List.getElem?_eq_some_iff.mp h).1
  show Gc E (d + 2) 2 27 mX6_init 0 [some (vR a)] [] ws 0 0 _
  refine Gc.eqw (Wd.init h) ?_
  refine Gc.aload_n dX6_init_0 rfl ?_
  refine Gc.obj dX6_init_1 (T0_at 209 (by decide +kernel) (by decide +kernel)) tObj tObjC (by omega) ?_
  refine Gc.aload_n dX6_init_4 rfl ?_
  refine Gc.iconst (v := nI 0) dX6_init_5 rfl ?_
  refine Gc.putW hw dX6_init_6 flX6_9 rfl rfl rfl (Nat.le_of_ble_eq_true rfl) ?_
  refine Gc.at 9 rfl ?_
  refine Gc.aload_n dX6_init_9 rfl ?_
  refine Gc.newW (ci := 3) (N := 3) (fs := [.int 0, .int 0, .null]) dX6_init_10 (by decide) rfl (T0_at 210 (by decide +kernel) (by decide +kernel)) (T0_at 186 (by decide +kernel) (by decide +kernel)) (T0_at 7 (by decide +kernel) (by decide +kernel)) (by decide) (Nat.le_of_ble_eq_true rfl) (Nat.le_of_ble_eq_true rfl) (fun q0 => ?_)
  refine Gc.dupR dX6_init_13 ?_
  refine Gc.ctorN (M' := mX5_init) (mc' := 1) (ms' := 24) [] [vR q0, vR a] dX6_init_14 (fun _ h => h.2.2.2.2.2) inX5_init rfl okX5_init rfl rfl (Nat.le_of_ble_eq_true rfl) rfl (Nat.le_of_ble_eq_true rfl) (Nat.le_of_ble_eq_true rfl) (Nat.le_of_ble_eq_true rfl) (Gc.mono (k_X5 ((Wd.getl 0).trans rfl)) ?_)
  rintro w ⟨q1, rfl⟩
  refine Gc.eqw Wd.sub ?_
  refine Gc.putFW hw dX6_init_17 flX6_18 rfl rfl rfl rfl rfl (Nat.le_of_ble_eq_true rfl) ?_
  refine Gc.at 20 rfl ?_
  refine Gc.ret dX6_init_20 rfl rfl ?_
  exact ⟨q0, q1, rfl⟩
theorem k_X4 {E : Ec} {d : Nat} {ws : va_W} {k a b : Nat} (h : ws[k]? = some (a, .inr (2, [.int 0, .int 0, .null, .int 0, .null, .int 0, .int 0, .null, .int 0, .int 0, .int 0, .int 0]))) : Gc E (d + 1) 2 192 mX4_init 0 (entF mX4_init [vR a, vR b]) [] ws 0 0 (fun w => ∃ q0 q1, w = Wd ws k (a, .inr (2, [.int 0, .int 0, .ref q0, .int 0, .ref b, .int 0, .int 0, .ref q1, .int 0, .int 0, .int 0, .int 0])) [(q0, .inl (E.2.2 0, 96, .inl (fun _ => 0))), (q1, .inl (E.2.2 0, 96, .inl (fun _ => 0)))]) := by
  have hw : k < ws.length := (List.getElem?_eq_some_iff.mp h).1
  show Gc E (d + 1) 2 192 mX4_init 0 [some (vR a), some (vR b)] [] ws 0 0 _
  refine Gc.eqw (Wd.init h) ?_
  refine Gc.aload_n dX4_init_0 rfl ?_
  refine Gc.obj dX4_init_1 (T0_at 140 (by decide +kernel) (by decide +kernel)) tObj tObjC (by omega) ?_
  refine Gc.aload_n dX4_init_4 rfl ?_
  refine Gc.bipush (v := nI 96) dX4_init_5 rfl ?_
  refine Gc.newiW (N := 96) dX4_init_7 rfl (Nat.le_of_ble_eq_true rfl) (Nat.le_of_ble_eq_true rfl) (Nat.le_of_ble_eq_true rfl) tI (fun q0 => ?_)
  refine Gc.at 9 rfl ?_
  refine Gc.putFW hw dX4_init_9 flX4_9 rfl rfl rfl rfl rfl (Nat.le_of_ble_eq_true rfl) ?_
  refine Gc.aload_n dX4_init_12 rfl ?_
  refine Gc.bipush (v := nI 96) dX4_init_13 rfl ?_
  refine Gc.newiW (N := 96) dX4_init_15 rfl (Nat.le_of_ble_eq_true rfl) (Nat.le_of_ble_eq_true rfl) (Nat.le_of_ble_eq_true rfl) tI (fun q1 => ?_)
  refine Gc.putFW hw dX4_init_17 flX4_15 rfl rfl rfl rfl rfl (Nat.le_of_ble_eq_true rfl) ?_
  refine Gc.at 20 rfl ?_
  refine Gc.aload_n dX4_init_20 rfl ?_
  refine Gc.aload_n dX4_init_21 rfl ?_
  refine Gc.putFW hw dX4_init_22 flX4_18 rfl rfl rfl rfl rfl (Nat.le_of_ble_eq_true rfl) ?_
  refine Gc.ret dX4_init_25 rfl rfl ?_
  exact ⟨q0, q1, rfl⟩
theorem k_X3 {E : Ec} {d : Nat} {ws : va_W} {k a : Nat} (h : ws[k]? = some (a, .inr (1, [.null, .null, .null, .null, .null, .int 0]))) : Gc E (d + 1) 19 1496 mX3_init 0 (entF mX3_init [vR a]) [] ws 0 0 (fun w => ∃ (q0 q1 q2 q3 q4 : Nat) (r : Nat → Nat), w = Wd ws k (a, .inr (1, [.ref q0, .ref q1, .ref q2, .ref q3, .ref q4, .int 0])) ([(q0, .inl (E.2.2 0, 14, .inl (fun _ => 0))), (q1, .inl (E.2.2 0, 14, .inl (fun _ => 0))), (q2, .inl (E.2.2 0, 14, .inl (fun _ => 0))), (q3, .inl (E.2.2 3, 14, .inr (.inr (.inr (.inr (fun i => if i < 14 then some (r i) else none))))))] ++ (List.range 14).map (fun i => (r i, .inl (E.2.2 0, 96, .inl (fun _ => 0)))) ++ [(q4, .inl (E.2.2 0, 96, .inl (fun _ => 0)))])) := by
  have hw : k < ws.length := (List.getElem?_eq_some_iff.mp h).1
  show Gc E (d + 1) 19 1496 mX3_init 0 [some (vR a)] [] ws 0 0 _
  refine Gc.eqw (Wd.init h) ?_
  refine Gc.aload_n dX3_init_0 rfl ?_
  refine Gc.obj dX3_init_1 (T0_at 33 (by decide +kernel) (by decide +kernel)) tObj tObjC (by omega) ?_
  refine Gc.aload_n dX3_init_4 rfl ?_
  refine Gc.bipush (v := nI 14) dX3_init_5 rfl ?_
  refine Gc.newiW (N := 14) dX3_init_7 rfl (Nat.le_of_ble_eq_true rfl) (Nat.le_of_ble_eq_true rfl) (Nat.le_of_ble_eq_true rfl) tI (fun q0 => ?_)
  refine Gc.at 9 rfl ?_
  refine Gc.putFW hw dX3_init_9 flX3_9 rfl rfl rfl rfl rfl (Nat.le_of_ble_eq_true rfl) ?_
  refine Gc.aload_n dX3_init_12 rfl ?_
  refine Gc.bipush (v := nI 14) dX3_init_13 rfl ?_
  refine Gc.newiW (N := 14) dX3_init_15 rfl (Nat.le_of_ble_eq_true rfl) (Nat.le_of_ble_eq_true rfl) (Nat.le_of_ble_eq_true rfl) tI (fun q1 => ?_)
  refine Gc.putFW hw dX3_init_17 flX3_15 rfl rfl rfl rfl rfl (Nat.le_of_ble_eq_true rfl) ?_
  refine Gc.at 20 rfl ?_
  refine Gc.aload_n dX3_init_20 rfl ?_
  refine Gc.bipush (v := nI 14) dX3_init_21 rfl ?_
  refine Gc.newiW (N := 14) dX3_init_23 rfl (Nat.le_of_ble_eq_true rfl) (Nat.le_of_ble_eq_true rfl) (Nat.le_of_ble_eq_true rfl) tI (fun q2 => ?_)
  refine Gc.putFW hw dX3_init_25 flX3_18 rfl rfl rfl rfl rfl (Nat.le_of_ble_eq_true rfl) ?_
  refine Gc.aload_n dX3_init_28 rfl ?_
  refine Gc.at 29 rfl ?_
  refine Gc.bipush (v := nI 14) dX3_init_29 rfl ?_
  refine Gc.bipush (v := nI 96) dX3_init_31 rfl ?_
  refine Gc.mna (N := 14) (K := 96) dX3_init_33 tI (T0_at 34 (by decide +kernel) (by decide +kernel)) rfl rfl (Nat.le_of_ble_eq_true rfl) (Nat.le_of_ble_eq_true rfl) (Nat.le_of_ble_eq_true rfl) (Nat.le_of_ble_eq_true rfl) (fun q3 r => ?_)
  refine Gc.eqw ((congrArg (fun z => z ++ _) Wd.app).trans Wd.app) ?_
  refine Gc.putFW hw dX3_init_37 flX3_23 rfl rfl rfl rfl rfl (Nat.le_of_ble_eq_true rfl) ?_
  refine Gc.aload_n dX3_init_40 rfl ?_
  refine Gc.bipush (v := nI 96) dX3_init_41 rfl ?_
  refine Gc.newiW (N := 96) dX3_init_43 rfl (Nat.le_of_ble_eq_true rfl) (Nat.le_of_ble_eq_true rfl) (Nat.le_of_ble_eq_true rfl) tI (fun q4 => ?_)
  refine Gc.putFW hw dX3_init_45 flX3_26 rfl rfl rfl rfl rfl (Nat.le_of_ble_eq_true rfl) ?_
  refine Gc.at 48 rfl ?_
  refine Gc.ret dX3_init_48 rfl rfl ?_
  exact ⟨q0, q1, q2, q3, q4, r, rfl⟩
theorem k_X1 {E : Ec} {d : Nat} {ws : va_W} {k a b : Nat} (h : ws[k]? = some (a, .inr (0, [.null, .null, .null, .null, .null, .null, .null, .int 0, .int 0, .int 0, .int 0, .int 0, .null]))) : Gc E (d + 2) 7 142 mX1_init 0 (entF mX1_init [vR a, vR b]) [] ws 0 0 (fun w => ∃ q0 q1 q2 q3 q4 q5 q6, w = Wd ws k (a, .inr (0, [.ref q0, .ref q1, .ref q2, .ref q3, .ref q4, .ref q5, .ref q6, .int 0, .int 0, .int 0, .int (nI 1), .int 0, .ref b])) [(q0, .inl (E.2.2 0, 30, .inl (fun _ => 0))), (q1, .inl (E.2.2 0, 30, .inl (fun _ => 0))), (q2, .inl (E.2.2 0, 30, .inl (fun _ => 0))), (q3, .inl (E.2.2 0, 30, .inl (fun j => if j < 30 then (-1000000005) else 0))), (q4, .inl (E.2.2 0, 6, .inl (upd (upd (upd (upd (upd (upd (fun _ => 0) 0 (nI 2)) 1 (nI 8)) 2 (nI 3)) 3 (nI 0)) 4 (nI 20)) 5 (nI 1)))), (q5, .inl (E.2.2 0, 8, .inl (fun _ => 0))), (q6, .inl (E.2.2 0, 8, .inl (fun _ => 0)))]) := by
  have hw : k < ws.length := (List.getElem?_eq_some_iff.mp h).1
  show Gc E (d + 2) 7 142 mX1_init 0 [some (vR a), some (vR b)] [] ws 0 0 _
  refine Gc.eqw (Wd.init h) ?_
  refine Gc.aload_n dX1_init_0 rfl ?_
  refine Gc.obj dX1_init_1 (T0_at 63 (by decide +kernel) (by decide +kernel)) tObj tObjC (by omega) ?_
  refine Gc.aload_n dX1_init_4 rfl ?_
  refine Gc.bipush (v := nI 30) dX1_init_5 rfl ?_
  refine Gc.newiW (N := 30) dX1_init_7 rfl (Nat.le_of_ble_eq_true rfl) (Nat.le_of_ble_eq_true rfl) (Nat.le_of_ble_eq_true rfl) tI (fun q0 => ?_)
  refine Gc.at 9 rfl ?_
  refine Gc.putFW hw dX1_init_9 flX1_9 rfl rfl rfl rfl rfl (Nat.le_of_ble_eq_true rfl) ?_
  refine Gc.aload_n dX1_init_12 rfl ?_
  refine Gc.bipush (v := nI 30) dX1_init_13 rfl ?_
  refine Gc.newiW (N := 30) dX1_init_15 rfl (Nat.le_of_ble_eq_true rfl) (Nat.le_of_ble_eq_true rfl) (Nat.le_of_ble_eq_true rfl) tI (fun q1 => ?_)
  refine Gc.putFW hw dX1_init_17 flX1_15 rfl rfl rfl rfl rfl (Nat.le_of_ble_eq_true rfl) ?_
  refine Gc.at 20 rfl ?_
  refine Gc.aload_n dX1_init_20 rfl ?_
  refine Gc.bipush (v := nI 30) dX1_init_21 rfl ?_
  refine Gc.newiW (N := 30) dX1_init_23 rfl (Nat.le_of_ble_eq_true rfl) (Nat.le_of_ble_eq_true rfl) (Nat.le_of_ble_eq_true rfl) tI (fun q2 => ?_)
  refine Gc.putFW hw dX1_init_25 flX1_18 rfl rfl rfl rfl rfl (Nat.le_of_ble_eq_true rfl) ?_
  refine Gc.aload_n dX1_init_28 rfl ?_
  refine Gc.at 29 rfl ?_
  refine Gc.bipush (v := nI 30) dX1_init_29 rfl ?_
  refine Gc.newiW (N := 30) dX1_init_31 rfl (Nat.le_of_ble_eq_true rfl) (Nat.le_of_ble_eq_true rfl) (Nat.le_of_ble_eq_true rfl) tI (fun q3 => ?_)
  refine Gc.putFW hw dX1_init_33 flX1_21 rfl rfl rfl rfl rfl (Nat.le_of_ble_eq_true rfl) ?_
  refine Gc.aload_n dX1_init_36 rfl ?_
  refine Gc.bipush (v := nI 6) dX1_init_37 rfl ?_
  refine Gc.at 39 rfl ?_
  refine Gc.newiW (N := 6) dX1_init_39 rfl (Nat.le_of_ble_eq_true rfl) (Nat.le_of_ble_eq_true rfl) (Nat.le_of_ble_eq_true rfl) tI (fun q4 => ?_)
  refine Gc.dupR dX1_init_41 ?_
  refine Gc.iconst (v := nI 0) dX1_init_42 rfl ?_
  refine Gc.iconst (v := nI 2) dX1_init_43 rfl ?_
  refine Gc.iastoreW 4 0 dX1_init_44 rfl (Nat.le_of_ble_eq_true rfl) (Nat.le_of_ble_eq_true rfl) rfl ?_
  refine Gc.at 45 rfl ?_
  refine Gc.dupR dX1_init_45 ?_
  refine Gc.iconst (v := nI 1) dX1_init_46 rfl ?_
  refine Gc.bipush (v := nI 8) dX1_init_47 rfl ?_
  refine Gc.iastoreW 4 1 dX1_init_49 rfl (Nat.le_of_ble_eq_true rfl) (Nat.le_of_ble_eq_true rfl) rfl ?_
  refine Gc.dupR dX1_init_50 ?_
  refine Gc.at 51 rfl ?_
  refine Gc.iconst (v := nI 2) dX1_init_51 rfl ?_
  refine Gc.iconst (v := nI 3) dX1_init_52 rfl ?_
  refine Gc.iastoreW 4 2 dX1_init_53 rfl (Nat.le_of_ble_eq_true rfl) (Nat.le_of_ble_eq_true rfl) rfl ?_
  refine Gc.dupR dX1_init_54 ?_
  refine Gc.iconst (v := nI 3) dX1_init_55 rfl ?_
  refine Gc.at 56 rfl ?_
  refine Gc.iconst (v := nI 0) dX1_init_56 rfl ?_
  refine Gc.iastoreW 4 3 dX1_init_57 rfl (Nat.le_of_ble_eq_true rfl) (Nat.le_of_ble_eq_true rfl) rfl ?_
  refine Gc.dupR dX1_init_58 ?_
  refine Gc.iconst (v := nI 4) dX1_init_59 rfl ?_
  refine Gc.bipush (v := nI 20) dX1_init_60 rfl ?_
  refine Gc.at 62 rfl ?_
  refine Gc.iastoreW 4 4 dX1_init_62 rfl (Nat.le_of_ble_eq_true rfl) (Nat.le_of_ble_eq_true rfl) rfl ?_
  refine Gc.dupR dX1_init_63 ?_
  refine Gc.iconst (v := nI 5) dX1_init_64 rfl ?_
  refine Gc.iconst (v := nI 1) dX1_init_65 rfl ?_
  refine Gc.iastoreW 4 5 dX1_init_66 rfl (Nat.le_of_ble_eq_true rfl) (Nat.le_of_ble_eq_true rfl) rfl ?_
  refine Gc.at 67 rfl ?_
  refine Gc.putFW hw dX1_init_67 flX1_24 rfl rfl rfl rfl rfl (Nat.le_of_ble_eq_true rfl) ?_
  refine Gc.aload_n dX1_init_70 rfl ?_
  refine Gc.bipush (v := nI 8) dX1_init_71 rfl ?_
  refine Gc.newiW (N := 8) dX1_init_73 rfl (Nat.le_of_ble_eq_true rfl) (Nat.le_of_ble_eq_true rfl) (Nat.le_of_ble_eq_true rfl) tI (fun q5 => ?_)
  refine Gc.putFW hw dX1_init_75 flX1_27 rfl rfl rfl rfl rfl (Nat.le_of_ble_eq_true rfl) ?_
  refine Gc.at 78 rfl ?_
  refine Gc.aload_n dX1_init_78 rfl ?_
  refine Gc.bipush (v := nI 8) dX1_init_79 rfl ?_
  refine Gc.newiW (N := 8) dX1_init_81 rfl (Nat.le_of_ble_eq_true rfl) (Nat.le_of_ble_eq_true rfl) (Nat.le_of_ble_eq_true rfl) tI (fun q6 => ?_)
  refine Gc.putFW hw dX1_init_83 flX1_30 rfl rfl rfl rfl rfl (Nat.le_of_ble_eq_true rfl) ?_
  refine Gc.aload_n dX1_init_86 rfl ?_
  refine Gc.at 87 rfl ?_
  refine Gc.iconst (v := nI 1) dX1_init_87 rfl ?_
  refine Gc.putW hw dX1_init_88 flX1_33 rfl rfl rfl (Nat.le_of_ble_eq_true rfl) ?_
  refine Gc.aload_n dX1_init_91 rfl ?_
  refine Gc.aload_n dX1_init_92 rfl ?_
  refine Gc.putFW hw dX1_init_93 flX1_37 rfl rfl rfl rfl rfl (Nat.le_of_ble_eq_true rfl) ?_
  refine Gc.at 96 rfl ?_
  refine Gc.aload_n dX1_init_96 rfl ?_
  refine Gc.getW (v := vR q3) hw dX1_init_97 flX1_21 rfl ?_
  refine Gc.ldc dX1_init_100 cnX1_41 ?_
  refine Gc.callS (mc' := 0) (ms' := 0) [vR q3, vI (-1000000005)] [] dX1_init_102 lkX1_42.1 lkX1_42.2.1 lkX1_42.2.2 rfl rfl (Nat.le_of_ble_eq_true rfl) rfl (Nat.le_of_ble_eq_true rfl) (Nat.le_of_ble_eq_true rfl) (Nat.le_of_ble_eq_true rfl) (Gc.mono (k_fill (k := ws.length + 3) ((Wd.getl 3).trans rfl) (by decide)) ?_)
  rintro w rfl
  refine Gc.eqw (Wd.setl 3) ?_
  refine Gc.ret dX1_init_105 rfl rfl ?_
  exact ⟨q0, q1, q2, q3, q4, q5, q6, rfl⟩
