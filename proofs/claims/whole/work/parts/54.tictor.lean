/-- what TideIsland() makes beside itself, at the addresses ad -/
def tiL (E : Ec) (ad r : Nat → Nat) : va_W := [
  (ad 1, .inr (1, [.ref (ad 2), .ref (ad 3), .ref (ad 4), .ref (ad 5), .ref (ad 6), .int 0])),
  (ad 2, .inl (E.2.2 0, 14, .inl (fun _ => 0))),
  (ad 3, .inl (E.2.2 0, 14, .inl (fun _ => 0))),
  (ad 4, .inl (E.2.2 0, 14, .inl (fun _ => 0))),
  (ad 5, .inl (E.2.2 3, 14, .inr (.inr (.inr (.inr (fun i => if i < 14 then some (r i) else none)))))),
  (r 0, .inl (E.2.2 0, 96, .inl (fun _ => 0))),
  (r 1, .inl (E.2.2 0, 96, .inl (fun _ => 0))),
  (r 2, .inl (E.2.2 0, 96, .inl (fun _ => 0))),
  (r 3, .inl (E.2.2 0, 96, .inl (fun _ => 0))),
  (r 4, .inl (E.2.2 0, 96, .inl (fun _ => 0))),
  (r 5, .inl (E.2.2 0, 96, .inl (fun _ => 0))),
  (r 6, .inl (E.2.2 0, 96, .inl (fun _ => 0))),
  (r 7, .inl (E.2.2 0, 96, .inl (fun _ => 0))),
  (r 8, .inl (E.2.2 0, 96, .inl (fun _ => 0))),
  (r 9, .inl (E.2.2 0, 96, .inl (fun _ => 0))),
  (r 10, .inl (E.2.2 0, 96, .inl (fun _ => 0))),
  (r 11, .inl (E.2.2 0, 96, .inl (fun _ => 0))),
  (r 12, .inl (E.2.2 0, 96, .inl (fun _ => 0))),
  (r 13, .inl (E.2.2 0, 96, .inl (fun _ => 0))),
  (ad 6, .inl (E.2.2 0, 96, .inl (fun _ => 0))),
  (ad 7, .inr (0, [.ref (ad 8), .ref (ad 9), .ref (ad 10), .ref (ad 11), .ref (ad 12), .ref (ad 13), .ref (ad 14), .int 0, .int 0, .int 0, .int (nI 1), .int 0, .ref (ad 1)])),
  (ad 8, .inl (E.2.2 0, 30, .inl (fun _ => 0))),
  (ad 9, .inl (E.2.2 0, 30, .inl (fun _ => 0))),
  (ad 10, .inl (E.2.2 0, 30, .inl (fun _ => 0))),
  (ad 11, .inl (E.2.2 0, 30, .inl (fun j => if j < 30 then (-1000000005) else 0))),
  (ad 12, .inl (E.2.2 0, 6, .inl (upd (upd (upd (upd (upd (upd (fun _ => 0) 0 (nI 2)) 1 (nI 8)) 2 (nI 3)) 3 (nI 0)) 4 (nI 20)) 5 (nI 1)))),
  (ad 13, .inl (E.2.2 0, 8, .inl (fun _ => 0))),
  (ad 14, .inl (E.2.2 0, 8, .inl (fun _ => 0))),
  (ad 15, .inr (0, [.ref (ad 16), .ref (ad 17), .ref (ad 18), .ref (ad 19), .ref (ad 20), .ref (ad 21), .ref (ad 22), .int 0, .int 0, .int 0, .int (nI 1), .int 0, .ref (ad 1)])),
  (ad 16, .inl (E.2.2 0, 30, .inl (fun _ => 0))),
  (ad 17, .inl (E.2.2 0, 30, .inl (fun _ => 0))),
  (ad 18, .inl (E.2.2 0, 30, .inl (fun _ => 0))),
  (ad 19, .inl (E.2.2 0, 30, .inl (fun j => if j < 30 then (-1000000005) else 0))),
  (ad 20, .inl (E.2.2 0, 6, .inl (upd (upd (upd (upd (upd (upd (fun _ => 0) 0 (nI 2)) 1 (nI 8)) 2 (nI 3)) 3 (nI 0)) 4 (nI 20)) 5 (nI 1)))),
  (ad 21, .inl (E.2.2 0, 8, .inl (fun _ => 0))),
  (ad 22, .inl (E.2.2 0, 8, .inl (fun _ => 0))),
  (ad 23, .inr (0, [.ref (ad 24), .ref (ad 25), .ref (ad 26), .ref (ad 27), .ref (ad 28), .ref (ad 29), .ref (ad 30), .int 0, .int 0, .int 0, .int (nI 1), .int 0, .ref (ad 1)])),
  (ad 24, .inl (E.2.2 0, 30, .inl (fun _ => 0))),
  (ad 25, .inl (E.2.2 0, 30, .inl (fun _ => 0))),
  (ad 26, .inl (E.2.2 0, 30, .inl (fun _ => 0))),
  (ad 27, .inl (E.2.2 0, 30, .inl (fun j => if j < 30 then (-1000000005) else 0))),
  (ad 28, .inl (E.2.2 0, 6, .inl (upd (upd (upd (upd (upd (upd (fun _ => 0) 0 (nI 2)) 1 (nI 8)) 2 (nI 3)) 3 (nI 0)) 4 (nI 20)) 5 (nI 1)))),
  (ad 29, .inl (E.2.2 0, 8, .inl (fun _ => 0))),
  (ad 30, .inl (E.2.2 0, 8, .inl (fun _ => 0))),
  (ad 31, .inr (5, [.int 0, .ref (ad 32)])),
  (ad 32, .inl (E.2.2 0, 96, .inl (fun _ => 0))),
  (ad 33, .inr (2, [.int 0, .int 0, .ref (ad 34), .int 0, .ref (ad 31), .int 0, .int 0, .ref (ad 35), .int 0, .int 0, .int 0, .int 0])),
  (ad 34, .inl (E.2.2 0, 96, .inl (fun _ => 0))),
  (ad 35, .inl (E.2.2 0, 96, .inl (fun _ => 0))),
  (ad 36, .inl (E.2.2 1, 4, .inr (.inr (.inr (.inr (va_up (va_up (va_up (va_up (fun _ => none) 0 (some (ad 53))) 1 (some (ad 54))) 2 (some (ad 55))) 3 (some (ad 56)))))))),
  (ad 37, .inl (E.2.2 2, 5, .inr (.inr (.inr (.inr (va_up (va_up (va_up (va_up (va_up (fun _ => none) 0 (some (ad 61))) 1 (some (ad 62))) 2 (some (ad 63))) 3 (some (ad 64))) 4 (some (ad 65)))))))),
  (ad 38, .inl (E.2.2 0, 60, .inl (fun _ => 0))),
  (ad 53, .inr (3, [.int (-1), .int 0, .ref (ad 57)])),
  (ad 57, .inl (E.2.2 0, 24, .inl (fun _ => 0))),
  (ad 54, .inr (3, [.int (-1), .int 0, .ref (ad 58)])),
  (ad 58, .inl (E.2.2 0, 24, .inl (fun _ => 0))),
  (ad 55, .inr (3, [.int (-1), .int 0, .ref (ad 59)])),
  (ad 59, .inl (E.2.2 0, 24, .inl (fun _ => 0))),
  (ad 56, .inr (3, [.int (-1), .int 0, .ref (ad 60)])),
  (ad 60, .inl (E.2.2 0, 24, .inl (fun _ => 0))),
  (ad 61, .inr (4, [.int 0, .int 0, .int 0, .int 0, .ref (ad 66)])),
  (ad 66, .inr (3, [.int (-1), .int 0, .ref (ad 71)])),
  (ad 71, .inl (E.2.2 0, 24, .inl (fun _ => 0))),
  (ad 62, .inr (4, [.int 0, .int 0, .int 0, .int 0, .ref (ad 67)])),
  (ad 67, .inr (3, [.int (-1), .int 0, .ref (ad 72)])),
  (ad 72, .inl (E.2.2 0, 24, .inl (fun _ => 0))),
  (ad 63, .inr (4, [.int 0, .int 0, .int 0, .int 0, .ref (ad 68)])),
  (ad 68, .inr (3, [.int (-1), .int 0, .ref (ad 73)])),
  (ad 73, .inl (E.2.2 0, 24, .inl (fun _ => 0))),
  (ad 64, .inr (4, [.int 0, .int 0, .int 0, .int 0, .ref (ad 69)])),
  (ad 69, .inr (3, [.int (-1), .int 0, .ref (ad 74)])),
  (ad 74, .inl (E.2.2 0, 24, .inl (fun _ => 0))),
  (ad 65, .inr (4, [.int 0, .int 0, .int 0, .int 0, .ref (ad 70)])),
  (ad 70, .inr (3, [.int (-1), .int 0, .ref (ad 75)])),
  (ad 75, .inl (E.2.2 0, 24, .inl (fun _ => 0)))]
def tiF (ad : Nat → Nat) : List Value := [.ref (ad 1), .ref (ad 7), .ref (ad 15), .ref (ad 23), .ref (ad 31), .ref (ad 33), .ref (ad 36), .ref (ad 37), .ref (ad 38), .int 0, .int 0]
set_option maxRecDepth 20000 in
theorem k_X8 {E : Ec} {d : Nat} {ws : va_W} {k a : Nat} (h : ws[k]? = some (a, .inr (6, [.null, .null, .null, .null, .null, .null, .null, .null, .null, .int 0, .int 0]))) : Gc E (d + 3) 75 2606 mX8_init 0 (entF mX8_init [vR a]) [] ws 0 0 (fun w => ∃ ad r, w = Wd ws k (a, .inr (6, tiF ad)) (tiL E ad r)) := by
  have hw : k < ws.length := (List.getElem?_eq_some_iff.mp h).1
  show Gc E (d + 3) 75 2606 mX8_init 0 [some (vR a), none] [] ws 0 0 _
  refine Gc.eqw (Wd.init h) ?_
  refine Gc.aload_n dX8_init_0 rfl ?_
  refine Gc.obj dX8_init_1 (T0_at 25 (by decide +kernel) (by decide +kernel)) tObj tObjC (by omega) ?_
  refine Gc.aload_n dX8_init_4 rfl ?_
  refine Gc.newW (ci := 1) (N := 6) (fs := [.null, .null, .null, .null, .null, .int 0]) dX8_init_5 (by decide) rfl (T0_at 28 (by decide +kernel) (by decide +kernel)) (T0_at 29 (by decide +kernel) (by decide +kernel)) (T0_at 2 (by decide +kernel) (by decide +kernel)) (by decide) (Nat.le_of_ble_eq_true rfl) (Nat.le_of_ble_eq_true rfl) (fun q0 => ?_)
  refine Gc.dupR dX8_init_8 ?_
  refine Gc.at 9 rfl ?_
  refine Gc.ctorN (M' := mX3_init) (mc' := 19) (ms' := 1496) [] [vR q0, vR a] dX8_init_9 (fun _ h => h.2.1) inX3_init rfl okX3_init rfl rfl (Nat.le_of_ble_eq_true rfl) rfl (Nat.le_of_ble_eq_true rfl) (Nat.le_of_ble_eq_true rfl) (Nat.le_of_ble_eq_true rfl) (Gc.mono (k_X3 ((Wd.getl 0).trans rfl)) ?_)
  rintro w ⟨q1, q2, q3, q4, q5, r, rfl⟩
  refine Gc.eqw Wd.sub ?_
  refine Gc.putFW hw dX8_init_12 flX8_10 rfl rfl rfl rfl rfl (Nat.le_of_ble_eq_true rfl) ?_
  refine Gc.aload_n dX8_init_15 rfl ?_
  refine Gc.newW (ci := 0) (N := 13) (fs := [.null, .null, .null, .null, .null, .null, .null, .int 0, .int 0, .int 0, .int 0, .int 0, .null]) dX8_init_16 (by decide) rfl (T0_at 58 (by decide +kernel) (by decide +kernel)) (T0_at 59 (by decide +kernel) (by decide +kernel)) (T0_at 3 (by decide +kernel) (by decide +kernel)) (by decide) (Nat.le_of_ble_eq_true rfl) (Nat.le_of_ble_eq_true rfl) (fun q6 => ?_)
  refine Gc.dupR dX8_init_19 ?_
  refine Gc.at 20 rfl ?_
  refine Gc.aload_n dX8_init_20 rfl ?_
  refine Gc.getW (v := vR q0) hw dX8_init_21 flX8_10 rfl ?_
  refine Gc.ctor (M' := mX1_init) (mc' := 7) (ms' := 142) [vR q0] [vR q6, vR a] dX8_init_24 (T0_at 60 (by decide +kernel) (by decide +kernel)) inX1_init rfl okX1_init rfl rfl (Nat.le_of_ble_eq_true rfl) rfl (Nat.le_of_ble_eq_true rfl) (Nat.le_of_ble_eq_true rfl) (Nat.le_of_ble_eq_true rfl) (Gc.mono (k_X1 (b := q0) ((Wd.getl 20).trans rfl)) ?_)
  rintro w ⟨q7, q8, q9, q10, q11, q12, q13, rfl⟩
  refine Gc.eqw Wd.sub ?_
  refine Gc.putFW hw dX8_init_27 flX8_21 rfl rfl rfl rfl rfl (Nat.le_of_ble_eq_true rfl) ?_
  refine Gc.aload_n dX8_init_30 rfl ?_
  refine Gc.at 31 rfl ?_
  refine Gc.newW (ci := 0) (N := 13) (fs := [.null, .null, .null, .null, .null, .null, .null, .int 0, .int 0, .int 0, .int 0, .int 0, .null]) dX8_init_31 (by decide) rfl (T0_at 58 (by decide +kernel) (by decide +kernel)) (T0_at 59 (by decide +kernel) (by decide +kernel)) (T0_at 3 (by decide +kernel) (by decide +kernel)) (by decide) (Nat.le_of_ble_eq_true rfl) (Nat.le_of_ble_eq_true rfl) (fun q14 => ?_)
  refine Gc.dupR dX8_init_34 ?_
  refine Gc.aload_n dX8_init_35 rfl ?_
  refine Gc.getW (v := vR q0) hw dX8_init_36 flX8_10 rfl ?_
  refine Gc.ctor (M' := mX1_init) (mc' := 7) (ms' := 142) [vR q0] [vR q14, vR a] dX8_init_39 (T0_at 60 (by decide +kernel) (by decide +kernel)) inX1_init rfl okX1_init rfl rfl (Nat.le_of_ble_eq_true rfl) rfl (Nat.le_of_ble_eq_true rfl) (Nat.le_of_ble_eq_true rfl) (Nat.le_of_ble_eq_true rfl) (Gc.mono (k_X1 (b := q0) ((Wd.getl 28).trans rfl)) ?_)
  rintro w ⟨q15, q16, q17, q18, q19, q20, q21, rfl⟩
  refine Gc.eqw Wd.sub ?_
  refine Gc.at 42 rfl ?_
  refine Gc.putFW hw dX8_init_42 flX8_25 rfl rfl rfl rfl rfl (Nat.le_of_ble_eq_true rfl) ?_
  refine Gc.aload_n dX8_init_45 rfl ?_
  refine Gc.newW (ci := 0) (N := 13) (fs := [.null, .null, .null, .null, .null, .null, .null, .int 0, .int 0, .int 0, .int 0, .int 0, .null]) dX8_init_46 (by decide) rfl (T0_at 58 (by decide +kernel) (by decide +kernel)) (T0_at 59 (by decide +kernel) (by decide +kernel)) (T0_at 3 (by decide +kernel) (by decide +kernel)) (by decide) (Nat.le_of_ble_eq_true rfl) (Nat.le_of_ble_eq_true rfl) (fun q22 => ?_)
  refine Gc.dupR dX8_init_49 ?_
  refine Gc.aload_n dX8_init_50 rfl ?_
  refine Gc.at 51 rfl ?_
  refine Gc.getW (v := vR q0) hw dX8_init_51 flX8_10 rfl ?_
  refine Gc.ctor (M' := mX1_init) (mc' := 7) (ms' := 142) [vR q0] [vR q22, vR a] dX8_init_54 (T0_at 60 (by decide +kernel) (by decide +kernel)) inX1_init rfl okX1_init rfl rfl (Nat.le_of_ble_eq_true rfl) rfl (Nat.le_of_ble_eq_true rfl) (Nat.le_of_ble_eq_true rfl) (Nat.le_of_ble_eq_true rfl) (Gc.mono (k_X1 (b := q0) ((Wd.getl 36).trans rfl)) ?_)
  rintro w ⟨q23, q24, q25, q26, q27, q28, q29, rfl⟩
  refine Gc.eqw Wd.sub ?_
  refine Gc.putFW hw dX8_init_57 flX8_28 rfl rfl rfl rfl rfl (Nat.le_of_ble_eq_true rfl) ?_
  refine Gc.aload_n dX8_init_60 rfl ?_
  refine Gc.newW (ci := 5) (N := 2) (fs := [.int 0, .null]) dX8_init_61 (by decide) rfl (T0_at 120 (by decide +kernel) (by decide +kernel)) (T0_at 121 (by decide +kernel) (by decide +kernel)) (T0_at 5 (by decide +kernel) (by decide +kernel)) (by decide) (Nat.le_of_ble_eq_true rfl) (Nat.le_of_ble_eq_true rfl) (fun q30 => ?_)
  refine Gc.at 64 rfl ?_
  refine Gc.dupR dX8_init_64 ?_
  refine Gc.ctorN (M' := mX7_init) (mc' := 1) (ms' := 96) [] [vR q30, vR a] dX8_init_65 (fun _ h => h.2.2.1) inX7_init rfl okX7_init rfl rfl (Nat.le_of_ble_eq_true rfl) rfl (Nat.le_of_ble_eq_true rfl) (Nat.le_of_ble_eq_true rfl) (Nat.le_of_ble_eq_true rfl) (Gc.mono (k_X7 ((Wd.getl 44).trans rfl)) ?_)
  rintro w ⟨q31, rfl⟩
  refine Gc.eqw Wd.sub ?_
  refine Gc.putFW hw dX8_init_68 flX8_34 rfl rfl rfl rfl rfl (Nat.le_of_ble_eq_true rfl) ?_
  refine Gc.aload_n dX8_init_71 rfl ?_
  refine Gc.newW (ci := 2) (N := 12) (fs := [.int 0, .int 0, .null, .int 0, .null, .int 0, .int 0, .null, .int 0, .int 0, .int 0, .int 0]) dX8_init_72 (by decide) rfl (T0_at 135 (by decide +kernel) (by decide +kernel)) (T0_at 136 (by decide +kernel) (by decide +kernel)) (T0_at 6 (by decide +kernel) (by decide +kernel)) (by decide) (Nat.le_of_ble_eq_true rfl) (Nat.le_of_ble_eq_true rfl) (fun q32 => ?_)
  refine Gc.at 75 rfl ?_
  refine Gc.dupR dX8_init_75 ?_
  refine Gc.aload_n dX8_init_76 rfl ?_
  refine Gc.getW (v := vR q30) hw dX8_init_77 flX8_34 rfl ?_
  refine Gc.ctor (M' := mX4_init) (mc' := 2) (ms' := 192) [vR q30] [vR q32, vR a] dX8_init_80 (T0_at 137 (by decide +kernel) (by decide +kernel)) inX4_init rfl okX4_init rfl rfl (Nat.le_of_ble_eq_true rfl) rfl (Nat.le_of_ble_eq_true rfl) (Nat.le_of_ble_eq_true rfl) (Nat.le_of_ble_eq_true rfl) (Gc.mono (k_X4 (b := q30) ((Wd.getl 46).trans rfl)) ?_)
  rintro w ⟨q33, q34, rfl⟩
  refine Gc.eqw Wd.sub ?_
  refine Gc.putFW hw dX8_init_83 flX8_43 rfl rfl rfl rfl rfl (Nat.le_of_ble_eq_true rfl) ?_
  refine Gc.at 86 rfl ?_
  refine Gc.aload_n dX8_init_86 rfl ?_
  refine Gc.iconst (v := nI 4) dX8_init_87 rfl ?_
  refine Gc.newqW (C := RX5) (k := 1) (N := 4) dX8_init_88 rfl (fun _ h => h.1.1) (T0_at 182 (by decide +kernel) (by decide +kernel)) rfl (Nat.le_of_ble_eq_true rfl) (Nat.le_of_ble_eq_true rfl) (Nat.le_of_ble_eq_true rfl) (fun q35 => ?_)
  refine Gc.putFW hw dX8_init_91 flX8_49 rfl rfl rfl rfl rfl (Nat.le_of_ble_eq_true rfl) ?_
  refine Gc.aload_n dX8_init_94 rfl ?_
  refine Gc.at 95 rfl ?_
  refine Gc.iconst (v := nI 5) dX8_init_95 rfl ?_
  refine Gc.newqW (C := RX6) (k := 2) (N := 5) dX8_init_96 rfl (fun _ h => h.1.2.1) (T0_at 184 (by decide +kernel) (by decide +kernel)) rfl (Nat.le_of_ble_eq_true rfl) (Nat.le_of_ble_eq_true rfl) (Nat.le_of_ble_eq_true rfl) (fun q36 => ?_)
  refine Gc.putFW hw dX8_init_99 flX8_55 rfl rfl rfl rfl rfl (Nat.le_of_ble_eq_true rfl) ?_
  refine Gc.aload_n dX8_init_102 rfl ?_
  refine Gc.bipush (v := nI 60) dX8_init_103 rfl ?_
  refine Gc.at 105 rfl ?_
  refine Gc.newiW (N := 60) dX8_init_105 rfl (Nat.le_of_ble_eq_true rfl) (Nat.le_of_ble_eq_true rfl) (Nat.le_of_ble_eq_true rfl) tI (fun q37 => ?_)
  refine Gc.putFW hw dX8_init_107 flX8_59 rfl rfl rfl rfl rfl (Nat.le_of_ble_eq_true rfl) ?_
  refine Gc.iconst (v := nI 0) dX8_init_110 rfl ?_
  refine Gc.istore_n (ls' := [some (vR a), some (vI (nI 0))]) dX8_init_111 (by decide) rfl ?_
  refine Gc.iload_n dX8_init_112 rfl ?_
  refine Gc.at 113 rfl ?_
  refine Gc.iconst (v := nI 4) dX8_init_113 rfl ?_
  refine Gc.icmp_ge (tgt := 136) dX8_init_114 (by decide) (fun z => absurd z (by decide)) (fun _ => ?_)
  refine Gc.aload_n dX8_init_117 rfl ?_
  refine Gc.getW (v := vR q35) hw dX8_init_118 flX8_49 rfl ?_
  refine Gc.iload_n dX8_init_121 rfl ?_
  refine Gc.at 122 rfl ?_
  refine Gc.newW (ci := 3) (N := 3) (fs := [.int 0, .int 0, .null]) dX8_init_122 (by decide) rfl (T0_at 182 (by decide +kernel) (by decide +kernel)) (T0_at 186 (by decide +kernel) (by decide +kernel)) (T0_at 7 (by decide +kernel) (by decide +kernel)) (by decide) (Nat.le_of_ble_eq_true rfl) (Nat.le_of_ble_eq_true rfl) (fun q38 => ?_)
  refine Gc.dupR dX8_init_125 ?_
  refine Gc.ctorN (M' := mX5_init) (mc' := 1) (ms' := 24) [] [vR q38, vI (nI 0), vR q35] dX8_init_126 (fun _ h => h.2.2.2.1) inX5_init rfl okX5_init rfl rfl (Nat.le_of_ble_eq_true rfl) rfl (Nat.le_of_ble_eq_true rfl) (Nat.le_of_ble_eq_true rfl) (Nat.le_of_ble_eq_true rfl) (Gc.mono (k_X5 ((Wd.getl 52).trans rfl)) ?_)
  rintro w ⟨q39, rfl⟩
  refine Gc.eqw Wd.sub ?_
  refine Gc.aastoreW (k := 1) 49 52 0 dX8_init_129 rfl rfl rfl rfl (Nat.le_of_ble_eq_true rfl) (Nat.le_of_ble_eq_true rfl) rfl ?_
  refine Gc.iinc (v := nI 1) (ls' := [some (vR a), some (vI (nI 1))]) dX8_init_130 rfl (by decide) (by decide) rfl ?_
  refine Gc.at 133 rfl ?_
  refine Gc.goto (tgt := 112) dX8_init_133 (by decide) ?_
  refine Gc.iload_n dX8_init_112 rfl ?_
  refine Gc.iconst (v := nI 4) dX8_init_113 rfl ?_
  refine Gc.icmp_ge (tgt := 136) dX8_init_114 (by decide) (fun z => absurd z (by decide)) (fun _ => ?_)
  refine Gc.aload_n dX8_init_117 rfl ?_
  refine Gc.at 118 rfl ?_
  refine Gc.getW (v := vR q35) hw dX8_init_118 flX8_49 rfl ?_
  refine Gc.iload_n dX8_init_121 rfl ?_
  refine Gc.newW (ci := 3) (N := 3) (fs := [.int 0, .int 0, .null]) dX8_init_122 (by decide) rfl (T0_at 182 (by decide +kernel) (by decide +kernel)) (T0_at 186 (by decide +kernel) (by decide +kernel)) (T0_at 7 (by decide +kernel) (by decide +kernel)) (by decide) (Nat.le_of_ble_eq_true rfl) (Nat.le_of_ble_eq_true rfl) (fun q40 => ?_)
  refine Gc.dupR dX8_init_125 ?_
  refine Gc.ctorN (M' := mX5_init) (mc' := 1) (ms' := 24) [] [vR q40, vI (nI 1), vR q35] dX8_init_126 (fun _ h => h.2.2.2.1) inX5_init rfl okX5_init rfl rfl (Nat.le_of_ble_eq_true rfl) rfl (Nat.le_of_ble_eq_true rfl) (Nat.le_of_ble_eq_true rfl) (Nat.le_of_ble_eq_true rfl) (Gc.mono (k_X5 ((Wd.getl 54).trans rfl)) ?_)
  rintro w ⟨q41, rfl⟩
  refine Gc.eqw Wd.sub ?_
  refine Gc.at 129 rfl ?_
  refine Gc.aastoreW (k := 1) 49 54 1 dX8_init_129 rfl rfl rfl rfl (Nat.le_of_ble_eq_true rfl) (Nat.le_of_ble_eq_true rfl) rfl ?_
  refine Gc.iinc (v := nI 2) (ls' := [some (vR a), some (vI (nI 2))]) dX8_init_130 rfl (by decide) (by decide) rfl ?_
  refine Gc.goto (tgt := 112) dX8_init_133 (by decide) ?_
  refine Gc.iload_n dX8_init_112 rfl ?_
  refine Gc.iconst (v := nI 4) dX8_init_113 rfl ?_
  refine Gc.at 114 rfl ?_
  refine Gc.icmp_ge (tgt := 136) dX8_init_114 (by decide) (fun z => absurd z (by decide)) (fun _ => ?_)
  refine Gc.aload_n dX8_init_117 rfl ?_
  refine Gc.getW (v := vR q35) hw dX8_init_118 flX8_49 rfl ?_
  refine Gc.iload_n dX8_init_121 rfl ?_
  refine Gc.newW (ci := 3) (N := 3) (fs := [.int 0, .int 0, .null]) dX8_init_122 (by decide) rfl (T0_at 182 (by decide +kernel) (by decide +kernel)) (T0_at 186 (by decide +kernel) (by decide +kernel)) (T0_at 7 (by decide +kernel) (by decide +kernel)) (by decide) (Nat.le_of_ble_eq_true rfl) (Nat.le_of_ble_eq_true rfl) (fun q42 => ?_)
  refine Gc.at 125 rfl ?_
  refine Gc.dupR dX8_init_125 ?_
  refine Gc.ctorN (M' := mX5_init) (mc' := 1) (ms' := 24) [] [vR q42, vI (nI 2), vR q35] dX8_init_126 (fun _ h => h.2.2.2.1) inX5_init rfl okX5_init rfl rfl (Nat.le_of_ble_eq_true rfl) rfl (Nat.le_of_ble_eq_true rfl) (Nat.le_of_ble_eq_true rfl) (Nat.le_of_ble_eq_true rfl) (Gc.mono (k_X5 ((Wd.getl 56).trans rfl)) ?_)
  rintro w ⟨q43, rfl⟩
  refine Gc.eqw Wd.sub ?_
  refine Gc.aastoreW (k := 1) 49 56 2 dX8_init_129 rfl rfl rfl rfl (Nat.le_of_ble_eq_true rfl) (Nat.le_of_ble_eq_true rfl) rfl ?_
  refine Gc.iinc (v := nI 3) (ls' := [some (vR a), some (vI (nI 3))]) dX8_init_130 rfl (by decide) (by decide) rfl ?_
  refine Gc.goto (tgt := 112) dX8_init_133 (by decide) ?_
  refine Gc.at 112 rfl ?_
  refine Gc.iload_n dX8_init_112 rfl ?_
  refine Gc.iconst (v := nI 4) dX8_init_113 rfl ?_
  refine Gc.icmp_ge (tgt := 136) dX8_init_114 (by decide) (fun z => absurd z (by decide)) (fun _ => ?_)
  refine Gc.aload_n dX8_init_117 rfl ?_
  refine Gc.getW (v := vR q35) hw dX8_init_118 flX8_49 rfl ?_
  refine Gc.at 121 rfl ?_
  refine Gc.iload_n dX8_init_121 rfl ?_
  refine Gc.newW (ci := 3) (N := 3) (fs := [.int 0, .int 0, .null]) dX8_init_122 (by decide) rfl (T0_at 182 (by decide +kernel) (by decide +kernel)) (T0_at 186 (by decide +kernel) (by decide +kernel)) (T0_at 7 (by decide +kernel) (by decide +kernel)) (by decide) (Nat.le_of_ble_eq_true rfl) (Nat.le_of_ble_eq_true rfl) (fun q44 => ?_)
  refine Gc.dupR dX8_init_125 ?_
  refine Gc.ctorN (M' := mX5_init) (mc' := 1) (ms' := 24) [] [vR q44, vI (nI 3), vR q35] dX8_init_126 (fun _ h => h.2.2.2.1) inX5_init rfl okX5_init rfl rfl (Nat.le_of_ble_eq_true rfl) rfl (Nat.le_of_ble_eq_true rfl) (Nat.le_of_ble_eq_true rfl) (Nat.le_of_ble_eq_true rfl) (Gc.mono (k_X5 ((Wd.getl 58).trans rfl)) ?_)
  rintro w ⟨q45, rfl⟩
  refine Gc.eqw Wd.sub ?_
  refine Gc.aastoreW (k := 1) 49 58 3 dX8_init_129 rfl rfl rfl rfl (Nat.le_of_ble_eq_true rfl) (Nat.le_of_ble_eq_true rfl) rfl ?_
  refine Gc.at 130 rfl ?_
  refine Gc.iinc (v := nI 4) (ls' := [some (vR a), some (vI (nI 4))]) dX8_init_130 rfl (by decide) (by decide) rfl ?_
  refine Gc.goto (tgt := 112) dX8_init_133 (by decide) ?_
  refine Gc.iload_n dX8_init_112 rfl ?_
  refine Gc.iconst (v := nI 4) dX8_init_113 rfl ?_
  refine Gc.icmp_ge (tgt := 136) dX8_init_114 (by decide) (fun _ => ?_) (fun z => absurd (by decide) z)
  refine Gc.at 136 rfl ?_
  refine Gc.iconst (v := nI 0) dX8_init_136 rfl ?_
  refine Gc.istore_n (ls' := [some (vR a), some (vI (nI 0))]) dX8_init_137 (by decide) rfl ?_
  refine Gc.iload_n dX8_init_138 rfl ?_
  refine Gc.iconst (v := nI 5) dX8_init_139 rfl ?_
  refine Gc.icmp_ge (tgt := 162) dX8_init_140 (by decide) (fun z => absurd z (by decide)) (fun _ => ?_)
  refine Gc.at 143 rfl ?_
  refine Gc.aload_n dX8_init_143 rfl ?_
  refine Gc.getW (v := vR q36) hw dX8_init_144 flX8_55 rfl ?_
  refine Gc.iload_n dX8_init_147 rfl ?_
  refine Gc.newW (ci := 4) (N := 5) (fs := [.int 0, .int 0, .int 0, .int 0, .null]) dX8_init_148 (by decide) rfl (T0_at 184 (by decide +kernel) (by decide +kernel)) (T0_at 205 (by decide +kernel) (by decide +kernel)) (T0_at 8 (by decide +kernel) (by decide +kernel)) (by decide) (Nat.le_of_ble_eq_true rfl) (Nat.le_of_ble_eq_true rfl) (fun q46 => ?_)
  refine Gc.dupR dX8_init_151 ?_
  refine Gc.at 152 rfl ?_
  refine Gc.ctorN (M' := mX6_init) (mc' := 2) (ms' := 27) [] [vR q46, vI (nI 0), vR q36] dX8_init_152 (fun _ h => h.2.2.2.2.1) inX6_init rfl okX6_init rfl rfl (Nat.le_of_ble_eq_true rfl) rfl (Nat.le_of_ble_eq_true rfl) (Nat.le_of_ble_eq_true rfl) (Nat.le_of_ble_eq_true rfl) (Gc.mono (k_X6 ((Wd.getl 60).trans rfl)) ?_)
  rintro w ⟨q47, q48, rfl⟩
  refine Gc.eqw Wd.sub ?_
  refine Gc.aastoreW (k := 2) 50 60 0 dX8_init_155 rfl rfl rfl rfl (Nat.le_of_ble_eq_true rfl) (Nat.le_of_ble_eq_true rfl) rfl ?_
  refine Gc.iinc (v := nI 1) (ls' := [some (vR a), some (vI (nI 1))]) dX8_init_156 rfl (by decide) (by decide) rfl ?_
  refine Gc.goto (tgt := 138) dX8_init_159 (by decide) ?_
  refine Gc.iload_n dX8_init_138 rfl ?_
  refine Gc.at 139 rfl ?_
  refine Gc.iconst (v := nI 5) dX8_init_139 rfl ?_
  refine Gc.icmp_ge (tgt := 162) dX8_init_140 (by decide) (fun z => absurd z (by decide)) (fun _ => ?_)
  refine Gc.aload_n dX8_init_143 rfl ?_
  refine Gc.getW (v := vR q36) hw dX8_init_144 flX8_55 rfl ?_
  refine Gc.iload_n dX8_init_147 rfl ?_
  refine Gc.at 148 rfl ?_
  refine Gc.newW (ci := 4) (N := 5) (fs := [.int 0, .int 0, .int 0, .int 0, .null]) dX8_init_148 (by decide) rfl (T0_at 184 (by decide +kernel) (by decide +kernel)) (T0_at 205 (by decide +kernel) (by decide +kernel)) (T0_at 8 (by decide +kernel) (by decide +kernel)) (by decide) (Nat.le_of_ble_eq_true rfl) (Nat.le_of_ble_eq_true rfl) (fun q49 => ?_)
  refine Gc.dupR dX8_init_151 ?_
  refine Gc.ctorN (M' := mX6_init) (mc' := 2) (ms' := 27) [] [vR q49, vI (nI 1), vR q36] dX8_init_152 (fun _ h => h.2.2.2.2.1) inX6_init rfl okX6_init rfl rfl (Nat.le_of_ble_eq_true rfl) rfl (Nat.le_of_ble_eq_true rfl) (Nat.le_of_ble_eq_true rfl) (Nat.le_of_ble_eq_true rfl) (Gc.mono (k_X6 ((Wd.getl 63).trans rfl)) ?_)
  rintro w ⟨q50, q51, rfl⟩
  refine Gc.eqw Wd.sub ?_
  refine Gc.aastoreW (k := 2) 50 63 1 dX8_init_155 rfl rfl rfl rfl (Nat.le_of_ble_eq_true rfl) (Nat.le_of_ble_eq_true rfl) rfl ?_
  refine Gc.iinc (v := nI 2) (ls' := [some (vR a), some (vI (nI 2))]) dX8_init_156 rfl (by decide) (by decide) rfl ?_
  refine Gc.at 159 rfl ?_
  refine Gc.goto (tgt := 138) dX8_init_159 (by decide) ?_
  refine Gc.iload_n dX8_init_138 rfl ?_
  refine Gc.iconst (v := nI 5) dX8_init_139 rfl ?_
  refine Gc.icmp_ge (tgt := 162) dX8_init_140 (by decide) (fun z => absurd z (by decide)) (fun _ => ?_)
  refine Gc.aload_n dX8_init_143 rfl ?_
  refine Gc.at 144 rfl ?_
  refine Gc.getW (v := vR q36) hw dX8_init_144 flX8_55 rfl ?_
  refine Gc.iload_n dX8_init_147 rfl ?_
  refine Gc.newW (ci := 4) (N := 5) (fs := [.int 0, .int 0, .int 0, .int 0, .null]) dX8_init_148 (by decide) rfl (T0_at 184 (by decide +kernel) (by decide +kernel)) (T0_at 205 (by decide +kernel) (by decide +kernel)) (T0_at 8 (by decide +kernel) (by decide +kernel)) (by decide) (Nat.le_of_ble_eq_true rfl) (Nat.le_of_ble_eq_true rfl) (fun q52 => ?_)
  refine Gc.dupR dX8_init_151 ?_
  refine Gc.ctorN (M' := mX6_init) (mc' := 2) (ms' := 27) [] [vR q52, vI (nI 2), vR q36] dX8_init_152 (fun _ h => h.2.2.2.2.1) inX6_init rfl okX6_init rfl rfl (Nat.le_of_ble_eq_true rfl) rfl (Nat.le_of_ble_eq_true rfl) (Nat.le_of_ble_eq_true rfl) (Nat.le_of_ble_eq_true rfl) (Gc.mono (k_X6 ((Wd.getl 66).trans rfl)) ?_)
  rintro w ⟨q53, q54, rfl⟩
  refine Gc.eqw Wd.sub ?_
  refine Gc.at 155 rfl ?_
  refine Gc.aastoreW (k := 2) 50 66 2 dX8_init_155 rfl rfl rfl rfl (Nat.le_of_ble_eq_true rfl) (Nat.le_of_ble_eq_true rfl) rfl ?_
  refine Gc.iinc (v := nI 3) (ls' := [some (vR a), some (vI (nI 3))]) dX8_init_156 rfl (by decide) (by decide) rfl ?_
  refine Gc.goto (tgt := 138) dX8_init_159 (by decide) ?_
  refine Gc.iload_n dX8_init_138 rfl ?_
  refine Gc.iconst (v := nI 5) dX8_init_139 rfl ?_
  refine Gc.at 140 rfl ?_
  refine Gc.icmp_ge (tgt := 162) dX8_init_140 (by decide) (fun z => absurd z (by decide)) (fun _ => ?_)
  refine Gc.aload_n dX8_init_143 rfl ?_
  refine Gc.getW (v := vR q36) hw dX8_init_144 flX8_55 rfl ?_
  refine Gc.iload_n dX8_init_147 rfl ?_
  refine Gc.newW (ci := 4) (N := 5) (fs := [.int 0, .int 0, .int 0, .int 0, .null]) dX8_init_148 (by decide) rfl (T0_at 184 (by decide +kernel) (by decide +kernel)) (T0_at 205 (by decide +kernel) (by decide +kernel)) (T0_at 8 (by decide +kernel) (by decide +kernel)) (by decide) (Nat.le_of_ble_eq_true rfl) (Nat.le_of_ble_eq_true rfl) (fun q55 => ?_)
  refine Gc.at 151 rfl ?_
  refine Gc.dupR dX8_init_151 ?_
  refine Gc.ctorN (M' := mX6_init) (mc' := 2) (ms' := 27) [] [vR q55, vI (nI 3), vR q36] dX8_init_152 (fun _ h => h.2.2.2.2.1) inX6_init rfl okX6_init rfl rfl (Nat.le_of_ble_eq_true rfl) rfl (Nat.le_of_ble_eq_true rfl) (Nat.le_of_ble_eq_true rfl) (Nat.le_of_ble_eq_true rfl) (Gc.mono (k_X6 ((Wd.getl 69).trans rfl)) ?_)
  rintro w ⟨q56, q57, rfl⟩
  refine Gc.eqw Wd.sub ?_
  refine Gc.aastoreW (k := 2) 50 69 3 dX8_init_155 rfl rfl rfl rfl (Nat.le_of_ble_eq_true rfl) (Nat.le_of_ble_eq_true rfl) rfl ?_
  refine Gc.iinc (v := nI 4) (ls' := [some (vR a), some (vI (nI 4))]) dX8_init_156 rfl (by decide) (by decide) rfl ?_
  refine Gc.goto (tgt := 138) dX8_init_159 (by decide) ?_
  refine Gc.at 138 rfl ?_
  refine Gc.iload_n dX8_init_138 rfl ?_
  refine Gc.iconst (v := nI 5) dX8_init_139 rfl ?_
  refine Gc.icmp_ge (tgt := 162) dX8_init_140 (by decide) (fun z => absurd z (by decide)) (fun _ => ?_)
  refine Gc.aload_n dX8_init_143 rfl ?_
  refine Gc.getW (v := vR q36) hw dX8_init_144 flX8_55 rfl ?_
  refine Gc.at 147 rfl ?_
  refine Gc.iload_n dX8_init_147 rfl ?_
  refine Gc.newW (ci := 4) (N := 5) (fs := [.int 0, .int 0, .int 0, .int 0, .null]) dX8_init_148 (by decide) rfl (T0_at 184 (by decide +kernel) (by decide +kernel)) (T0_at 205 (by decide +kernel) (by decide +kernel)) (T0_at 8 (by decide +kernel) (by decide +kernel)) (by decide) (Nat.le_of_ble_eq_true rfl) (Nat.le_of_ble_eq_true rfl) (fun q58 => ?_)
  refine Gc.dupR dX8_init_151 ?_
  refine Gc.ctorN (M' := mX6_init) (mc' := 2) (ms' := 27) [] [vR q58, vI (nI 4), vR q36] dX8_init_152 (fun _ h => h.2.2.2.2.1) inX6_init rfl okX6_init rfl rfl (Nat.le_of_ble_eq_true rfl) rfl (Nat.le_of_ble_eq_true rfl) (Nat.le_of_ble_eq_true rfl) (Nat.le_of_ble_eq_true rfl) (Gc.mono (k_X6 ((Wd.getl 72).trans rfl)) ?_)
  rintro w ⟨q59, q60, rfl⟩
  refine Gc.eqw Wd.sub ?_
  refine Gc.aastoreW (k := 2) 50 72 4 dX8_init_155 rfl rfl rfl rfl (Nat.le_of_ble_eq_true rfl) (Nat.le_of_ble_eq_true rfl) rfl ?_
  refine Gc.at 156 rfl ?_
  refine Gc.iinc (v := nI 5) (ls' := [some (vR a), some (vI (nI 5))]) dX8_init_156 rfl (by decide) (by decide) rfl ?_
  refine Gc.goto (tgt := 138) dX8_init_159 (by decide) ?_
  refine Gc.iload_n dX8_init_138 rfl ?_
  refine Gc.iconst (v := nI 5) dX8_init_139 rfl ?_
  refine Gc.icmp_ge (tgt := 162) dX8_init_140 (by decide) (fun _ => ?_) (fun z => absurd (by decide) z)
  refine Gc.at 162 rfl ?_
  refine Gc.ret dX8_init_162 rfl rfl ?_
  exact ⟨(fun i => [a, q0, q1, q2, q3, q4, q5, q6, q7, q8, q9, q10, q11, q12, q13, q14, q15, q16, q17, q18, q19, q20, q21, q22, q23, q24, q25, q26, q27, q28, q29, q30, q31, q32, q33, q34, q35, q36, q37, 0, 0, 0, 0, 0, 0, 0, 0, 0, 0, 0, 0, 0, 0, q38, q40, q42, q44, q39, q41, q43, q45, q46, q49, q52, q55, q58, q47, q50, q53, q56, q59, q48, q51, q54, q57, q60].getD i 0), r, rfl⟩
