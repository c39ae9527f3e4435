section WD2
variable {ws : va_W} {k : Nat} {x y : Nat × va_E} {l l2 : va_W}
theorem Wd.coll (hk : k < ws.length) : Wd (Wd ws k x l) k y l2 = Wd ws k y (l ++ l2) := by
  show (Wd ws k x l).set k y ++ l2 = _
  rw [Wd.put hk, Wd.app]
theorem Wd.lt (hk : k < ws.length) : k < (Wd ws k x l).length := by rw [Wd.len]; omega
theorem Wd.getT {t : Nat} (ht : t < ws.length) (hne : t ≠ k) : (Wd (ws.set t y) k x l)[t]? = some y := by
  unfold Wd
  rw [List.getElem?_append_left (by rw [List.length_set, List.length_set]; exact ht), List.getElem?_set_ne (Ne.symm hne), List.getElem?_set_self ht]
theorem Wd.setT {t : Nat} (ht : t < ws.length) (hne : t ≠ k) : (Wd ws k x l).set t y = Wd (ws.set t y) k x l := by
  unfold Wd
  rw [List.set_append_left _ _ (by rw [List.length_set]; exact ht), List.set_comm _ _ (Ne.symm hne)]
theorem Wd.getO {t : Nat} (ht : t < ws.length) (hne : t ≠ k) : (Wd ws k x l)[t]? = ws[t]? := by
  unfold Wd
  rw [List.getElem?_append_left (by rw [List.length_set]; exact ht), List.getElem?_set_ne (Ne.symm hne)]
end WD2
def pLaw (E : Ec) (q q0 q1 q2 q3 q4 : Nat) (r : Nat → Nat) : va_W := (q, .inr (1, [.ref q0, .ref q1, .ref q2, .ref q3, .ref q4, .int 0])) :: ([(q0, .inl (E.2.2 0, 14, .inl (fun _ => 0))), (q1, .inl (E.2.2 0, 14, .inl (fun _ => 0))), (q2, .inl (E.2.2 0, 14, .inl (fun _ => 0))), (q3, .inl (E.2.2 3, 14, .inr (.inr (.inr (.inr (fun i => if i < 14 then some (r i) else none))))))] ++ (List.range 14).map (fun i => (r i, .inl (E.2.2 0, 96, .inl (fun _ => 0)))) ++ [(q4, .inl (E.2.2 0, 96, .inl (fun _ => 0)))])
def pIsl (E : Ec) (b q q0 q1 q2 q3 q4 q5 q6 : Nat) : va_W := [(q, .inr (0, [.ref q0, .ref q1, .ref q2, .ref q3, .ref q4, .ref q5, .ref q6, .int 0, .int 0, .int 0, .int (nI 1), .int 0, .ref b])), (q0, .inl (E.2.2 0, 30, .inl (fun _ => 0))), (q1, .inl (E.2.2 0, 30, .inl (fun _ => 0))), (q2, .inl (E.2.2 0, 30, .inl (fun _ => 0))), (q3, .inl (E.2.2 0, 30, .inl (fun j => if j < 30 then (-1000000005) else 0))), (q4, .inl (E.2.2 0, 6, .inl (upd (upd (upd (upd (upd (upd (fun _ => 0) 0 (nI 2)) 1 (nI 8)) 2 (nI 3)) 3 (nI 0)) 4 (nI 20)) 5 (nI 1)))), (q5, .inl (E.2.2 0, 8, .inl (fun _ => 0))), (q6, .inl (E.2.2 0, 8, .inl (fun _ => 0)))]
def pTape (E : Ec) (q q0 : Nat) : va_W := [(q, .inr (5, [.int 0, .ref q0])), (q0, .inl (E.2.2 0, 96, .inl (fun _ => 0)))]
def pRead (E : Ec) (b q q0 q1 : Nat) : va_W := [(q, .inr (2, [.int 0, .int 0, .ref q0, .int 0, .ref b, .int 0, .int 0, .ref q1, .int 0, .int 0, .int 0, .int 0])), (q0, .inl (E.2.2 0, 96, .inl (fun _ => 0))), (q1, .inl (E.2.2 0, 96, .inl (fun _ => 0)))]
def pSheet (E : Ec) (q q0 : Nat) : va_W := [(q, .inr (3, [.int (-1), .int 0, .ref q0])), (q0, .inl (E.2.2 0, 24, .inl (fun _ => 0)))]
def pSlot (E : Ec) (q q0 q1 : Nat) : va_W := [(q, .inr (4, [.int 0, .int 0, .int 0, .int 0, .ref q0])), (q0, .inr (3, [.int (-1), .int 0, .ref q1])), (q1, .inl (E.2.2 0, 24, .inl (fun _ => 0)))]
abbrev aRef (E : Ec) (k N : Nat) (f : Nat → Option Nat) : va_E := .inl (E.2.2 k, N, .inr (.inr (.inr (.inr f))))
theorem s_laws {E : Ec} {d : Nat} {ws : va_W} {k a : Nat} {fs : List Value} {Q : va_W → Prop} (h : ws[k]? = some (a, .inr (6, fs))) (hfs : fs.length = 11) (kk : ∀ q q0 q1 q2 q3 q4 : Nat, ∀ r : Nat → Nat, Gc E (d + 3) 75 2606 mX8_init 15 [some (vR a), none] [] (Wd ws k (a, .inr (6, fs.set 0 (.ref q))) (pLaw E q q0 q1 q2 q3 q4 r)) 20 1502 Q) : Gc E (d + 3) 75 2606 mX8_init 4 [some (vR a), none] [] ws 0 0 Q := by
  have hw : k < ws.length := (List.getElem?_eq_some_iff.mp h).1
  refine Gc.eqw (Wd.init h) ?_
  refine Gc.aload_n dX8_init_4 rfl ?_
  refine Gc.newW (ci := 1) (N := 6) (fs := [.null, .null, .null, .null, .null, .int 0]) dX8_init_5 (by decide) rfl (T0_at 28 (by decide +kernel) (by decide +kernel)) (T0_at 29 (by decide +kernel) (by decide +kernel)) (T0_at 2 (by decide +kernel) (by decide +kernel)) (by decide) (Nat.le_of_ble_eq_true rfl) (Nat.le_of_ble_eq_true rfl) (fun q => ?_)
  refine Gc.dupR dX8_init_8 ?_
  refine Gc.ctorN (M' := mX3_init) (mc' := 19) (ms' := 1496) [] [vR q, vR a] dX8_init_9 (fun _ h => h.2.1) inX3_init rfl okX3_init rfl rfl (Nat.le_of_ble_eq_true rfl) rfl (Nat.le_of_ble_eq_true rfl) (Nat.le_of_ble_eq_true rfl) (Nat.le_of_ble_eq_true rfl) (Gc.mono (k_X3 ((Wd.getl 0).trans rfl)) ?_)
  rintro w ⟨q0, q1, q2, q3, q4, r, rfl⟩
  refine Gc.eqw Wd.sub ?_
  refine Gc.putFW hw dX8_init_12 flX8_10 rfl rfl rfl rfl rfl (by rw [hfs]; decide) ?_
  refine Gc.at 15 rfl ?_
  exact kk q q0 q1 q2 q3 q4 r
theorem s_now {E : Ec} {d : Nat} {ws : va_W} {k a b : Nat} {fs : List Value} {Q : va_W → Prop} (h : ws[k]? = some (a, .inr (6, fs))) (hfs : fs.length = 11) (hb : fs[0]? = some (.ref b)) (kk : ∀ q q0 q1 q2 q3 q4 q5 q6 : Nat, Gc E (d + 3) 75 2606 mX8_init 30 [some (vR a), none] [] (Wd ws k (a, .inr (6, fs.set 1 (.ref q))) (pIsl E b q q0 q1 q2 q3 q4 q5 q6)) 28 1657 Q) : Gc E (d + 3) 75 2606 mX8_init 15 [some (vR a), none] [] ws 20 1502 Q := by
  have hw : k < ws.length := (List.getElem?_eq_some_iff.mp h).1
  refine Gc.eqw (Wd.init h) ?_
  refine Gc.aload_n dX8_init_15 rfl ?_
  refine Gc.newW (ci := 0) (N := 13) (fs := [.null, .null, .null, .null, .null, .null, .null, .int 0, .int 0, .int 0, .int 0, .int 0, .null]) dX8_init_16 (by decide) rfl (T0_at 58 (by decide +kernel) (by decide +kernel)) (T0_at 59 (by decide +kernel) (by decide +kernel)) (T0_at 3 (by decide +kernel) (by decide +kernel)) (by decide) (Nat.le_of_ble_eq_true rfl) (Nat.le_of_ble_eq_true rfl) (fun q => ?_)
  refine Gc.dupR dX8_init_19 ?_
  refine Gc.aload_n dX8_init_20 rfl ?_
  refine Gc.getW (v := vR b) hw dX8_init_21 flX8_10 hb ?_
  refine Gc.at 24 rfl ?_
  refine Gc.ctor (M' := mX1_init) (mc' := 7) (ms' := 142) [vR b] [vR q, vR a] dX8_init_24 (T0_at 60 (by decide +kernel) (by decide +kernel)) inX1_init rfl okX1_init rfl rfl (Nat.le_of_ble_eq_true rfl) rfl (Nat.le_of_ble_eq_true rfl) (Nat.le_of_ble_eq_true rfl) (Nat.le_of_ble_eq_true rfl) (Gc.mono (k_X1 (b := b) ((Wd.getl 0).trans rfl)) ?_)
  rintro w ⟨q0, q1, q2, q3, q4, q5, q6, rfl⟩
  refine Gc.eqw Wd.sub ?_
  refine Gc.putFW hw dX8_init_27 flX8_21 rfl rfl rfl rfl rfl (by rw [hfs]; decide) ?_
  exact kk q q0 q1 q2 q3 q4 q5 q6
theorem s_img {E : Ec} {d : Nat} {ws : va_W} {k a b : Nat} {fs : List Value} {Q : va_W → Prop} (h : ws[k]? = some (a, .inr (6, fs))) (hfs : fs.length = 11) (hb : fs[0]? = some (.ref b)) (kk : ∀ q q0 q1 q2 q3 q4 q5 q6 : Nat, Gc E (d + 3) 75 2606 mX8_init 45 [some (vR a), none] [] (Wd ws k (a, .inr (6, fs.set 2 (.ref q))) (pIsl E b q q0 q1 q2 q3 q4 q5 q6)) 36 1812 Q) : Gc E (d + 3) 75 2606 mX8_init 30 [some (vR a), none] [] ws 28 1657 Q := by
  have hw : k < ws.length := (List.getElem?_eq_some_iff.mp h).1
  refine Gc.eqw (Wd.init h) ?_
  refine Gc.aload_n dX8_init_30 rfl ?_
  refine Gc.newW (ci := 0) (N := 13) (fs := [.null, .null, .null, .null, .null, .null, .null, .int 0, .int 0, .int 0, .int 0, .int 0, .null]) dX8_init_31 (by decide) rfl (T0_at 58 (by decide +kernel) (by decide +kernel)) (T0_at 59 (by decide +kernel) (by decide +kernel)) (T0_at 3 (by decide +kernel) (by decide +kernel)) (by decide) (Nat.le_of_ble_eq_true rfl) (Nat.le_of_ble_eq_true rfl) (fun q => ?_)
  refine Gc.dupR dX8_init_34 ?_
  refine Gc.aload_n dX8_init_35 rfl ?_
  refine Gc.getW (v := vR b) hw dX8_init_36 flX8_10 hb ?_
  refine Gc.at 39 rfl ?_
  refine Gc.ctor (M' := mX1_init) (mc' := 7) (ms' := 142) [vR b] [vR q, vR a] dX8_init_39 (T0_at 60 (by decide +kernel) (by decide +kernel)) inX1_init rfl okX1_init rfl rfl (Nat.le_of_ble_eq_true rfl) rfl (Nat.le_of_ble_eq_true rfl) (Nat.le_of_ble_eq_true rfl) (Nat.le_of_ble_eq_true rfl) (Gc.mono (k_X1 (b := b) ((Wd.getl 0).trans rfl)) ?_)
  rintro w ⟨q0, q1, q2, q3, q4, q5, q6, rfl⟩
  refine Gc.eqw Wd.sub ?_
  refine Gc.putFW hw dX8_init_42 flX8_25 rfl rfl rfl rfl rfl (by rw [hfs]; decide) ?_
  exact kk q q0 q1 q2 q3 q4 q5 q6
theorem s_tri {E : Ec} {d : Nat} {ws : va_W} {k a b : Nat} {fs : List Value} {Q : va_W → Prop} (h : ws[k]? = some (a, .inr (6, fs))) (hfs : fs.length = 11) (hb : fs[0]? = some (.ref b)) (kk : ∀ q q0 q1 q2 q3 q4 q5 q6 : Nat, Gc E (d + 3) 75 2606 mX8_init 60 [some (vR a), none] [] (Wd ws k (a, .inr (6, fs.set 3 (.ref q))) (pIsl E b q q0 q1 q2 q3 q4 q5 q6)) 44 1967 Q) : Gc E (d + 3) 75 2606 mX8_init 45 [some (vR a), none] [] ws 36 1812 Q := by
  have hw : k < ws.length := (List.getElem?_eq_some_iff.mp h).1
  refine Gc.eqw (Wd.init h) ?_
  refine Gc.aload_n dX8_init_45 rfl ?_
  refine Gc.newW (ci := 0) (N := 13) (fs := [.null, .null, .null, .null, .null, .null, .null, .int 0, .int 0, .int 0, .int 0, .int 0, .null]) dX8_init_46 (by decide) rfl (T0_at 58 (by decide +kernel) (by decide +kernel)) (T0_at 59 (by decide +kernel) (by decide +kernel)) (T0_at 3 (by decide +kernel) (by decide +kernel)) (by decide) (Nat.le_of_ble_eq_true rfl) (Nat.le_of_ble_eq_true rfl) (fun q => ?_)
  refine Gc.dupR dX8_init_49 ?_
  refine Gc.aload_n dX8_init_50 rfl ?_
  refine Gc.getW (v := vR b) hw dX8_init_51 flX8_10 hb ?_
  refine Gc.at 54 rfl ?_
  refine Gc.ctor (M' := mX1_init) (mc' := 7) (ms' := 142) [vR b] [vR q, vR a] dX8_init_54 (T0_at 60 (by decide +kernel) (by decide +kernel)) inX1_init rfl okX1_init rfl rfl (Nat.le_of_ble_eq_true rfl) rfl (Nat.le_of_ble_eq_true rfl) (Nat.le_of_ble_eq_true rfl) (Nat.le_of_ble_eq_true rfl) (Gc.mono (k_X1 (b := b) ((Wd.getl 0).trans rfl)) ?_)
  rintro w ⟨q0, q1, q2, q3, q4, q5, q6, rfl⟩
  refine Gc.eqw Wd.sub ?_
  refine Gc.putFW hw dX8_init_57 flX8_28 rfl rfl rfl rfl rfl (by rw [hfs]; decide) ?_
  exact kk q q0 q1 q2 q3 q4 q5 q6
theorem s_tape {E : Ec} {d : Nat} {ws : va_W} {k a : Nat} {fs : List Value} {Q : va_W → Prop} (h : ws[k]? = some (a, .inr (6, fs))) (hfs : fs.length = 11) (kk : ∀ q q0 : Nat, Gc E (d + 3) 75 2606 mX8_init 71 [some (vR a), none] [] (Wd ws k (a, .inr (6, fs.set 4 (.ref q))) (pTape E q q0)) 46 2065 Q) : Gc E (d + 3) 75 2606 mX8_init 60 [some (vR a), none] [] ws 44 1967 Q := by
  have hw : k < ws.length := (List.getElem?_eq_some_iff.mp h).1
  refine Gc.eqw (Wd.init h) ?_
  refine Gc.aload_n dX8_init_60 rfl ?_
  refine Gc.newW (ci := 5) (N := 2) (fs := [.int 0, .null]) dX8_init_61 (by decide) rfl (T0_at 120 (by decide +kernel) (by decide +kernel)) (T0_at 121 (by decide +kernel) (by decide +kernel)) (T0_at 5 (by decide +kernel) (by decide +kernel)) (by decide) (Nat.le_of_ble_eq_true rfl) (Nat.le_of_ble_eq_true rfl) (fun q => ?_)
  refine Gc.dupR dX8_init_64 ?_
  refine Gc.ctorN (M' := mX7_init) (mc' := 1) (ms' := 96) [] [vR q, vR a] dX8_init_65 (fun _ h => h.2.2.1) inX7_init rfl okX7_init rfl rfl (Nat.le_of_ble_eq_true rfl) rfl (Nat.le_of_ble_eq_true rfl) (Nat.le_of_ble_eq_true rfl) (Nat.le_of_ble_eq_true rfl) (Gc.mono (k_X7 ((Wd.getl 0).trans rfl)) ?_)
  rintro w ⟨q0, rfl⟩
  refine Gc.eqw Wd.sub ?_
  refine Gc.putFW hw dX8_init_68 flX8_34 rfl rfl rfl rfl rfl (by rw [hfs]; decide) ?_
  refine Gc.at 71 rfl ?_
  exact kk q q0
theorem s_read {E : Ec} {d : Nat} {ws : va_W} {k a b : Nat} {fs : List Value} {Q : va_W → Prop} (h : ws[k]? = some (a, .inr (6, fs))) (hfs : fs.length = 11) (hb : fs[4]? = some (.ref b)) (kk : ∀ q q0 q1 : Nat, Gc E (d + 3) 75 2606 mX8_init 86 [some (vR a), none] [] (Wd ws k (a, .inr (6, fs.set 5 (.ref q))) (pRead E b q q0 q1)) 49 2269 Q) : Gc E (d + 3) 75 2606 mX8_init 71 [some (vR a), none] [] ws 46 2065 Q := by
  have hw : k < ws.length := (List.getElem?_eq_some_iff.mp h).1
  refine Gc.eqw (Wd.init h) ?_
  refine Gc.aload_n dX8_init_71 rfl ?_
  refine Gc.newW (ci := 2) (N := 12) (fs := [.int 0, .int 0, .null, .int 0, .null, .int 0, .int 0, .null, .int 0, .int 0, .int 0, .int 0]) dX8_init_72 (by decide) rfl (T0_at 135 (by decide +kernel) (by decide +kernel)) (T0_at 136 (by decide +kernel) (by decide +kernel)) (T0_at 6 (by decide +kernel) (by decide +kernel)) (by decide) (Nat.le_of_ble_eq_true rfl) (Nat.le_of_ble_eq_true rfl) (fun q => ?_)
  refine Gc.dupR dX8_init_75 ?_
  refine Gc.aload_n dX8_init_76 rfl ?_
  refine Gc.getW (v := vR b) hw dX8_init_77 flX8_34 hb ?_
  refine Gc.at 80 rfl ?_
  refine Gc.ctor (M' := mX4_init) (mc' := 2) (ms' := 192) [vR b] [vR q, vR a] dX8_init_80 (T0_at 137 (by decide +kernel) (by decide +kernel)) inX4_init rfl okX4_init rfl rfl (Nat.le_of_ble_eq_true rfl) rfl (Nat.le_of_ble_eq_true rfl) (Nat.le_of_ble_eq_true rfl) (Nat.le_of_ble_eq_true rfl) (Gc.mono (k_X4 (b := b) ((Wd.getl 0).trans rfl)) ?_)
  rintro w ⟨q0, q1, rfl⟩
  refine Gc.eqw Wd.sub ?_
  refine Gc.putFW hw dX8_init_83 flX8_43 rfl rfl rfl rfl rfl (by rw [hfs]; decide) ?_
  exact kk q q0 q1
theorem s_arr {E : Ec} {d : Nat} {ws : va_W} {k a : Nat} {fs : List Value} {Q : va_W → Prop} (h : ws[k]? = some (a, .inr (6, fs))) (hfs : fs.length = 11) (kk : ∀ q0 q1 q2 : Nat, Gc E (d + 3) 75 2606 mX8_init 110 [some (vR a), none] [] (Wd ws k (a, .inr (6, ((fs.set 6 (.ref q0)).set 7 (.ref q1)).set 8 (.ref q2))) [(q0, aRef E 1 4 (fun _ => none)), (q1, aRef E 2 5 (fun _ => none)), (q2, .inl (E.2.2 0, 60, .inl (fun _ => 0)))]) 52 2338 Q) : Gc E (d + 3) 75 2606 mX8_init 86 [some (vR a), none] [] ws 49 2269 Q := by
  have hw : k < ws.length := (List.getElem?_eq_some_iff.mp h).1
  refine Gc.eqw (Wd.init h) ?_
  refine Gc.aload_n dX8_init_86 rfl ?_
  refine Gc.iconst (v := nI 4) dX8_init_87 rfl ?_
  refine Gc.newqW (C := RX5) (k := 1) (N := 4) dX8_init_88 rfl (fun _ h => h.1.1) (T0_at 182 (by decide +kernel) (by decide +kernel)) rfl (Nat.le_of_ble_eq_true rfl) (Nat.le_of_ble_eq_true rfl) (Nat.le_of_ble_eq_true rfl) (fun q0 => ?_)
  refine Gc.putFW hw dX8_init_91 flX8_49 rfl rfl rfl rfl rfl (by first | (rw [hfs]; decide) | (rw [List.length_set, hfs]; decide) | (rw [List.length_set, List.length_set, hfs]; decide)) ?_
  refine Gc.aload_n dX8_init_94 rfl ?_
  refine Gc.at 95 rfl ?_
  refine Gc.iconst (v := nI 5) dX8_init_95 rfl ?_
  refine Gc.newqW (C := RX6) (k := 2) (N := 5) dX8_init_96 rfl (fun _ h => h.1.2.1) (T0_at 184 (by decide +kernel) (by decide +kernel)) rfl (Nat.le_of_ble_eq_true rfl) (Nat.le_of_ble_eq_true rfl) (Nat.le_of_ble_eq_true rfl) (fun q1 => ?_)
  refine Gc.putFW hw dX8_init_99 flX8_55 rfl rfl rfl rfl rfl (by first | (rw [hfs]; decide) | (rw [List.length_set, hfs]; decide) | (rw [List.length_set, List.length_set, hfs]; decide)) ?_
  refine Gc.aload_n dX8_init_102 rfl ?_
  refine Gc.bipush (v := nI 60) dX8_init_103 rfl ?_
  refine Gc.at 105 rfl ?_
  refine Gc.newiW (N := 60) dX8_init_105 rfl (Nat.le_of_ble_eq_true rfl) (Nat.le_of_ble_eq_true rfl) (Nat.le_of_ble_eq_true rfl) tI (fun q2 => ?_)
  refine Gc.putFW hw dX8_init_107 flX8_59 rfl rfl rfl rfl rfl (by first | (rw [hfs]; decide) | (rw [List.length_set, hfs]; decide) | (rw [List.length_set, List.length_set, hfs]; decide)) ?_
  exact kk q0 q1 q2
theorem s_sheet {E : Ec} {d : Nat} {ws : va_W} {k a t b j cs sl : Nat} {fs : List Value} {f : Nat → Option Nat} {Q : va_W → Prop} (h : ws[k]? = some (a, .inr (6, fs))) (hb : fs[6]? = some (.ref b)) (ht : ws[t]? = some (b, aRef E 1 4 f)) (hne : t ≠ k) (hj : j < 4) (hc : cs + 2 ≤ 75) (hs : sl + 27 ≤ 2606) (kk : ∀ q q0 : Nat, Gc E (d + 3) 75 2606 mX8_init 112 [some (vR a), some (vI (nI (j + 1)))] [] (Wd (ws.set t (b, aRef E 1 4 (va_up f j (some q)))) k (a, .inr (6, fs)) (pSheet E q q0)) (cs + 2) (sl + 27) Q) : Gc E (d + 3) 75 2606 mX8_init 112 [some (vR a), some (vI (nI j))] [] ws cs sl Q := by
  have hw : k < ws.length := (List.getElem?_eq_some_iff.mp h).1
  have hwt : t < ws.length := (List.getElem?_eq_some_iff.mp ht).1
  refine Gc.eqw (Wd.init h) ?_
  refine Gc.iload_n dX8_init_112 rfl ?_
  refine Gc.iconst (v := nI 4) dX8_init_113 rfl ?_
  refine Gc.icmp_ge (tgt := 136) dX8_init_114 (by decide) (fun z => absurd z (by rw [sI_le, nT, nT]; omega)) (fun _ => ?_)
  refine Gc.aload_n dX8_init_117 rfl ?_
  refine Gc.getW (v := vR b) hw dX8_init_118 flX8_49 hb ?_
  refine Gc.at 121 rfl ?_
  refine Gc.iload_n dX8_init_121 rfl ?_
  refine Gc.newW (ci := 3) (N := 3) (fs := [.int 0, .int 0, .null]) dX8_init_122 (by decide) rfl (T0_at 182 (by decide +kernel) (by decide +kernel)) (T0_at 186 (by decide +kernel) (by decide +kernel)) (T0_at 7 (by decide +kernel) (by decide +kernel)) (by decide) (by omega) (by omega) (fun q => ?_)
  refine Gc.dupR dX8_init_125 ?_
  refine Gc.ctorN (M' := mX5_init) (mc' := 1) (ms' := 24) [] [vR q, vI (nI j), vR b] dX8_init_126 (fun _ h => h.2.2.2.1) inX5_init rfl okX5_init rfl rfl (Nat.le_of_ble_eq_true rfl) rfl (Nat.le_of_ble_eq_true rfl) (by omega) (by omega) (Gc.mono (k_X5 ((Wd.getl 0).trans rfl)) ?_)
  rintro w ⟨q0, rfl⟩
  refine Gc.eqw Wd.sub ?_
  refine Gc.aastore (k := 1) t (ws.length + 0) j dX8_init_129 ((Wd.getO hwt hne).trans ht) rfl ((Wd.getl 0).trans rfl) rfl (Nat.le_of_ble_eq_true rfl) hj rfl (Gc.eqw (Wd.setT hwt hne) ?_)
  refine Gc.iinc (v := nI (j + 1)) (ls' := [some (vR a), some (vI (nI (j + 1)))]) dX8_init_130 rfl (nI_add _ _) (by decide) rfl ?_
  refine Gc.goto (tgt := 112) dX8_init_133 (by decide) ?_
  rw [Nat.add_assoc cs, Nat.add_assoc sl]
  exact kk q q0
theorem s_slot {E : Ec} {d : Nat} {ws : va_W} {k a t b j cs sl : Nat} {fs : List Value} {f : Nat → Option Nat} {Q : va_W → Prop} (h : ws[k]? = some (a, .inr (6, fs))) (hb : fs[7]? = some (.ref b)) (ht : ws[t]? = some (b, aRef E 2 5 f)) (hne : t ≠ k) (hj : j < 5) (hc : cs + 3 ≤ 75) (hs : sl + 32 ≤ 2606) (kk : ∀ q q0 q1 : Nat, Gc E (d + 3) 75 2606 mX8_init 138 [some (vR a), some (vI (nI (j + 1)))] [] (Wd (ws.set t (b, aRef E 2 5 (va_up f j (some q)))) k (a, .inr (6, fs)) (pSlot E q q0 q1)) (cs + 3) (sl + 32) Q) : Gc E (d + 3) 75 2606 mX8_init 138 [some (vR a), some (vI (nI j))] [] ws cs sl Q := by
  have hw : k < ws.length := (List.getElem?_eq_some_iff.mp h).1
  have hwt : t < ws.length := (List.getElem?_eq_some_iff.mp ht).1
  refine Gc.eqw (Wd.init h) ?_
  refine Gc.iload_n dX8_init_138 rfl ?_
  refine Gc.iconst (v := nI 5) dX8_init_139 rfl ?_
  refine Gc.icmp_ge (tgt := 162) dX8_init_140 (by decide) (fun z => absurd z (by rw [sI_le, nT, nT]; omega)) (fun _ => ?_)
  refine Gc.aload_n dX8_init_143 rfl ?_
  refine Gc.getW (v := vR b) hw dX8_init_144 flX8_55 hb ?_
  refine Gc.at 147 rfl ?_
  refine Gc.iload_n dX8_init_147 rfl ?_
  refine Gc.newW (ci := 4) (N := 5) (fs := [.int 0, .int 0, .int 0, .int 0, .null]) dX8_init_148 (by decide) rfl (T0_at 184 (by decide +kernel) (by decide +kernel)) (T0_at 205 (by decide +kernel) (by decide +kernel)) (T0_at 8 (by decide +kernel) (by decide +kernel)) (by decide) (by omega) (by omega) (fun q => ?_)
  refine Gc.dupR dX8_init_151 ?_
  refine Gc.ctorN (M' := mX6_init) (mc' := 2) (ms' := 27) [] [vR q, vI (nI j), vR b] dX8_init_152 (fun _ h => h.2.2.2.2.1) inX6_init rfl okX6_init rfl rfl (Nat.le_of_ble_eq_true rfl) rfl (Nat.le_of_ble_eq_true rfl) (by omega) (by omega) (Gc.mono (k_X6 ((Wd.getl 0).trans rfl)) ?_)
  rintro w ⟨q0, q1, rfl⟩
  refine Gc.eqw Wd.sub ?_
  refine Gc.aastore (k := 2) t (ws.length + 0) j dX8_init_155 ((Wd.getO hwt hne).trans ht) rfl ((Wd.getl 0).trans rfl) rfl (Nat.le_of_ble_eq_true rfl) hj rfl (Gc.eqw (Wd.setT hwt hne) ?_)
  refine Gc.iinc (v := nI (j + 1)) (ls' := [some (vR a), some (vI (nI (j + 1)))]) dX8_init_156 rfl (nI_add _ _) (by decide) rfl ?_
  refine Gc.goto (tgt := 138) dX8_init_159 (by decide) ?_
  rw [Nat.add_assoc cs, Nat.add_assoc sl]
  exact kk q q0 q1
section LP
variable {ws : va_W} {k : Nat} {x y c c0 : Nat × va_E} {L R P : va_W}
theorem gA0 : (L ++ c :: R)[L.length]? = some c := by rw [List.getElem?_append_right (Nat.le_refl _), Nat.sub_self]; rfl
theorem gA1 : (L ++ c0 :: c :: R)[L.length + 1]? = some c := by rw [List.getElem?_append_right (by omega), Nat.add_sub_cancel_left]; rfl
theorem sA0 : (L ++ c :: R).set L.length y = L ++ y :: R := by rw [List.set_append_right _ _ (Nat.le_refl _), Nat.sub_self]; rfl
theorem sA1 : (L ++ c0 :: c :: R).set (L.length + 1) y = L ++ c0 :: y :: R := by rw [List.set_append_right _ _ (by omega), Nat.add_sub_cancel_left]; rfl
theorem itA (hw : k < ws.length) : Wd ((Wd ws k x (L ++ c :: R)).set (ws.length + L.length) y) k x P = Wd ws k x (L ++ y :: (R ++ P)) := by
  rw [Wd.setl, sA0, Wd.coll hw, List.append_assoc]; rfl
theorem itB (hw : k < ws.length) : Wd ((Wd ws k x (L ++ c0 :: c :: R)).set (ws.length + (L.length + 1)) y) k x P = Wd ws k x (L ++ c0 :: y :: (R ++ P)) := by
  rw [Wd.setl, sA1, Wd.coll hw, List.append_assoc]; rfl
end LP
theorem s_loops {E : Ec} {d : Nat} {ws L : va_W} {k a b6 b7 : Nat} {fs : List Value} {c38 : Nat × va_E} {Q : va_W → Prop} (hw : k < ws.length) (h6 : fs[6]? = some (.ref b6)) (h7 : fs[7]? = some (.ref b7))
    (kk : ∀ s0 v0 s1 v1 s2 v2 s3 v3 t0 h0 w0 t1 h1 w1 t2 h2 w2 t3 h3 w3 t4 h4 w4 : Nat, Q (Wd ws k (a, .inr (6, fs)) (L ++ (b6, aRef E 1 4 (va_up (va_up (va_up (va_up (fun _ => none) 0 (some s0)) 1 (some s1)) 2 (some s2)) 3 (some s3))) :: (b7, aRef E 2 5 (va_up (va_up (va_up (va_up (va_up (fun _ => none) 0 (some t0)) 1 (some t1)) 2 (some t2)) 3 (some t3)) 4 (some t4))) :: ((((((((([c38] ++ pSheet E s0 v0) ++ pSheet E s1 v1) ++ pSheet E s2 v2) ++ pSheet E s3 v3) ++ pSlot E t0 h0 w0) ++ pSlot E t1 h1 w1) ++ pSlot E t2 h2 w2) ++ pSlot E t3 h3 w3) ++ pSlot E t4 h4 w4)))) :
    Gc E (d + 3) 75 2606 mX8_init 110 [some (vR a), none] [] (Wd ws k (a, .inr (6, fs)) (L ++ (b6, aRef E 1 4 (fun _ => none)) :: (b7, aRef E 2 5 (fun _ => none)) :: [c38])) 52 2338 Q := by
  have hn0 : ws.length + L.length ≠ k := by omega
  have hn1 : ws.length + (L.length + 1) ≠ k := by omega
  refine Gc.iconst (v := nI 0) dX8_init_110 rfl ?_
  refine Gc.istore_n (ls' := [some (vR a), some (vI (nI 0))]) dX8_init_111 (by decide) rfl ?_
  refine s_sheet (j := 0) (t := ws.length + L.length) (Wd.get hw) h6 ((Wd.getl _).trans gA0) hn0 (by decide) (by decide) (by decide) (fun s0 v0 => ?_)
  refine Gc.eqw (itA hw) ?_
  refine s_sheet (j := 1) (t := ws.length + L.length) (Wd.get hw) h6 ((Wd.getl _).trans gA0) hn0 (by decide) (by decide) (by decide) (fun s1 v1 => ?_)
  refine Gc.eqw (itA hw) ?_
  refine s_sheet (j := 2) (t := ws.length + L.length) (Wd.get hw) h6 ((Wd.getl _).trans gA0) hn0 (by decide) (by decide) (by decide) (fun s2 v2 => ?_)
  refine Gc.eqw (itA hw) ?_
  refine s_sheet (j := 3) (t := ws.length + L.length) (Wd.get hw) h6 ((Wd.getl _).trans gA0) hn0 (by decide) (by decide) (by decide) (fun s3 v3 => ?_)
  refine Gc.eqw (itA hw) ?_
  refine Gc.iload_n dX8_init_112 rfl ?_
  refine Gc.iconst (v := nI 4) dX8_init_113 rfl ?_
  refine Gc.icmp_ge (tgt := 136) dX8_init_114 (by decide) (fun _ => ?_) (fun z => absurd (by decide) z)
  refine Gc.iconst (v := nI 0) dX8_init_136 rfl ?_
  refine Gc.istore_n (ls' := [some (vR a), some (vI (nI 0))]) dX8_init_137 (by decide) rfl ?_
  refine s_slot (j := 0) (t := ws.length + (L.length + 1)) (Wd.get hw) h7 ((Wd.getl _).trans gA1) hn1 (by decide) (by decide) (by decide) (fun t0 h0 w0 => ?_)
  refine Gc.eqw (itB hw) ?_
  refine s_slot (j := 1) (t := ws.length + (L.length + 1)) (Wd.get hw) h7 ((Wd.getl _).trans gA1) hn1 (by decide) (by decide) (by decide) (fun t1 h1 w1 => ?_)
  refine Gc.eqw (itB hw) ?_
  refine s_slot (j := 2) (t := ws.length + (L.length + 1)) (Wd.get hw) h7 ((Wd.getl _).trans gA1) hn1 (by decide) (by decide) (by decide) (fun t2 h2 w2 => ?_)
  refine Gc.eqw (itB hw) ?_
  refine s_slot (j := 3) (t := ws.length + (L.length + 1)) (Wd.get hw) h7 ((Wd.getl _).trans gA1) hn1 (by decide) (by decide) (by decide) (fun t3 h3 w3 => ?_)
  refine Gc.eqw (itB hw) ?_
  refine s_slot (j := 4) (t := ws.length + (L.length + 1)) (Wd.get hw) h7 ((Wd.getl _).trans gA1) hn1 (by decide) (by decide) (by decide) (fun t4 h4 w4 => ?_)
  refine Gc.eqw (itB hw) ?_
  refine Gc.iload_n dX8_init_138 rfl ?_
  refine Gc.iconst (v := nI 5) dX8_init_139 rfl ?_
  refine Gc.icmp_ge (tgt := 162) dX8_init_140 (by decide) (fun _ => ?_) (fun z => absurd (by decide) z)
  exact Gc.ret dX8_init_162 rfl rfl (kk s0 v0 s1 v1 s2 v2 s3 v3 t0 h0 w0 t1 h1 w1 t2 h2 w2 t3 h3 w3 t4 h4 w4)
/-- what TideIsland() makes beside itself, at the addresses ad -/
def tiL (E : Ec) (ad r : Nat → Nat) : va_W := ((((((pLaw E (ad 1) (ad 2) (ad 3) (ad 4) (ad 5) (ad 6) r) ++ pIsl E (ad 1) (ad 7) (ad 8) (ad 9) (ad 10) (ad 11) (ad 12) (ad 13) (ad 14)) ++ pIsl E (ad 1) (ad 15) (ad 16) (ad 17) (ad 18) (ad 19) (ad 20) (ad 21) (ad 22)) ++ pIsl E (ad 1) (ad 23) (ad 24) (ad 25) (ad 26) (ad 27) (ad 28) (ad 29) (ad 30)) ++ pTape E (ad 31) (ad 32)) ++ pRead E (ad 31) (ad 33) (ad 34) (ad 35)) ++ ((ad 36), aRef E 1 4 (va_up (va_up (va_up (va_up (fun _ => none) 0 (some (ad 53))) 1 (some (ad 54))) 2 (some (ad 55))) 3 (some (ad 56)))) :: ((ad 37), aRef E 2 5 (va_up (va_up (va_up (va_up (va_up (fun _ => none) 0 (some (ad 61))) 1 (some (ad 62))) 2 (some (ad 63))) 3 (some (ad 64))) 4 (some (ad 65)))) :: ((((((((([((ad 38), .inl (E.2.2 0, 60, .inl (fun _ => 0)))] ++ pSheet E (ad 53) (ad 57)) ++ pSheet E (ad 54) (ad 58)) ++ pSheet E (ad 55) (ad 59)) ++ pSheet E (ad 56) (ad 60)) ++ pSlot E (ad 61) (ad 66) (ad 71)) ++ pSlot E (ad 62) (ad 67) (ad 72)) ++ pSlot E (ad 63) (ad 68) (ad 73)) ++ pSlot E (ad 64) (ad 69) (ad 74)) ++ pSlot E (ad 65) (ad 70) (ad 75))
def tiF (ad : Nat → Nat) : List Value := [.ref (ad 1), .ref (ad 7), .ref (ad 15), .ref (ad 23), .ref (ad 31), .ref (ad 33), .ref (ad 36), .ref (ad 37), .ref (ad 38), .int 0, .int 0]
theorem k_X8 {E : Ec} {d : Nat} {ws : va_W} {k a : Nat} (h : ws[k]? = some (a, .inr (6, [.null, .null, .null, .null, .null, .null, .null, .null, .null, .int 0, .int 0]))) : Gc E (d + 3) 75 2606 mX8_init 0 (entF mX8_init [vR a]) [] ws 0 0 (fun w => ∃ ad r, w = Wd ws k (a, .inr (6, tiF ad)) (tiL E ad r)) := by
  have hw : k < ws.length := (List.getElem?_eq_some_iff.mp h).1
  show Gc E (d + 3) 75 2606 mX8_init 0 [some (vR a), none] [] ws 0 0 _
  refine Gc.aload_n dX8_init_0 rfl ?_
  refine Gc.obj dX8_init_1 (T0_at 25 (by decide +kernel) (by decide +kernel)) tObj tObjC (by omega) ?_
  refine s_laws h rfl (fun a1 a2 a3 a4 a5 a6 r => ?_)
  refine s_now (b := a1) (Wd.get hw) rfl rfl (fun a7 a8 a9 a10 a11 a12 a13 a14 => ?_)
  refine Gc.eqw (Wd.coll hw) ?_
  refine s_img (b := a1) (Wd.get hw) rfl rfl (fun a15 a16 a17 a18 a19 a20 a21 a22 => ?_)
  refine Gc.eqw (Wd.coll hw) ?_
  refine s_tri (b := a1) (Wd.get hw) rfl rfl (fun a23 a24 a25 a26 a27 a28 a29 a30 => ?_)
  refine Gc.eqw (Wd.coll hw) ?_
  refine s_tape (Wd.get hw) rfl (fun a31 a32 => ?_)
  refine Gc.eqw (Wd.coll hw) ?_
  refine s_read (b := a31) (Wd.get hw) rfl rfl (fun a33 a34 a35 => ?_)
  refine Gc.eqw (Wd.coll hw) ?_
  refine s_arr (Wd.get hw) rfl (fun a36 a37 a38 => ?_)
  refine Gc.eqw (Wd.coll hw) ?_
  exact s_loops hw rfl rfl (fun a53 a57 a54 a58 a55 a59 a56 a60 a61 a66 a71 a62 a67 a72 a63 a68 a73 a64 a69 a74 a65 a70 a75 => ⟨fun i => [a, a1, a2, a3, a4, a5, a6, a7, a8, a9, a10, a11, a12, a13, a14, a15, a16, a17, a18, a19, a20, a21, a22, a23, a24, a25, a26, a27, a28, a29, a30, a31, a32, a33, a34, a35, a36, a37, a38, 0, 0, 0, 0, 0, 0, 0, 0, 0, 0, 0, 0, 0, 0, a53, a54, a55, a56, a57, a58, a59, a60, a61, a62, a63, a64, a65, a66, a67, a68, a69, a70, a71, a72, a73, a74, a75].getD i 0, r, rfl⟩)
