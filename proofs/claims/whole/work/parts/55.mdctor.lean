theorem nI_ml (a b : Nat) : nI a * nI b = nI (a * b) := (Int32.ofNat_mul a b).symm
def smF (f : Nat → Int32) (i : Nat) : Nat → Int32 := fun j => if 14 ≤ j ∧ j < 14 + 4 * i ∧ (j - 14) % 4 = 0 then (-1) else f j
theorem smF_z (f : Nat → Int32) : smF f 0 = f := by
  funext j; unfold smF; rw [if_neg (by omega)]
theorem smF_s (f : Nat → Int32) (i : Nat) : upd (smF f i) (11 + 4 * i + 3) (-1) = smF f (i + 1) := by
  funext j
  unfold upd smF
  by_cases e : j = 11 + 4 * i + 3
  · rw [if_pos e, if_pos (by omega)]
  · rw [if_neg e]
    by_cases h : 14 ≤ j ∧ j < 14 + 4 * i ∧ (j - 14) % 4 = 0
    · rw [if_pos h, if_pos (by omega)]
    · rw [if_neg h, if_neg (by omega)]
def tsF (f : Nat → Int32) (i : Nat) : Nat → Int32 := fun j => if j < i then (-1) else f j
theorem tsF_z (f : Nat → Int32) : tsF f 0 = f := by
  funext j; unfold tsF; rw [if_neg (by omega)]
theorem tsF_s (f : Nat → Int32) (i : Nat) : upd (tsF f i) i (-1) = tsF f (i + 1) := upd_lt f (-1) i
theorem k9_l1 {E : Ec} {d cs sl mc ms : Nat} {ws : va_W} {k a t b : Nat} {fs : List Value} {f : Nat → Int32} {Q : va_W → Prop} (h : ws[k]? = some (a, .inr (7, fs))) (hb : fs[0]? = some (.ref b)) (ht : t < ws.length) (hne : t ≠ k) (kk : Gc E d mc ms mX9_init 222 [some (vR a), some (vI (nI 30))] [] (ws.set t (b, .inl (E.2.2 0, 3147, .inl (smF f 30)))) cs sl Q) :
    ∀ (q i : Nat), i + q = 30 → Gc E d mc ms mX9_init 196 [some (vR a), some (vI (nI i))] [] (ws.set t (b, .inl (E.2.2 0, 3147, .inl (smF f i)))) cs sl Q
  | 0, i, hq => by
    have hi : i = 30 := by omega
    subst hi
    refine Gc.iload_n dX9_init_196 rfl ?_
    refine Gc.bipush (v := nI 30) dX9_init_197 rfl ?_
    exact Gc.icmp_ge (tgt := 222) dX9_init_199 (by decide) (fun _ => kk) (fun z => absurd (by decide) z)
  | q + 1, i, hq => by
    refine Gc.iload_n dX9_init_196 rfl ?_
    refine Gc.bipush (v := nI 30) dX9_init_197 rfl ?_
    refine Gc.icmp_ge (tgt := 222) dX9_init_199 (by decide) (fun z => absurd z (by rw [sI_le, nT, nT]; omega)) (fun _ => ?_)
    refine Gc.aload_n dX9_init_202 rfl ?_
    refine Gc.get (v := vR b) k dX9_init_203 flX9_7 ((List.getElem?_set_ne hne).trans h) hb ?_
    refine Gc.bipush (v := nI 11) dX9_init_206 rfl ?_
    refine Gc.iconst (v := nI 4) dX9_init_208 rfl ?_
    refine Gc.iload_n dX9_init_209 rfl ?_
    refine Gc.imul dX9_init_210 ?_
    refine Gc.iadd dX9_init_211 ?_
    refine Gc.iconst (v := nI 3) dX9_init_212 rfl ?_
    refine Gc.iadd dX9_init_213 ?_
    refine Gc.iconst (v := (-1)) dX9_init_214 rfl ?_
    refine Gc.iastore t (11 + 4 * i + 3) dX9_init_215 (List.getElem?_set_self ht) (by decide) (by omega) (by rw [show nI 4 * nI i = nI (4 * i) from nI_ml 4 i, nI_add, nI_add]) ?_
    refine Gc.eqw (List.set_set _) ?_
    rw [smF_s]
    refine Gc.iinc (v := nI (i + 1)) (ls' := [some (vR a), some (vI (nI (i + 1)))]) dX9_init_216 rfl (nI_add _ _) (by decide) rfl ?_
    refine Gc.goto (tgt := 196) dX9_init_219 (by decide) ?_
    exact k9_l1 h hb ht hne kk q (i + 1) (by omega)
theorem k9_l2 {E : Ec} {d cs sl mc ms : Nat} {ws : va_W} {k a t b : Nat} {fs : List Value} {f : Nat → Int32} {Q : va_W → Prop} (h : ws[k]? = some (a, .inr (7, fs))) (hb : fs[4]? = some (.ref b)) (ht : t < ws.length) (hne : t ≠ k) (kk : Gc E d mc ms mX9_init 242 [some (vR a), some (vI (nI 4))] [] (ws.set t (b, .inl (E.2.2 0, 4, .inl (tsF f 4)))) cs sl Q) :
    ∀ (q i : Nat), i + q = 4 → Gc E d mc ms mX9_init 224 [some (vR a), some (vI (nI i))] [] (ws.set t (b, .inl (E.2.2 0, 4, .inl (tsF f i)))) cs sl Q
  | 0, i, hq => by
    have hi : i = 4 := by omega
    subst hi
    refine Gc.iload_n dX9_init_224 rfl ?_
    refine Gc.iconst (v := nI 4) dX9_init_225 rfl ?_
    exact Gc.icmp_ge (tgt := 242) dX9_init_226 (by decide) (fun _ => kk) (fun z => absurd (by decide) z)
  | q + 1, i, hq => by
    refine Gc.iload_n dX9_init_224 rfl ?_
    refine Gc.iconst (v := nI 4) dX9_init_225 rfl ?_
    refine Gc.icmp_ge (tgt := 242) dX9_init_226 (by decide) (fun z => absurd z (by rw [sI_le, nT, nT]; omega)) (fun _ => ?_)
    refine Gc.aload_n dX9_init_229 rfl ?_
    refine Gc.get (v := vR b) k dX9_init_230 flX9_19 ((List.getElem?_set_ne hne).trans h) hb ?_
    refine Gc.iload_n dX9_init_233 rfl ?_
    refine Gc.iconst (v := (-1)) dX9_init_234 rfl ?_
    refine Gc.iastore t i dX9_init_235 (List.getElem?_set_self ht) (by decide) (by omega) rfl ?_
    refine Gc.eqw (List.set_set _) ?_
    rw [tsF_s]
    refine Gc.iinc (v := nI (i + 1)) (ls' := [some (vR a), some (vI (nI (i + 1)))]) dX9_init_236 rfl (nI_add _ _) (by decide) rfl ?_
    refine Gc.goto (tgt := 224) dX9_init_239 (by decide) ?_
    exact k9_l2 h hb ht hne kk q (i + 1) (by omega)
/-- what TideIslandModel() makes beside itself -/
def mdL (E : Ec) (ad : Nat → Nat) : va_W := [(ad 77, .inl (E.2.2 0, 3147, .inl (smF (upd (upd (upd (upd (upd (upd (fun _ => 0) 4 (nI 1)) 5 (nI 2)) 6 (nI 8)) 7 (nI 3)) 9 (nI 20)) 10 (nI 1)) 30))), (ad 78, .inl (E.2.2 0, 3147, .inl (fun _ => 0))), (ad 79, .inl (E.2.2 0, 3147, .inl (fun _ => 0))), (ad 80, .inl (E.2.2 0, 4, .inl (tsF (fun _ => 0) 4))), (ad 81, .inl (E.2.2 0, 4, .inl (fun _ => 0))), (ad 82, .inl (E.2.2 0, 96, .inl (fun _ => 0))), (ad 83, .inl (E.2.2 0, 5, .inl (fun _ => 0))), (ad 84, .inl (E.2.2 0, 5, .inl (fun _ => 0))), (ad 85, .inl (E.2.2 0, 5, .inl (fun _ => 0))), (ad 86, .inl (E.2.2 0, 5, .inl (fun _ => 0))), (ad 87, .inl (E.2.2 0, 120, .inl (fun _ => 0))), (ad 88, .inl (E.2.2 0, 8, .inl (fun _ => 0))), (ad 89, .inl (E.2.2 0, 96, .inl (fun _ => 0))), (ad 90, .inl (E.2.2 0, 128, .inl (fun _ => 0))), (ad 91, .inl (E.2.2 0, 100, .inl (fun _ => 0))), (ad 92, .inl (E.2.2 0, 24, .inl (fun _ => 0))), (ad 93, .inl (E.2.2 0, 60, .inl (fun _ => 0))), (ad 94, .inl (E.2.2 0, 60, .inl (fun _ => 0)))]
def mdF (ad : Nat → Nat) : List Value := [.ref (ad 77), .ref (ad 78), .ref (ad 79), .int 0, .ref (ad 80), .ref (ad 81), .ref (ad 82), .ref (ad 83), .ref (ad 84), .ref (ad 85), .ref (ad 86), .ref (ad 87), .ref (ad 88), .ref (ad 89), .int 0, .int 0, .int 0, .int 0, .int 0, .int 0, .int 0, .int 0, .int 0, .int 0, .int 0, .ref (ad 90), .ref (ad 91), .ref (ad 92), .ref (ad 93), .int 0, .ref (ad 94)]
theorem s9_0 {E : Ec} {d cs sl : Nat} {ws : va_W} {k a : Nat} {fs : List Value} {Q : va_W → Prop} (h : ws[k]? = some (a, .inr (7, fs))) (hfs : fs.length = 31) (hc : cs + 1 ≤ 18) (hs : sl + 3147 ≤ 10161) (kk : ∀ q, Gc E (d + 1) 18 10161 mX9_init 13 [some (vR a), none] [] (Wd ws k (a, .inr (7, fs.set 0 (.ref q))) [(q, .inl (E.2.2 0, 3147, .inl (fun _ => 0)))]) (cs + 1) (sl + 3147) Q) : Gc E (d + 1) 18 10161 mX9_init 4 [some (vR a), none] [] ws cs sl Q := by
  have hw : k < ws.length := (List.getElem?_eq_some_iff.mp h).1
  refine Gc.eqw (Wd.init h) ?_
  refine Gc.aload_n dX9_init_4 rfl ?_
  refine Gc.sipush (v := nI 3147) dX9_init_5 rfl ?_
  refine Gc.newiW (N := 3147) dX9_init_8 rfl (Nat.le_of_ble_eq_true rfl) hc hs tI (fun q0 => ?_)
  refine Gc.putFW hw dX9_init_10 flX9_7 rfl rfl rfl rfl rfl (by rw [hfs]; decide) ?_
  exact kk q0
theorem s9_1 {E : Ec} {d cs sl : Nat} {ws : va_W} {k a : Nat} {fs : List Value} {Q : va_W → Prop} (h : ws[k]? = some (a, .inr (7, fs))) (hfs : fs.length = 31) (hc : cs + 1 ≤ 18) (hs : sl + 3147 ≤ 10161) (kk : ∀ q, Gc E (d + 1) 18 10161 mX9_init 22 [some (vR a), none] [] (Wd ws k (a, .inr (7, fs.set 1 (.ref q))) [(q, .inl (E.2.2 0, 3147, .inl (fun _ => 0)))]) (cs + 1) (sl + 3147) Q) : Gc E (d + 1) 18 10161 mX9_init 13 [some (vR a), none] [] ws cs sl Q := by
  have hw : k < ws.length := (List.getElem?_eq_some_iff.mp h).1
  refine Gc.eqw (Wd.init h) ?_
  refine Gc.aload_n dX9_init_13 rfl ?_
  refine Gc.sipush (v := nI 3147) dX9_init_14 rfl ?_
  refine Gc.newiW (N := 3147) dX9_init_17 rfl (Nat.le_of_ble_eq_true rfl) hc hs tI (fun q0 => ?_)
  refine Gc.putFW hw dX9_init_19 flX9_13 rfl rfl rfl rfl rfl (by rw [hfs]; decide) ?_
  exact kk q0
theorem s9_2 {E : Ec} {d cs sl : Nat} {ws : va_W} {k a : Nat} {fs : List Value} {Q : va_W → Prop} (h : ws[k]? = some (a, .inr (7, fs))) (hfs : fs.length = 31) (hc : cs + 1 ≤ 18) (hs : sl + 3147 ≤ 10161) (kk : ∀ q, Gc E (d + 1) 18 10161 mX9_init 31 [some (vR a), none] [] (Wd ws k (a, .inr (7, fs.set 2 (.ref q))) [(q, .inl (E.2.2 0, 3147, .inl (fun _ => 0)))]) (cs + 1) (sl + 3147) Q) : Gc E (d + 1) 18 10161 mX9_init 22 [some (vR a), none] [] ws cs sl Q := by
  have hw : k < ws.length := (List.getElem?_eq_some_iff.mp h).1
  refine Gc.eqw (Wd.init h) ?_
  refine Gc.aload_n dX9_init_22 rfl ?_
  refine Gc.sipush (v := nI 3147) dX9_init_23 rfl ?_
  refine Gc.newiW (N := 3147) dX9_init_26 rfl (Nat.le_of_ble_eq_true rfl) hc hs tI (fun q0 => ?_)
  refine Gc.putFW hw dX9_init_28 flX9_16 rfl rfl rfl rfl rfl (by rw [hfs]; decide) ?_
  exact kk q0
theorem s9_3 {E : Ec} {d cs sl : Nat} {ws : va_W} {k a : Nat} {fs : List Value} {Q : va_W → Prop} (h : ws[k]? = some (a, .inr (7, fs))) (hfs : fs.length = 31) (hc : cs + 1 ≤ 18) (hs : sl + 4 ≤ 10161) (kk : ∀ q, Gc E (d + 1) 18 10161 mX9_init 38 [some (vR a), none] [] (Wd ws k (a, .inr (7, fs.set 4 (.ref q))) [(q, .inl (E.2.2 0, 4, .inl (fun _ => 0)))]) (cs + 1) (sl + 4) Q) : Gc E (d + 1) 18 10161 mX9_init 31 [some (vR a), none] [] ws cs sl Q := by
  have hw : k < ws.length := (List.getElem?_eq_some_iff.mp h).1
  refine Gc.eqw (Wd.init h) ?_
  refine Gc.aload_n dX9_init_31 rfl ?_
  refine Gc.iconst (v := nI 4) dX9_init_32 rfl ?_
  refine Gc.newiW (N := 4) dX9_init_33 rfl (Nat.le_of_ble_eq_true rfl) hc hs tI (fun q0 => ?_)
  refine Gc.putFW hw dX9_init_35 flX9_19 rfl rfl rfl rfl rfl (by rw [hfs]; decide) ?_
  exact kk q0
theorem s9_4 {E : Ec} {d cs sl : Nat} {ws : va_W} {k a : Nat} {fs : List Value} {Q : va_W → Prop} (h : ws[k]? = some (a, .inr (7, fs))) (hfs : fs.length = 31) (hc : cs + 1 ≤ 18) (hs : sl + 4 ≤ 10161) (kk : ∀ q, Gc E (d + 1) 18 10161 mX9_init 45 [some (vR a), none] [] (Wd ws k (a, .inr (7, fs.set 5 (.ref q))) [(q, .inl (E.2.2 0, 4, .inl (fun _ => 0)))]) (cs + 1) (sl + 4) Q) : Gc E (d + 1) 18 10161 mX9_init 38 [some (vR a), none] [] ws cs sl Q := by
  have hw : k < ws.length := (List.getElem?_eq_some_iff.mp h).1
  refine Gc.eqw (Wd.init h) ?_
  refine Gc.aload_n dX9_init_38 rfl ?_
  refine Gc.iconst (v := nI 4) dX9_init_39 rfl ?_
  refine Gc.newiW (N := 4) dX9_init_40 rfl (Nat.le_of_ble_eq_true rfl) hc hs tI (fun q0 => ?_)
  refine Gc.putFW hw dX9_init_42 flX9_22 rfl rfl rfl rfl rfl (by rw [hfs]; decide) ?_
  exact kk q0
theorem s9_5 {E : Ec} {d cs sl : Nat} {ws : va_W} {k a : Nat} {fs : List Value} {Q : va_W → Prop} (h : ws[k]? = some (a, .inr (7, fs))) (hfs : fs.length = 31) (hc : cs + 1 ≤ 18) (hs : sl + 96 ≤ 10161) (kk : ∀ q, Gc E (d + 1) 18 10161 mX9_init 53 [some (vR a), none] [] (Wd ws k (a, .inr (7, fs.set 6 (.ref q))) [(q, .inl (E.2.2 0, 96, .inl (fun _ => 0)))]) (cs + 1) (sl + 96) Q) : Gc E (d + 1) 18 10161 mX9_init 45 [some (vR a), none] [] ws cs sl Q := by
  have hw : k < ws.length := (List.getElem?_eq_some_iff.mp h).1
  refine Gc.eqw (Wd.init h) ?_
  refine Gc.aload_n dX9_init_45 rfl ?_
  refine Gc.bipush (v := nI 96) dX9_init_46 rfl ?_
  refine Gc.newiW (N := 96) dX9_init_48 rfl (Nat.le_of_ble_eq_true rfl) hc hs tI (fun q0 => ?_)
  refine Gc.putFW hw dX9_init_50 flX9_25 rfl rfl rfl rfl rfl (by rw [hfs]; decide) ?_
  exact kk q0
theorem s9_6 {E : Ec} {d cs sl : Nat} {ws : va_W} {k a : Nat} {fs : List Value} {Q : va_W → Prop} (h : ws[k]? = some (a, .inr (7, fs))) (hfs : fs.length = 31) (hc : cs + 1 ≤ 18) (hs : sl + 5 ≤ 10161) (kk : ∀ q, Gc E (d + 1) 18 10161 mX9_init 60 [some (vR a), none] [] (Wd ws k (a, .inr (7, fs.set 7 (.ref q))) [(q, .inl (E.2.2 0, 5, .inl (fun _ => 0)))]) (cs + 1) (sl + 5) Q) : Gc E (d + 1) 18 10161 mX9_init 53 [some (vR a), none] [] ws cs sl Q := by
  have hw : k < ws.length := (List.getElem?_eq_some_iff.mp h).1
  refine Gc.eqw (Wd.init h) ?_
  refine Gc.aload_n dX9_init_53 rfl ?_
  refine Gc.iconst (v := nI 5) dX9_init_54 rfl ?_
  refine Gc.newiW (N := 5) dX9_init_55 rfl (Nat.le_of_ble_eq_true rfl) hc hs tI (fun q0 => ?_)
  refine Gc.putFW hw dX9_init_57 flX9_28 rfl rfl rfl rfl rfl (by rw [hfs]; decide) ?_
  exact kk q0
theorem s9_7 {E : Ec} {d cs sl : Nat} {ws : va_W} {k a : Nat} {fs : List Value} {Q : va_W → Prop} (h : ws[k]? = some (a, .inr (7, fs))) (hfs : fs.length = 31) (hc : cs + 1 ≤ 18) (hs : sl + 5 ≤ 10161) (kk : ∀ q, Gc E (d + 1) 18 10161 mX9_init 67 [some (vR a), none] [] (Wd ws k (a, .inr (7, fs.set 8 (.ref q))) [(q, .inl (E.2.2 0, 5, .inl (fun _ => 0)))]) (cs + 1) (sl + 5) Q) : Gc E (d + 1) 18 10161 mX9_init 60 [some (vR a), none] [] ws cs sl Q := by
  have hw : k < ws.length := (List.getElem?_eq_some_iff.mp h).1
  refine Gc.eqw (Wd.init h) ?_
  refine Gc.aload_n dX9_init_60 rfl ?_
  refine Gc.iconst (v := nI 5) dX9_init_61 rfl ?_
  refine Gc.newiW (N := 5) dX9_init_62 rfl (Nat.le_of_ble_eq_true rfl) hc hs tI (fun q0 => ?_)
  refine Gc.putFW hw dX9_init_64 flX9_31 rfl rfl rfl rfl rfl (by rw [hfs]; decide) ?_
  exact kk q0
theorem s9_8 {E : Ec} {d cs sl : Nat} {ws : va_W} {k a : Nat} {fs : List Value} {Q : va_W → Prop} (h : ws[k]? = some (a, .inr (7, fs))) (hfs : fs.length = 31) (hc : cs + 1 ≤ 18) (hs : sl + 5 ≤ 10161) (kk : ∀ q, Gc E (d + 1) 18 10161 mX9_init 74 [some (vR a), none] [] (Wd ws k (a, .inr (7, fs.set 9 (.ref q))) [(q, .inl (E.2.2 0, 5, .inl (fun _ => 0)))]) (cs + 1) (sl + 5) Q) : Gc E (d + 1) 18 10161 mX9_init 67 [some (vR a), none] [] ws cs sl Q := by
  have hw : k < ws.length := (List.getElem?_eq_some_iff.mp h).1
  refine Gc.eqw (Wd.init h) ?_
  refine Gc.aload_n dX9_init_67 rfl ?_
  refine Gc.iconst (v := nI 5) dX9_init_68 rfl ?_
  refine Gc.newiW (N := 5) dX9_init_69 rfl (Nat.le_of_ble_eq_true rfl) hc hs tI (fun q0 => ?_)
  refine Gc.putFW hw dX9_init_71 flX9_34 rfl rfl rfl rfl rfl (by rw [hfs]; decide) ?_
  exact kk q0
theorem s9_9 {E : Ec} {d cs sl : Nat} {ws : va_W} {k a : Nat} {fs : List Value} {Q : va_W → Prop} (h : ws[k]? = some (a, .inr (7, fs))) (hfs : fs.length = 31) (hc : cs + 1 ≤ 18) (hs : sl + 5 ≤ 10161) (kk : ∀ q, Gc E (d + 1) 18 10161 mX9_init 81 [some (vR a), none] [] (Wd ws k (a, .inr (7, fs.set 10 (.ref q))) [(q, .inl (E.2.2 0, 5, .inl (fun _ => 0)))]) (cs + 1) (sl + 5) Q) : Gc E (d + 1) 18 10161 mX9_init 74 [some (vR a), none] [] ws cs sl Q := by
  have hw : k < ws.length := (List.getElem?_eq_some_iff.mp h).1
  refine Gc.eqw (Wd.init h) ?_
  refine Gc.aload_n dX9_init_74 rfl ?_
  refine Gc.iconst (v := nI 5) dX9_init_75 rfl ?_
  refine Gc.newiW (N := 5) dX9_init_76 rfl (Nat.le_of_ble_eq_true rfl) hc hs tI (fun q0 => ?_)
  refine Gc.putFW hw dX9_init_78 flX9_37 rfl rfl rfl rfl rfl (by rw [hfs]; decide) ?_
  exact kk q0
theorem s9_10 {E : Ec} {d cs sl : Nat} {ws : va_W} {k a : Nat} {fs : List Value} {Q : va_W → Prop} (h : ws[k]? = some (a, .inr (7, fs))) (hfs : fs.length = 31) (hc : cs + 1 ≤ 18) (hs : sl + 120 ≤ 10161) (kk : ∀ q, Gc E (d + 1) 18 10161 mX9_init 89 [some (vR a), none] [] (Wd ws k (a, .inr (7, fs.set 11 (.ref q))) [(q, .inl (E.2.2 0, 120, .inl (fun _ => 0)))]) (cs + 1) (sl + 120) Q) : Gc E (d + 1) 18 10161 mX9_init 81 [some (vR a), none] [] ws cs sl Q := by
  have hw : k < ws.length := (List.getElem?_eq_some_iff.mp h).1
  refine Gc.eqw (Wd.init h) ?_
  refine Gc.aload_n dX9_init_81 rfl ?_
  refine Gc.bipush (v := nI 120) dX9_init_82 rfl ?_
  refine Gc.newiW (N := 120) dX9_init_84 rfl (Nat.le_of_ble_eq_true rfl) hc hs tI (fun q0 => ?_)
  refine Gc.putFW hw dX9_init_86 flX9_40 rfl rfl rfl rfl rfl (by rw [hfs]; decide) ?_
  exact kk q0
theorem s9_11 {E : Ec} {d cs sl : Nat} {ws : va_W} {k a : Nat} {fs : List Value} {Q : va_W → Prop} (h : ws[k]? = some (a, .inr (7, fs))) (hfs : fs.length = 31) (hc : cs + 1 ≤ 18) (hs : sl + 8 ≤ 10161) (kk : ∀ q, Gc E (d + 1) 18 10161 mX9_init 97 [some (vR a), none] [] (Wd ws k (a, .inr (7, fs.set 12 (.ref q))) [(q, .inl (E.2.2 0, 8, .inl (fun _ => 0)))]) (cs + 1) (sl + 8) Q) : Gc E (d + 1) 18 10161 mX9_init 89 [some (vR a), none] [] ws cs sl Q := by
  have hw : k < ws.length := (List.getElem?_eq_some_iff.mp h).1
  refine Gc.eqw (Wd.init h) ?_
  refine Gc.aload_n dX9_init_89 rfl ?_
  refine Gc.bipush (v := nI 8) dX9_init_90 rfl ?_
  refine Gc.newiW (N := 8) dX9_init_92 rfl (Nat.le_of_ble_eq_true rfl) hc hs tI (fun q0 => ?_)
  refine Gc.putFW hw dX9_init_94 flX9_43 rfl rfl rfl rfl rfl (by rw [hfs]; decide) ?_
  exact kk q0
theorem s9_12 {E : Ec} {d cs sl : Nat} {ws : va_W} {k a : Nat} {fs : List Value} {Q : va_W → Prop} (h : ws[k]? = some (a, .inr (7, fs))) (hfs : fs.length = 31) (hc : cs + 1 ≤ 18) (hs : sl + 96 ≤ 10161) (kk : ∀ q, Gc E (d + 1) 18 10161 mX9_init 105 [some (vR a), none] [] (Wd ws k (a, .inr (7, fs.set 13 (.ref q))) [(q, .inl (E.2.2 0, 96, .inl (fun _ => 0)))]) (cs + 1) (sl + 96) Q) : Gc E (d + 1) 18 10161 mX9_init 97 [some (vR a), none] [] ws cs sl Q := by
  have hw : k < ws.length := (List.getElem?_eq_some_iff.mp h).1
  refine Gc.eqw (Wd.init h) ?_
  refine Gc.aload_n dX9_init_97 rfl ?_
  refine Gc.bipush (v := nI 96) dX9_init_98 rfl ?_
  refine Gc.newiW (N := 96) dX9_init_100 rfl (Nat.le_of_ble_eq_true rfl) hc hs tI (fun q0 => ?_)
  refine Gc.putFW hw dX9_init_102 flX9_46 rfl rfl rfl rfl rfl (by rw [hfs]; decide) ?_
  exact kk q0
theorem s9_13 {E : Ec} {d cs sl : Nat} {ws : va_W} {k a : Nat} {fs : List Value} {Q : va_W → Prop} (h : ws[k]? = some (a, .inr (7, fs))) (hfs : fs.length = 31) (hc : cs + 1 ≤ 18) (hs : sl + 128 ≤ 10161) (kk : ∀ q, Gc E (d + 1) 18 10161 mX9_init 114 [some (vR a), none] [] (Wd ws k (a, .inr (7, fs.set 25 (.ref q))) [(q, .inl (E.2.2 0, 128, .inl (fun _ => 0)))]) (cs + 1) (sl + 128) Q) : Gc E (d + 1) 18 10161 mX9_init 105 [some (vR a), none] [] ws cs sl Q := by
  have hw : k < ws.length := (List.getElem?_eq_some_iff.mp h).1
  refine Gc.eqw (Wd.init h) ?_
  refine Gc.aload_n dX9_init_105 rfl ?_
  refine Gc.sipush (v := nI 128) dX9_init_106 rfl ?_
  refine Gc.newiW (N := 128) dX9_init_109 rfl (Nat.le_of_ble_eq_true rfl) hc hs tI (fun q0 => ?_)
  refine Gc.putFW hw dX9_init_111 flX9_49 rfl rfl rfl rfl rfl (by rw [hfs]; decide) ?_
  exact kk q0
theorem s9_14 {E : Ec} {d cs sl : Nat} {ws : va_W} {k a : Nat} {fs : List Value} {Q : va_W → Prop} (h : ws[k]? = some (a, .inr (7, fs))) (hfs : fs.length = 31) (hc : cs + 1 ≤ 18) (hs : sl + 100 ≤ 10161) (kk : ∀ q, Gc E (d + 1) 18 10161 mX9_init 122 [some (vR a), none] [] (Wd ws k (a, .inr (7, fs.set 26 (.ref q))) [(q, .inl (E.2.2 0, 100, .inl (fun _ => 0)))]) (cs + 1) (sl + 100) Q) : Gc E (d + 1) 18 10161 mX9_init 114 [some (vR a), none] [] ws cs sl Q := by
  have hw : k < ws.length := (List.getElem?_eq_some_iff.mp h).1
  refine Gc.eqw (Wd.init h) ?_
  refine Gc.aload_n dX9_init_114 rfl ?_
  refine Gc.bipush (v := nI 100) dX9_init_115 rfl ?_
  refine Gc.newiW (N := 100) dX9_init_117 rfl (Nat.le_of_ble_eq_true rfl) hc hs tI (fun q0 => ?_)
  refine Gc.putFW hw dX9_init_119 flX9_52 rfl rfl rfl rfl rfl (by rw [hfs]; decide) ?_
  exact kk q0
theorem s9_15 {E : Ec} {d cs sl : Nat} {ws : va_W} {k a : Nat} {fs : List Value} {Q : va_W → Prop} (h : ws[k]? = some (a, .inr (7, fs))) (hfs : fs.length = 31) (hc : cs + 1 ≤ 18) (hs : sl + 24 ≤ 10161) (kk : ∀ q, Gc E (d + 1) 18 10161 mX9_init 130 [some (vR a), none] [] (Wd ws k (a, .inr (7, fs.set 27 (.ref q))) [(q, .inl (E.2.2 0, 24, .inl (fun _ => 0)))]) (cs + 1) (sl + 24) Q) : Gc E (d + 1) 18 10161 mX9_init 122 [some (vR a), none] [] ws cs sl Q := by
  have hw : k < ws.length := (List.getElem?_eq_some_iff.mp h).1
  refine Gc.eqw (Wd.init h) ?_
  refine Gc.aload_n dX9_init_122 rfl ?_
  refine Gc.bipush (v := nI 24) dX9_init_123 rfl ?_
  refine Gc.newiW (N := 24) dX9_init_125 rfl (Nat.le_of_ble_eq_true rfl) hc hs tI (fun q0 => ?_)
  refine Gc.putFW hw dX9_init_127 flX9_55 rfl rfl rfl rfl rfl (by rw [hfs]; decide) ?_
  exact kk q0
theorem s9_16 {E : Ec} {d cs sl : Nat} {ws : va_W} {k a : Nat} {fs : List Value} {Q : va_W → Prop} (h : ws[k]? = some (a, .inr (7, fs))) (hfs : fs.length = 31) (hc : cs + 1 ≤ 18) (hs : sl + 60 ≤ 10161) (kk : ∀ q, Gc E (d + 1) 18 10161 mX9_init 138 [some (vR a), none] [] (Wd ws k (a, .inr (7, fs.set 28 (.ref q))) [(q, .inl (E.2.2 0, 60, .inl (fun _ => 0)))]) (cs + 1) (sl + 60) Q) : Gc E (d + 1) 18 10161 mX9_init 130 [some (vR a), none] [] ws cs sl Q := by
  have hw : k < ws.length := (List.getElem?_eq_some_iff.mp h).1
  refine Gc.eqw (Wd.init h) ?_
  refine Gc.aload_n dX9_init_130 rfl ?_
  refine Gc.bipush (v := nI 60) dX9_init_131 rfl ?_
  refine Gc.newiW (N := 60) dX9_init_133 rfl (Nat.le_of_ble_eq_true rfl) hc hs tI (fun q0 => ?_)
  refine Gc.putFW hw dX9_init_135 flX9_58 rfl rfl rfl rfl rfl (by rw [hfs]; decide) ?_
  exact kk q0
theorem s9_17 {E : Ec} {d cs sl : Nat} {ws : va_W} {k a : Nat} {fs : List Value} {Q : va_W → Prop} (h : ws[k]? = some (a, .inr (7, fs))) (hfs : fs.length = 31) (hc : cs + 1 ≤ 18) (hs : sl + 60 ≤ 10161) (kk : ∀ q, Gc E (d + 1) 18 10161 mX9_init 146 [some (vR a), none] [] (Wd ws k (a, .inr (7, fs.set 30 (.ref q))) [(q, .inl (E.2.2 0, 60, .inl (fun _ => 0)))]) (cs + 1) (sl + 60) Q) : Gc E (d + 1) 18 10161 mX9_init 138 [some (vR a), none] [] ws cs sl Q := by
  have hw : k < ws.length := (List.getElem?_eq_some_iff.mp h).1
  refine Gc.eqw (Wd.init h) ?_
  refine Gc.aload_n dX9_init_138 rfl ?_
  refine Gc.bipush (v := nI 60) dX9_init_139 rfl ?_
  refine Gc.newiW (N := 60) dX9_init_141 rfl (Nat.le_of_ble_eq_true rfl) hc hs tI (fun q0 => ?_)
  refine Gc.putFW hw dX9_init_143 flX9_61 rfl rfl rfl rfl rfl (by rw [hfs]; decide) ?_
  exact kk q0
theorem s9_st {E : Ec} {d cs sl mc ms : Nat} {ws : va_W} {k a t b : Nat} {fs : List Value} {Q : va_W → Prop} (h : ws[k]? = some (a, .inr (7, fs))) (hb : fs[0]? = some (.ref b)) (hb0 : ws[t]? = some (b, .inl (E.2.2 0, 3147, .inl (fun _ => 0)))) (hne : t ≠ k) (kk : Gc E d mc ms mX9_init 194 [some (vR a), none] [] (ws.set t (b, .inl (E.2.2 0, 3147, .inl (upd (upd (upd (upd (upd (upd (fun _ => 0) 4 (nI 1)) 5 (nI 2)) 6 (nI 8)) 7 (nI 3)) 9 (nI 20)) 10 (nI 1))))) cs sl Q) : Gc E d mc ms mX9_init 146 [some (vR a), none] [] ws cs sl Q := by
  have ht : t < ws.length := (List.getElem?_eq_some_iff.mp hb0).1
  refine Gc.aload_n dX9_init_146 rfl ?_
  refine Gc.get (v := vR b) k dX9_init_147 flX9_7 h hb ?_
  refine Gc.iconst (v := nI 4) dX9_init_150 rfl ?_
  refine Gc.iconst (v := nI 1) dX9_init_151 rfl ?_
  refine Gc.iastore t 4 dX9_init_152 hb0 (by decide) (by decide) rfl ?_
  refine Gc.aload_n dX9_init_153 rfl ?_
  refine Gc.get (v := vR b) k dX9_init_154 flX9_7 ((List.getElem?_set_ne hne).trans h) hb ?_
  refine Gc.iconst (v := nI 5) dX9_init_157 rfl ?_
  refine Gc.iconst (v := nI 2) dX9_init_158 rfl ?_
  refine Gc.iastore t 5 dX9_init_159 (List.getElem?_set_self ht) (by decide) (by decide) rfl ?_
  refine Gc.eqw (List.set_set _) ?_
  refine Gc.aload_n dX9_init_160 rfl ?_
  refine Gc.get (v := vR b) k dX9_init_161 flX9_7 ((List.getElem?_set_ne hne).trans h) hb ?_
  refine Gc.bipush (v := nI 6) dX9_init_164 rfl ?_
  refine Gc.bipush (v := nI 8) dX9_init_166 rfl ?_
  refine Gc.iastore t 6 dX9_init_168 (List.getElem?_set_self ht) (by decide) (by decide) rfl ?_
  refine Gc.eqw (List.set_set _) ?_
  refine Gc.aload_n dX9_init_169 rfl ?_
  refine Gc.get (v := vR b) k dX9_init_170 flX9_7 ((List.getElem?_set_ne hne).trans h) hb ?_
  refine Gc.bipush (v := nI 7) dX9_init_173 rfl ?_
  refine Gc.iconst (v := nI 3) dX9_init_175 rfl ?_
  refine Gc.iastore t 7 dX9_init_176 (List.getElem?_set_self ht) (by decide) (by decide) rfl ?_
  refine Gc.eqw (List.set_set _) ?_
  refine Gc.aload_n dX9_init_177 rfl ?_
  refine Gc.get (v := vR b) k dX9_init_178 flX9_7 ((List.getElem?_set_ne hne).trans h) hb ?_
  refine Gc.bipush (v := nI 9) dX9_init_181 rfl ?_
  refine Gc.bipush (v := nI 20) dX9_init_183 rfl ?_
  refine Gc.iastore t 9 dX9_init_185 (List.getElem?_set_self ht) (by decide) (by decide) rfl ?_
  refine Gc.eqw (List.set_set _) ?_
  refine Gc.aload_n dX9_init_186 rfl ?_
  refine Gc.get (v := vR b) k dX9_init_187 flX9_7 ((List.getElem?_set_ne hne).trans h) hb ?_
  refine Gc.bipush (v := nI 10) dX9_init_190 rfl ?_
  refine Gc.iconst (v := nI 1) dX9_init_192 rfl ?_
  refine Gc.iastore t 10 dX9_init_193 (List.getElem?_set_self ht) (by decide) (by decide) rfl ?_
  refine Gc.eqw (List.set_set _) ?_
  exact kk
theorem k_X9 {E : Ec} {d : Nat} {ws : va_W} {k a : Nat} (h : ws[k]? = some (a, .inr (7, [.null, .null, .null, .int 0, .null, .null, .null, .null, .null, .null, .null, .null, .null, .null, .int 0, .int 0, .int 0, .int 0, .int 0, .int 0, .int 0, .int 0, .int 0, .int 0, .int 0, .null, .null, .null, .null, .int 0, .null]))) : Gc E (d + 1) 18 10161 mX9_init 0 (entF mX9_init [vR a]) [] ws 0 0 (fun w => ∃ ad, w = Wd ws k (a, .inr (7, mdF ad)) (mdL E ad)) := by
  have hw : k < ws.length := (List.getElem?_eq_some_iff.mp h).1
  show Gc E (d + 1) 18 10161 mX9_init 0 [some (vR a), none] [] ws 0 0 _
  refine Gc.aload_n dX9_init_0 rfl ?_
  refine Gc.obj dX9_init_1 (T0_at 909 (by decide +kernel) (by decide +kernel)) tObj tObjC (by omega) ?_
  refine s9_0 h rfl (Nat.le_of_ble_eq_true rfl) (Nat.le_of_ble_eq_true rfl) (fun q0 => ?_)
  refine Gc.eqw (ws' := Wd ws k (a, .inr (7, [.ref q0, .null, .null, .int 0, .null, .null, .null, .null, .null, .null, .null, .null, .null, .null, .int 0, .int 0, .int 0, .int 0, .int 0, .int 0, .int 0, .int 0, .int 0, .int 0, .int 0, .null, .null, .null, .null, .int 0, .null])) [(q0, .inl (E.2.2 0, 3147, .inl (fun _ => 0)))]) rfl ?_
  refine s9_1 (Wd.get hw) rfl (Nat.le_of_ble_eq_true rfl) (Nat.le_of_ble_eq_true rfl) (fun q1 => ?_)
  refine Gc.eqw (ws' := Wd ws k (a, .inr (7, [.ref q0, .ref q1, .null, .int 0, .null, .null, .null, .null, .null, .null, .null, .null, .null, .null, .int 0, .int 0, .int 0, .int 0, .int 0, .int 0, .int 0, .int 0, .int 0, .int 0, .int 0, .null, .null, .null, .null, .int 0, .null])) [(q0, .inl (E.2.2 0, 3147, .inl (fun _ => 0))), (q1, .inl (E.2.2 0, 3147, .inl (fun _ => 0)))]) (Wd.coll hw) ?_
  refine s9_2 (Wd.get hw) rfl (Nat.le_of_ble_eq_true rfl) (Nat.le_of_ble_eq_true rfl) (fun q2 => ?_)
  refine Gc.eqw (ws' := Wd ws k (a, .inr (7, [.ref q0, .ref q1, .ref q2, .int 0, .null, .null, .null, .null, .null, .null, .null, .null, .null, .null, .int 0, .int 0, .int 0, .int 0, .int 0, .int 0, .int 0, .int 0, .int 0, .int 0, .int 0, .null, .null, .null, .null, .int 0, .null])) [(q0, .inl (E.2.2 0, 3147, .inl (fun _ => 0))), (q1, .inl (E.2.2 0, 3147, .inl (fun _ => 0))), (q2, .inl (E.2.2 0, 3147, .inl (fun _ => 0)))]) (Wd.coll hw) ?_
  refine s9_3 (Wd.get hw) rfl (Nat.le_of_ble_eq_true rfl) (Nat.le_of_ble_eq_true rfl) (fun q3 => ?_)
  refine Gc.eqw (ws' := Wd ws k (a, .inr (7, [.ref q0, .ref q1, .ref q2, .int 0, .ref q3, .null, .null, .null, .null, .null, .null, .null, .null, .null, .int 0, .int 0, .int 0, .int 0, .int 0, .int 0, .int 0, .int 0, .int 0, .int 0, .int 0, .null, .null, .null, .null, .int 0, .null])) [(q0, .inl (E.2.2 0, 3147, .inl (fun _ => 0))), (q1, .inl (E.2.2 0, 3147, .inl (fun _ => 0))), (q2, .inl (E.2.2 0, 3147, .inl (fun _ => 0))), (q3, .inl (E.2.2 0, 4, .inl (fun _ => 0)))]) (Wd.coll hw) ?_
  refine s9_4 (Wd.get hw) rfl (Nat.le_of_ble_eq_true rfl) (Nat.le_of_ble_eq_true rfl) (fun q4 => ?_)
  refine Gc.eqw (ws' := Wd ws k (a, .inr (7, [.ref q0, .ref q1, .ref q2, .int 0, .ref q3, .ref q4, .null, .null, .null, .null, .null, .null, .null, .null, .int 0, .int 0, .int 0, .int 0, .int 0, .int 0, .int 0, .int 0, .int 0, .int 0, .int 0, .null, .null, .null, .null, .int 0, .null])) [(q0, .inl (E.2.2 0, 3147, .inl (fun _ => 0))), (q1, .inl (E.2.2 0, 3147, .inl (fun _ => 0))), (q2, .inl (E.2.2 0, 3147, .inl (fun _ => 0))), (q3, .inl (E.2.2 0, 4, .inl (fun _ => 0))), (q4, .inl (E.2.2 0, 4, .inl (fun _ => 0)))]) (Wd.coll hw) ?_
  refine s9_5 (Wd.get hw) rfl (Nat.le_of_ble_eq_true rfl) (Nat.le_of_ble_eq_true rfl) (fun q5 => ?_)
  refine Gc.eqw (ws' := Wd ws k (a, .inr (7, [.ref q0, .ref q1, .ref q2, .int 0, .ref q3, .ref q4, .ref q5, .null, .null, .null, .null, .null, .null, .null, .int 0, .int 0, .int 0, .int 0, .int 0, .int 0, .int 0, .int 0, .int 0, .int 0, .int 0, .null, .null, .null, .null, .int 0, .null])) [(q0, .inl (E.2.2 0, 3147, .inl (fun _ => 0))), (q1, .inl (E.2.2 0, 3147, .inl (fun _ => 0))), (q2, .inl (E.2.2 0, 3147, .inl (fun _ => 0))), (q3, .inl (E.2.2 0, 4, .inl (fun _ => 0))), (q4, .inl (E.2.2 0, 4, .inl (fun _ => 0))), (q5, .inl (E.2.2 0, 96, .inl (fun _ => 0)))]) (Wd.coll hw) ?_
  refine s9_6 (Wd.get hw) rfl (Nat.le_of_ble_eq_true rfl) (Nat.le_of_ble_eq_true rfl) (fun q6 => ?_)
  refine Gc.eqw (ws' := Wd ws k (a, .inr (7, [.ref q0, .ref q1, .ref q2, .int 0, .ref q3, .ref q4, .ref q5, .ref q6, .null, .null, .null, .null, .null, .null, .int 0, .int 0, .int 0, .int 0, .int 0, .int 0, .int 0, .int 0, .int 0, .int 0, .int 0, .null, .null, .null, .null, .int 0, .null])) [(q0, .inl (E.2.2 0, 3147, .inl (fun _ => 0))), (q1, .inl (E.2.2 0, 3147, .inl (fun _ => 0))), (q2, .inl (E.2.2 0, 3147, .inl (fun _ => 0))), (q3, .inl (E.2.2 0, 4, .inl (fun _ => 0))), (q4, .inl (E.2.2 0, 4, .inl (fun _ => 0))), (q5, .inl (E.2.2 0, 96, .inl (fun _ => 0))), (q6, .inl (E.2.2 0, 5, .inl (fun _ => 0)))]) (Wd.coll hw) ?_
  refine s9_7 (Wd.get hw) rfl (Nat.le_of_ble_eq_true rfl) (Nat.le_of_ble_eq_true rfl) (fun q7 => ?_)
  refine Gc.eqw (ws' := Wd ws k (a, .inr (7, [.ref q0, .ref q1, .ref q2, .int 0, .ref q3, .ref q4, .ref q5, .ref q6, .ref q7, .null, .null, .null, .null, .null, .int 0, .int 0, .int 0, .int 0, .int 0, .int 0, .int 0, .int 0, .int 0, .int 0, .int 0, .null, .null, .null, .null, .int 0, .null])) [(q0, .inl (E.2.2 0, 3147, .inl (fun _ => 0))), (q1, .inl (E.2.2 0, 3147, .inl (fun _ => 0))), (q2, .inl (E.2.2 0, 3147, .inl (fun _ => 0))), (q3, .inl (E.2.2 0, 4, .inl (fun _ => 0))), (q4, .inl (E.2.2 0, 4, .inl (fun _ => 0))), (q5, .inl (E.2.2 0, 96, .inl (fun _ => 0))), (q6, .inl (E.2.2 0, 5, .inl (fun _ => 0))), (q7, .inl (E.2.2 0, 5, .inl (fun _ => 0)))]) (Wd.coll hw) ?_
  refine s9_8 (Wd.get hw) rfl (Nat.le_of_ble_eq_true rfl) (Nat.le_of_ble_eq_true rfl) (fun q8 => ?_)
  refine Gc.eqw (ws' := Wd ws k (a, .inr (7, [.ref q0, .ref q1, .ref q2, .int 0, .ref q3, .ref q4, .ref q5, .ref q6, .ref q7, .ref q8, .null, .null, .null, .null, .int 0, .int 0, .int 0, .int 0, .int 0, .int 0, .int 0, .int 0, .int 0, .int 0, .int 0, .null, .null, .null, .null, .int 0, .null])) [(q0, .inl (E.2.2 0, 3147, .inl (fun _ => 0))), (q1, .inl (E.2.2 0, 3147, .inl (fun _ => 0))), (q2, .inl (E.2.2 0, 3147, .inl (fun _ => 0))), (q3, .inl (E.2.2 0, 4, .inl (fun _ => 0))), (q4, .inl (E.2.2 0, 4, .inl (fun _ => 0))), (q5, .inl (E.2.2 0, 96, .inl (fun _ => 0))), (q6, .inl (E.2.2 0, 5, .inl (fun _ => 0))), (q7, .inl (E.2.2 0, 5, .inl (fun _ => 0))), (q8, .inl (E.2.2 0, 5, .inl (fun _ => 0)))]) (Wd.coll hw) ?_
  refine s9_9 (Wd.get hw) rfl (Nat.le_of_ble_eq_true rfl) (Nat.le_of_ble_eq_true rfl) (fun q9 => ?_)
  refine Gc.eqw (ws' := Wd ws k (a, .inr (7, [.ref q0, .ref q1, .ref q2, .int 0, .ref q3, .ref q4, .ref q5, .ref q6, .ref q7, .ref q8, .ref q9, .null, .null, .null, .int 0, .int 0, .int 0, .int 0, .int 0, .int 0, .int 0, .int 0, .int 0, .int 0, .int 0, .null, .null, .null, .null, .int 0, .null])) [(q0, .inl (E.2.2 0, 3147, .inl (fun _ => 0))), (q1, .inl (E.2.2 0, 3147, .inl (fun _ => 0))), (q2, .inl (E.2.2 0, 3147, .inl (fun _ => 0))), (q3, .inl (E.2.2 0, 4, .inl (fun _ => 0))), (q4, .inl (E.2.2 0, 4, .inl (fun _ => 0))), (q5, .inl (E.2.2 0, 96, .inl (fun _ => 0))), (q6, .inl (E.2.2 0, 5, .inl (fun _ => 0))), (q7, .inl (E.2.2 0, 5, .inl (fun _ => 0))), (q8, .inl (E.2.2 0, 5, .inl (fun _ => 0))), (q9, .inl (E.2.2 0, 5, .inl (fun _ => 0)))]) (Wd.coll hw) ?_
  refine s9_10 (Wd.get hw) rfl (Nat.le_of_ble_eq_true rfl) (Nat.le_of_ble_eq_true rfl) (fun q10 => ?_)
  refine Gc.eqw (ws' := Wd ws k (a, .inr (7, [.ref q0, .ref q1, .ref q2, .int 0, .ref q3, .ref q4, .ref q5, .ref q6, .ref q7, .ref q8, .ref q9, .ref q10, .null, .null, .int 0, .int 0, .int 0, .int 0, .int 0, .int 0, .int 0, .int 0, .int 0, .int 0, .int 0, .null, .null, .null, .null, .int 0, .null])) [(q0, .inl (E.2.2 0, 3147, .inl (fun _ => 0))), (q1, .inl (E.2.2 0, 3147, .inl (fun _ => 0))), (q2, .inl (E.2.2 0, 3147, .inl (fun _ => 0))), (q3, .inl (E.2.2 0, 4, .inl (fun _ => 0))), (q4, .inl (E.2.2 0, 4, .inl (fun _ => 0))), (q5, .inl (E.2.2 0, 96, .inl (fun _ => 0))), (q6, .inl (E.2.2 0, 5, .inl (fun _ => 0))), (q7, .inl (E.2.2 0, 5, .inl (fun _ => 0))), (q8, .inl (E.2.2 0, 5, .inl (fun _ => 0))), (q9, .inl (E.2.2 0, 5, .inl (fun _ => 0))), (q10, .inl (E.2.2 0, 120, .inl (fun _ => 0)))]) (Wd.coll hw) ?_
  refine s9_11 (Wd.get hw) rfl (Nat.le_of_ble_eq_true rfl) (Nat.le_of_ble_eq_true rfl) (fun q11 => ?_)
  refine Gc.eqw (ws' := Wd ws k (a, .inr (7, [.ref q0, .ref q1, .ref q2, .int 0, .ref q3, .ref q4, .ref q5, .ref q6, .ref q7, .ref q8, .ref q9, .ref q10, .ref q11, .null, .int 0, .int 0, .int 0, .int 0, .int 0, .int 0, .int 0, .int 0, .int 0, .int 0, .int 0, .null, .null, .null, .null, .int 0, .null])) [(q0, .inl (E.2.2 0, 3147, .inl (fun _ => 0))), (q1, .inl (E.2.2 0, 3147, .inl (fun _ => 0))), (q2, .inl (E.2.2 0, 3147, .inl (fun _ => 0))), (q3, .inl (E.2.2 0, 4, .inl (fun _ => 0))), (q4, .inl (E.2.2 0, 4, .inl (fun _ => 0))), (q5, .inl (E.2.2 0, 96, .inl (fun _ => 0))), (q6, .inl (E.2.2 0, 5, .inl (fun _ => 0))), (q7, .inl (E.2.2 0, 5, .inl (fun _ => 0))), (q8, .inl (E.2.2 0, 5, .inl (fun _ => 0))), (q9, .inl (E.2.2 0, 5, .inl (fun _ => 0))), (q10, .inl (E.2.2 0, 120, .inl (fun _ => 0))), (q11, .inl (E.2.2 0, 8, .inl (fun _ => 0)))]) (Wd.coll hw) ?_
  refine s9_12 (Wd.get hw) rfl (Nat.le_of_ble_eq_true rfl) (Nat.le_of_ble_eq_true rfl) (fun q12 => ?_)
  refine Gc.eqw (ws' := Wd ws k (a, .inr (7, [.ref q0, .ref q1, .ref q2, .int 0, .ref q3, .ref q4, .ref q5, .ref q6, .ref q7, .ref q8, .ref q9, .ref q10, .ref q11, .ref q12, .int 0, .int 0, .int 0, .int 0, .int 0, .int 0, .int 0, .int 0, .int 0, .int 0, .int 0, .null, .null, .null, .null, .int 0, .null])) [(q0, .inl (E.2.2 0, 3147, .inl (fun _ => 0))), (q1, .inl (E.2.2 0, 3147, .inl (fun _ => 0))), (q2, .inl (E.2.2 0, 3147, .inl (fun _ => 0))), (q3, .inl (E.2.2 0, 4, .inl (fun _ => 0))), (q4, .inl (E.2.2 0, 4, .inl (fun _ => 0))), (q5, .inl (E.2.2 0, 96, .inl (fun _ => 0))), (q6, .inl (E.2.2 0, 5, .inl (fun _ => 0))), (q7, .inl (E.2.2 0, 5, .inl (fun _ => 0))), (q8, .inl (E.2.2 0, 5, .inl (fun _ => 0))), (q9, .inl (E.2.2 0, 5, .inl (fun _ => 0))), (q10, .inl (E.2.2 0, 120, .inl (fun _ => 0))), (q11, .inl (E.2.2 0, 8, .inl (fun _ => 0))), (q12, .inl (E.2.2 0, 96, .inl (fun _ => 0)))]) (Wd.coll hw) ?_
  refine s9_13 (Wd.get hw) rfl (Nat.le_of_ble_eq_true rfl) (Nat.le_of_ble_eq_true rfl) (fun q13 => ?_)
  refine Gc.eqw (ws' := Wd ws k (a, .inr (7, [.ref q0, .ref q1, .ref q2, .int 0, .ref q3, .ref q4, .ref q5, .ref q6, .ref q7, .ref q8, .ref q9, .ref q10, .ref q11, .ref q12, .int 0, .int 0, .int 0, .int 0, .int 0, .int 0, .int 0, .int 0, .int 0, .int 0, .int 0, .ref q13, .null, .null, .null, .int 0, .null])) [(q0, .inl (E.2.2 0, 3147, .inl (fun _ => 0))), (q1, .inl (E.2.2 0, 3147, .inl (fun _ => 0))), (q2, .inl (E.2.2 0, 3147, .inl (fun _ => 0))), (q3, .inl (E.2.2 0, 4, .inl (fun _ => 0))), (q4, .inl (E.2.2 0, 4, .inl (fun _ => 0))), (q5, .inl (E.2.2 0, 96, .inl (fun _ => 0))), (q6, .inl (E.2.2 0, 5, .inl (fun _ => 0))), (q7, .inl (E.2.2 0, 5, .inl (fun _ => 0))), (q8, .inl (E.2.2 0, 5, .inl (fun _ => 0))), (q9, .inl (E.2.2 0, 5, .inl (fun _ => 0))), (q10, .inl (E.2.2 0, 120, .inl (fun _ => 0))), (q11, .inl (E.2.2 0, 8, .inl (fun _ => 0))), (q12, .inl (E.2.2 0, 96, .inl (fun _ => 0))), (q13, .inl (E.2.2 0, 128, .inl (fun _ => 0)))]) (Wd.coll hw) ?_
  refine s9_14 (Wd.get hw) rfl (Nat.le_of_ble_eq_true rfl) (Nat.le_of_ble_eq_true rfl) (fun q14 => ?_)
  refine Gc.eqw (ws' := Wd ws k (a, .inr (7, [.ref q0, .ref q1, .ref q2, .int 0, .ref q3, .ref q4, .ref q5, .ref q6, .ref q7, .ref q8, .ref q9, .ref q10, .ref q11, .ref q12, .int 0, .int 0, .int 0, .int 0, .int 0, .int 0, .int 0, .int 0, .int 0, .int 0, .int 0, .ref q13, .ref q14, .null, .null, .int 0, .null])) [(q0, .inl (E.2.2 0, 3147, .inl (fun _ => 0))), (q1, .inl (E.2.2 0, 3147, .inl (fun _ => 0))), (q2, .inl (E.2.2 0, 3147, .inl (fun _ => 0))), (q3, .inl (E.2.2 0, 4, .inl (fun _ => 0))), (q4, .inl (E.2.2 0, 4, .inl (fun _ => 0))), (q5, .inl (E.2.2 0, 96, .inl (fun _ => 0))), (q6, .inl (E.2.2 0, 5, .inl (fun _ => 0))), (q7, .inl (E.2.2 0, 5, .inl (fun _ => 0))), (q8, .inl (E.2.2 0, 5, .inl (fun _ => 0))), (q9, .inl (E.2.2 0, 5, .inl (fun _ => 0))), (q10, .inl (E.2.2 0, 120, .inl (fun _ => 0))), (q11, .inl (E.2.2 0, 8, .inl (fun _ => 0))), (q12, .inl (E.2.2 0, 96, .inl (fun _ => 0))), (q13, .inl (E.2.2 0, 128, .inl (fun _ => 0))), (q14, .inl (E.2.2 0, 100, .inl (fun _ => 0)))]) (Wd.coll hw) ?_
  refine s9_15 (Wd.get hw) rfl (Nat.le_of_ble_eq_true rfl) (Nat.le_of_ble_eq_true rfl) (fun q15 => ?_)
  refine Gc.eqw (ws' := Wd ws k (a, .inr (7, [.ref q0, .ref q1, .ref q2, .int 0, .ref q3, .ref q4, .ref q5, .ref q6, .ref q7, .ref q8, .ref q9, .ref q10, .ref q11, .ref q12, .int 0, .int 0, .int 0, .int 0, .int 0, .int 0, .int 0, .int 0, .int 0, .int 0, .int 0, .ref q13, .ref q14, .ref q15, .null, .int 0, .null])) [(q0, .inl (E.2.2 0, 3147, .inl (fun _ => 0))), (q1, .inl (E.2.2 0, 3147, .inl (fun _ => 0))), (q2, .inl (E.2.2 0, 3147, .inl (fun _ => 0))), (q3, .inl (E.2.2 0, 4, .inl (fun _ => 0))), (q4, .inl (E.2.2 0, 4, .inl (fun _ => 0))), (q5, .inl (E.2.2 0, 96, .inl (fun _ => 0))), (q6, .inl (E.2.2 0, 5, .inl (fun _ => 0))), (q7, .inl (E.2.2 0, 5, .inl (fun _ => 0))), (q8, .inl (E.2.2 0, 5, .inl (fun _ => 0))), (q9, .inl (E.2.2 0, 5, .inl (fun _ => 0))), (q10, .inl (E.2.2 0, 120, .inl (fun _ => 0))), (q11, .inl (E.2.2 0, 8, .inl (fun _ => 0))), (q12, .inl (E.2.2 0, 96, .inl (fun _ => 0))), (q13, .inl (E.2.2 0, 128, .inl (fun _ => 0))), (q14, .inl (E.2.2 0, 100, .inl (fun _ => 0))), (q15, .inl (E.2.2 0, 24, .inl (fun _ => 0)))]) (Wd.coll hw) ?_
  refine s9_16 (Wd.get hw) rfl (Nat.le_of_ble_eq_true rfl) (Nat.le_of_ble_eq_true rfl) (fun q16 => ?_)
  refine Gc.eqw (ws' := Wd ws k (a, .inr (7, [.ref q0, .ref q1, .ref q2, .int 0, .ref q3, .ref q4, .ref q5, .ref q6, .ref q7, .ref q8, .ref q9, .ref q10, .ref q11, .ref q12, .int 0, .int 0, .int 0, .int 0, .int 0, .int 0, .int 0, .int 0, .int 0, .int 0, .int 0, .ref q13, .ref q14, .ref q15, .ref q16, .int 0, .null])) [(q0, .inl (E.2.2 0, 3147, .inl (fun _ => 0))), (q1, .inl (E.2.2 0, 3147, .inl (fun _ => 0))), (q2, .inl (E.2.2 0, 3147, .inl (fun _ => 0))), (q3, .inl (E.2.2 0, 4, .inl (fun _ => 0))), (q4, .inl (E.2.2 0, 4, .inl (fun _ => 0))), (q5, .inl (E.2.2 0, 96, .inl (fun _ => 0))), (q6, .inl (E.2.2 0, 5, .inl (fun _ => 0))), (q7, .inl (E.2.2 0, 5, .inl (fun _ => 0))), (q8, .inl (E.2.2 0, 5, .inl (fun _ => 0))), (q9, .inl (E.2.2 0, 5, .inl (fun _ => 0))), (q10, .inl (E.2.2 0, 120, .inl (fun _ => 0))), (q11, .inl (E.2.2 0, 8, .inl (fun _ => 0))), (q12, .inl (E.2.2 0, 96, .inl (fun _ => 0))), (q13, .inl (E.2.2 0, 128, .inl (fun _ => 0))), (q14, .inl (E.2.2 0, 100, .inl (fun _ => 0))), (q15, .inl (E.2.2 0, 24, .inl (fun _ => 0))), (q16, .inl (E.2.2 0, 60, .inl (fun _ => 0)))]) (Wd.coll hw) ?_
  refine s9_17 (Wd.get hw) rfl (Nat.le_of_ble_eq_true rfl) (Nat.le_of_ble_eq_true rfl) (fun q17 => ?_)
  refine Gc.eqw (ws' := Wd ws k (a, .inr (7, [.ref q0, .ref q1, .ref q2, .int 0, .ref q3, .ref q4, .ref q5, .ref q6, .ref q7, .ref q8, .ref q9, .ref q10, .ref q11, .ref q12, .int 0, .int 0, .int 0, .int 0, .int 0, .int 0, .int 0, .int 0, .int 0, .int 0, .int 0, .ref q13, .ref q14, .ref q15, .ref q16, .int 0, .ref q17])) [(q0, .inl (E.2.2 0, 3147, .inl (fun _ => 0))), (q1, .inl (E.2.2 0, 3147, .inl (fun _ => 0))), (q2, .inl (E.2.2 0, 3147, .inl (fun _ => 0))), (q3, .inl (E.2.2 0, 4, .inl (fun _ => 0))), (q4, .inl (E.2.2 0, 4, .inl (fun _ => 0))), (q5, .inl (E.2.2 0, 96, .inl (fun _ => 0))), (q6, .inl (E.2.2 0, 5, .inl (fun _ => 0))), (q7, .inl (E.2.2 0, 5, .inl (fun _ => 0))), (q8, .inl (E.2.2 0, 5, .inl (fun _ => 0))), (q9, .inl (E.2.2 0, 5, .inl (fun _ => 0))), (q10, .inl (E.2.2 0, 120, .inl (fun _ => 0))), (q11, .inl (E.2.2 0, 8, .inl (fun _ => 0))), (q12, .inl (E.2.2 0, 96, .inl (fun _ => 0))), (q13, .inl (E.2.2 0, 128, .inl (fun _ => 0))), (q14, .inl (E.2.2 0, 100, .inl (fun _ => 0))), (q15, .inl (E.2.2 0, 24, .inl (fun _ => 0))), (q16, .inl (E.2.2 0, 60, .inl (fun _ => 0))), (q17, .inl (E.2.2 0, 60, .inl (fun _ => 0)))]) (Wd.coll hw) ?_
  refine Gc.eqw (ws' := Wd ws k _ [(q0, .inl (E.2.2 0, 3147, .inl (fun _ => 0))), (q1, .inl (E.2.2 0, 3147, .inl (fun _ => 0))), (q2, .inl (E.2.2 0, 3147, .inl (fun _ => 0))), (q3, .inl (E.2.2 0, 4, .inl (fun _ => 0))), (q4, .inl (E.2.2 0, 4, .inl (fun _ => 0))), (q5, .inl (E.2.2 0, 96, .inl (fun _ => 0))), (q6, .inl (E.2.2 0, 5, .inl (fun _ => 0))), (q7, .inl (E.2.2 0, 5, .inl (fun _ => 0))), (q8, .inl (E.2.2 0, 5, .inl (fun _ => 0))), (q9, .inl (E.2.2 0, 5, .inl (fun _ => 0))), (q10, .inl (E.2.2 0, 120, .inl (fun _ => 0))), (q11, .inl (E.2.2 0, 8, .inl (fun _ => 0))), (q12, .inl (E.2.2 0, 96, .inl (fun _ => 0))), (q13, .inl (E.2.2 0, 128, .inl (fun _ => 0))), (q14, .inl (E.2.2 0, 100, .inl (fun _ => 0))), (q15, .inl (E.2.2 0, 24, .inl (fun _ => 0))), (q16, .inl (E.2.2 0, 60, .inl (fun _ => 0))), (q17, .inl (E.2.2 0, 60, .inl (fun _ => 0)))]) rfl ?_
  refine s9_st (t := ws.length + 0) (b := q0) (Wd.get hw) rfl ((Wd.getl 0).trans rfl) (by omega) ?_
  refine Gc.iconst (v := nI 0) dX9_init_194 rfl ?_
  refine Gc.istore_n (ls' := [some (vR a), some (vI (nI 0))]) dX9_init_195 (by decide) rfl ?_
  refine Gc.eqw (ws' := (Wd ws k _ [(q0, .inl (E.2.2 0, 3147, .inl (fun _ => 0))), (q1, .inl (E.2.2 0, 3147, .inl (fun _ => 0))), (q2, .inl (E.2.2 0, 3147, .inl (fun _ => 0))), (q3, .inl (E.2.2 0, 4, .inl (fun _ => 0))), (q4, .inl (E.2.2 0, 4, .inl (fun _ => 0))), (q5, .inl (E.2.2 0, 96, .inl (fun _ => 0))), (q6, .inl (E.2.2 0, 5, .inl (fun _ => 0))), (q7, .inl (E.2.2 0, 5, .inl (fun _ => 0))), (q8, .inl (E.2.2 0, 5, .inl (fun _ => 0))), (q9, .inl (E.2.2 0, 5, .inl (fun _ => 0))), (q10, .inl (E.2.2 0, 120, .inl (fun _ => 0))), (q11, .inl (E.2.2 0, 8, .inl (fun _ => 0))), (q12, .inl (E.2.2 0, 96, .inl (fun _ => 0))), (q13, .inl (E.2.2 0, 128, .inl (fun _ => 0))), (q14, .inl (E.2.2 0, 100, .inl (fun _ => 0))), (q15, .inl (E.2.2 0, 24, .inl (fun _ => 0))), (q16, .inl (E.2.2 0, 60, .inl (fun _ => 0))), (q17, .inl (E.2.2 0, 60, .inl (fun _ => 0)))]).set (ws.length + 0) (q0, .inl (E.2.2 0, 3147, .inl (smF (upd (upd (upd (upd (upd (upd (fun _ => 0) 4 (nI 1)) 5 (nI 2)) 6 (nI 8)) 7 (nI 3)) 9 (nI 20)) 10 (nI 1)) 0)))) (by rw [smF_z]) ?_
  refine k9_l1 (t := ws.length + 0) (b := q0) (Wd.get hw) rfl (by rw [Wd.len]; show _ < _ + 18; omega) (by omega) ?_ 30 0 rfl
  refine Gc.eqw (Wd.setl 0) ?_
  refine Gc.iconst (v := nI 0) dX9_init_222 rfl ?_
  refine Gc.istore_n (ls' := [some (vR a), some (vI (nI 0))]) dX9_init_223 (by decide) rfl ?_
  refine Gc.eqw (ws' := (Wd ws k (a, .inr (7, [.ref q0, .ref q1, .ref q2, .int 0, .ref q3, .ref q4, .ref q5, .ref q6, .ref q7, .ref q8, .ref q9, .ref q10, .ref q11, .ref q12, .int 0, .int 0, .int 0, .int 0, .int 0, .int 0, .int 0, .int 0, .int 0, .int 0, .int 0, .ref q13, .ref q14, .ref q15, .ref q16, .int 0, .ref q17])) [(q0, .inl (E.2.2 0, 3147, .inl (smF (upd (upd (upd (upd (upd (upd (fun _ => 0) 4 (nI 1)) 5 (nI 2)) 6 (nI 8)) 7 (nI 3)) 9 (nI 20)) 10 (nI 1)) 30))), (q1, .inl (E.2.2 0, 3147, .inl (fun _ => 0))), (q2, .inl (E.2.2 0, 3147, .inl (fun _ => 0))), (q3, .inl (E.2.2 0, 4, .inl (fun _ => 0))), (q4, .inl (E.2.2 0, 4, .inl (fun _ => 0))), (q5, .inl (E.2.2 0, 96, .inl (fun _ => 0))), (q6, .inl (E.2.2 0, 5, .inl (fun _ => 0))), (q7, .inl (E.2.2 0, 5, .inl (fun _ => 0))), (q8, .inl (E.2.2 0, 5, .inl (fun _ => 0))), (q9, .inl (E.2.2 0, 5, .inl (fun _ => 0))), (q10, .inl (E.2.2 0, 120, .inl (fun _ => 0))), (q11, .inl (E.2.2 0, 8, .inl (fun _ => 0))), (q12, .inl (E.2.2 0, 96, .inl (fun _ => 0))), (q13, .inl (E.2.2 0, 128, .inl (fun _ => 0))), (q14, .inl (E.2.2 0, 100, .inl (fun _ => 0))), (q15, .inl (E.2.2 0, 24, .inl (fun _ => 0))), (q16, .inl (E.2.2 0, 60, .inl (fun _ => 0))), (q17, .inl (E.2.2 0, 60, .inl (fun _ => 0)))]).set (ws.length + 3) (q3, .inl (E.2.2 0, 4, .inl (tsF (fun _ => 0) 0)))) (by rw [Wd.setl, tsF_z]; rfl) ?_
  refine k9_l2 (t := ws.length + 3) (b := q3) (Wd.get hw) rfl (by rw [Wd.len]; show _ < _ + 18; omega) (by omega) ?_ 4 0 rfl
  refine Gc.eqw (Wd.setl 3) ?_
  exact Gc.ret dX9_init_242 rfl rfl ⟨fun i => [q0, q1, q2, q3, q4, q5, q6, q7, q8, q9, q10, q11, q12, q13, q14, q15, q16, q17].getD (i - 77) 0, rfl⟩
