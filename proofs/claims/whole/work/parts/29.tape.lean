def byt (x : Int32) (t : Nat) : Int32 := iush x (nI (24 - 8 * t)) &&& nI 255
theorem byt_eq (x : Int32) {t : Nat} (h : t < 4) : (x >>> (nI (24 - 8 * t) &&& 31)) &&& nI 255 = byt x t := by
  unfold byt
  have : t = 0 ∨ t = 1 ∨ t = 2 ∨ t = 3 := by omega
  apply Int32.toBitVec_inj.mp
  apply BitVec.eq_of_getLsbD_eq
  intro i hi
  rcases this with rfl | rfl | rfl | rfl
  · have e1 : ((x >>> (nI (24 - 8 * 0) &&& 31)) &&& nI 255).toBitVec = (x.toBitVec.sshiftRight 24) &&& 255#32 := rfl
    have e2 : (iush x (nI (24 - 8 * 0)) &&& nI 255).toBitVec = (x.toBitVec >>> 24) &&& 255#32 := rfl
    rw [e1, e2, BitVec.getLsbD_and, BitVec.getLsbD_and]
    by_cases h8 : i < 8
    · rw [BitVec.getLsbD_sshiftRight, BitVec.getLsbD_ushiftRight, if_pos (by omega), decide_eq_false (by omega)]; rfl
    · rw [show (255#32).getLsbD i = false by revert hi h8; revert i; decide, Bool.and_false, Bool.and_false]
  · have e1 : ((x >>> (nI (24 - 8 * 1) &&& 31)) &&& nI 255).toBitVec = (x.toBitVec.sshiftRight 16) &&& 255#32 := rfl
    have e2 : (iush x (nI (24 - 8 * 1)) &&& nI 255).toBitVec = (x.toBitVec >>> 16) &&& 255#32 := rfl
    rw [e1, e2, BitVec.getLsbD_and, BitVec.getLsbD_and]
    by_cases h8 : i < 8
    · rw [BitVec.getLsbD_sshiftRight, BitVec.getLsbD_ushiftRight, if_pos (by omega), decide_eq_false (by omega)]; rfl
    · rw [show (255#32).getLsbD i = false by revert hi h8; revert i; decide, Bool.and_false, Bool.and_false]
  · have e1 : ((x >>> (nI (24 - 8 * 2) &&& 31)) &&& nI 255).toBitVec = (x.toBitVec.sshiftRight 8) &&& 255#32 := rfl
    have e2 : (iush x (nI (24 - 8 * 2)) &&& nI 255).toBitVec = (x.toBitVec >>> 8) &&& 255#32 := rfl
    rw [e1, e2, BitVec.getLsbD_and, BitVec.getLsbD_and]
    by_cases h8 : i < 8
    · rw [BitVec.getLsbD_sshiftRight, BitVec.getLsbD_ushiftRight, if_pos (by omega), decide_eq_false (by omega)]; rfl
    · rw [show (255#32).getLsbD i = false by revert hi h8; revert i; decide, Bool.and_false, Bool.and_false]
  · have e1 : ((x >>> (nI (24 - 8 * 3) &&& 31)) &&& nI 255).toBitVec = (x.toBitVec.sshiftRight 0) &&& 255#32 := rfl
    have e2 : (iush x (nI (24 - 8 * 3)) &&& nI 255).toBitVec = (x.toBitVec >>> 0) &&& 255#32 := rfl
    rw [e1, e2, BitVec.getLsbD_and, BitVec.getLsbD_and]
    by_cases h8 : i < 8
    · rw [BitVec.getLsbD_sshiftRight, BitVec.getLsbD_ushiftRight, if_pos (by omega), decide_eq_false (by omega)]; rfl
    · rw [show (255#32).getLsbD i = false by revert hi h8; revert i; decide, Bool.and_false, Bool.and_false]
theorem byt_rng (x : Int32) (t : Nat) : ∃ b, b < 256 ∧ byt x t = nI b := by
  unfold byt
  generalize iush x (nI (24 - 8 * t)) = y
  have e : (y &&& nI 255).toBitVec.toNat = y.toBitVec.toNat % 256 := by
    have : (y &&& nI 255).toBitVec = y.toBitVec &&& 255#32 := rfl
    rw [this, BitVec.toNat_and]
    exact Nat.and_two_pow_sub_one_eq_mod _ 8
  refine ⟨y.toBitVec.toNat % 256, by omega, ?_⟩
  apply Int32.toBitVec_inj.mp
  apply BitVec.eq_of_toNat_eq
  rw [e]
  show _ = (nI (y.toBitVec.toNat % 256)).toBitVec.toNat
  have hq : y.toBitVec.toNat % 256 < 256 := by omega
  generalize y.toBitVec.toNat % 256 = q at hq
  have : (nI q).toBitVec = BitVec.ofNat 32 q := rfl
  rw [this, BitVec.toNat_ofNat]; omega
theorem Sim.tape {μ μ' : Memo} (hS : Sim μ) (kk : ∀ o, o ≠ 31 → o ≠ 32 → o ≠ 76 → o ≠ 89 → μ' o = μ o) (e3 : μ' 76 3 = μ 76 3) (e29 : μ' 76 29 = μ 76 29) (h : SimTp μ') : Sim μ' :=
  hS.part (fun o ho => kk o (by omega) (by omega) (by omega) (by omega)) (by rw [kk 0 (by decide) (by decide) (by decide) (by decide)]) e3 (hS.2.2.2.2.1.same (fun o ho => kk o (by omega) (by omega) (by omega) (by omega))) (hS.2.2.2.2.2.1.same (fun o ho => kk o (by omega) (by omega) (by omega) (by omega))) h (hS.2.2.2.2.2.2.2.same (by rw [kk 0 (by decide) (by decide) (by decide) (by decide)]) (kk 38 (by decide) (by decide) (by decide) (by decide)) (kk 93 (by decide) (by decide) (by decide) (by decide)) e29)
theorem c_addNumber {V : VV} {d : Nat} {μ : Memo} {N : Nat} (hN : μ 31 0 = nI N) (h96 : N + 4 ≤ 96) (x : Int32) : RetU V (d) mX7_addNumber [vR 31, vI x] μ (fun μ1 => μ1 31 0 = nI (N + 4) ∧ (∀ t, t < 4 → μ1 32 (N + t) = byt x t) ∧ (∀ i, i < N → μ1 32 i = μ 32 i) ∧ Fr [31, 32] μ μ1) := by
  show Go V (d) mX7_addNumber 0 [some (vR 31), some (vI x), none] [] μ _
  refine Go.bipush (v := nI 24) dX7_addNumber_0 rfl ?_
  refine Go.istore_n (ls' := [some (vR 31), some (vI x), some (vI (nI 24))]) dX7_addNumber_2 (by decide) rfl ?_
  refine Go.iload_n dX7_addNumber_3 rfl ?_
  refine Go.if_lt_f (tgt := 48) dX7_addNumber_4 (by decide) (by decide) ?_
  refine Go.aload_n dX7_addNumber_7 rfl ?_
  refine Go.getI dX7_addNumber_8 flX7_15 rfl ?_
  refine Go.topE (y := nI N) hN ?_
  refine Go.at 11 rfl ?_
  refine Go.bipush (v := nI 96) dX7_addNumber_11 rfl ?_
  refine Go.icmp_ge_f (tgt := 48) dX7_addNumber_13 (by decide) (nI_ge (by omega) (by decide)) ?_
  refine Go.aload_n dX7_addNumber_16 rfl ?_
  refine Go.getR dX7_addNumber_17 flX7_9 rfl ?_
  refine Go.aload_n dX7_addNumber_20 rfl ?_
  refine Go.getI dX7_addNumber_21 flX7_15 rfl ?_
  refine Go.topE (y := nI N) hN ?_
  refine Go.at 24 rfl ?_
  refine Go.iload_n dX7_addNumber_24 rfl ?_
  refine Go.iload_n dX7_addNumber_25 rfl ?_
  refine Go.iushrE dX7_addNumber_26 ?_
  refine Go.sipush (v := nI 255) dX7_addNumber_27 rfl ?_
  refine Go.iand dX7_addNumber_30 ?_
  refine Go.topE (y := byt x 0) rfl ?_
  refine Go.iastore N dX7_addNumber_31 rfl (by omega) rfl ?_
  refine Go.at 32 rfl ?_
  refine Go.aload_n dX7_addNumber_32 rfl ?_
  refine Go.dupR dX7_addNumber_33 ?_
  refine Go.getI dX7_addNumber_34 flX7_15 rfl ?_
  refine Go.topE (y := nI N) hN ?_
  refine Go.iconst (v := nI 1) dX7_addNumber_37 rfl ?_
  refine Go.iaddN dX7_addNumber_38 ?_
  refine Go.topE (y := nI (N + 1)) rfl ?_
  refine Go.put dX7_addNumber_39 flX7_15 rfl rfl rfl rfl ?_
  refine Go.at 42 rfl ?_
  refine Go.iinc (v := nI 16) (ls' := [some (vR 31), some (vI x), some (vI (nI 16))]) dX7_addNumber_42 rfl (by decide) (by decide) rfl ?_
  refine Go.goto (tgt := 3) dX7_addNumber_45 (by decide) ?_
  refine Go.iload_n dX7_addNumber_3 rfl ?_
  refine Go.if_lt_f (tgt := 48) dX7_addNumber_4 (by decide) (by decide) ?_
  refine Go.aload_n dX7_addNumber_7 rfl ?_
  refine Go.getI dX7_addNumber_8 flX7_15 rfl ?_
  refine Go.topE (y := nI (N + 1)) (by simp (disch := omega) only [ms_self, ms_ne, upd_self, upd_ne, hN]) ?_
  refine Go.at 11 rfl ?_
  refine Go.bipush (v := nI 96) dX7_addNumber_11 rfl ?_
  refine Go.icmp_ge_f (tgt := 48) dX7_addNumber_13 (by decide) (nI_ge (by omega) (by decide)) ?_
  refine Go.aload_n dX7_addNumber_16 rfl ?_
  refine Go.getR dX7_addNumber_17 flX7_9 rfl ?_
  refine Go.aload_n dX7_addNumber_20 rfl ?_
  refine Go.getI dX7_addNumber_21 flX7_15 rfl ?_
  refine Go.topE (y := nI (N + 1)) (by simp (disch := omega) only [ms_self, ms_ne, upd_self, upd_ne, hN]) ?_
  refine Go.at 24 rfl ?_
  refine Go.iload_n dX7_addNumber_24 rfl ?_
  refine Go.iload_n dX7_addNumber_25 rfl ?_
  refine Go.iushrE dX7_addNumber_26 ?_
  refine Go.sipush (v := nI 255) dX7_addNumber_27 rfl ?_
  refine Go.iand dX7_addNumber_30 ?_
  refine Go.topE (y := byt x 1) rfl ?_
  refine Go.iastore (N + 1) dX7_addNumber_31 rfl (by omega) rfl ?_
  refine Go.at 32 rfl ?_
  refine Go.aload_n dX7_addNumber_32 rfl ?_
  refine Go.dupR dX7_addNumber_33 ?_
  refine Go.getI dX7_addNumber_34 flX7_15 rfl ?_
  refine Go.topE (y := nI (N + 1)) (by simp (disch := omega) only [ms_self, ms_ne, upd_self, upd_ne, hN]) ?_
  refine Go.iconst (v := nI 1) dX7_addNumber_37 rfl ?_
  refine Go.iaddN dX7_addNumber_38 ?_
  refine Go.topE (y := nI (N + 2)) rfl ?_
  refine Go.put dX7_addNumber_39 flX7_15 rfl rfl rfl rfl ?_
  refine Go.at 42 rfl ?_
  refine Go.iinc (v := nI 8) (ls' := [some (vR 31), some (vI x), some (vI (nI 8))]) dX7_addNumber_42 rfl (by decide) (by decide) rfl ?_
  refine Go.goto (tgt := 3) dX7_addNumber_45 (by decide) ?_
  refine Go.iload_n dX7_addNumber_3 rfl ?_
  refine Go.if_lt_f (tgt := 48) dX7_addNumber_4 (by decide) (by decide) ?_
  refine Go.aload_n dX7_addNumber_7 rfl ?_
  refine Go.getI dX7_addNumber_8 flX7_15 rfl ?_
  refine Go.topE (y := nI (N + 2)) (by simp (disch := omega) only [ms_self, ms_ne, upd_self, upd_ne, hN]) ?_
  refine Go.at 11 rfl ?_
  refine Go.bipush (v := nI 96) dX7_addNumber_11 rfl ?_
  refine Go.icmp_ge_f (tgt := 48) dX7_addNumber_13 (by decide) (nI_ge (by omega) (by decide)) ?_
  refine Go.aload_n dX7_addNumber_16 rfl ?_
  refine Go.getR dX7_addNumber_17 flX7_9 rfl ?_
  refine Go.aload_n dX7_addNumber_20 rfl ?_
  refine Go.getI dX7_addNumber_21 flX7_15 rfl ?_
  refine Go.topE (y := nI (N + 2)) (by simp (disch := omega) only [ms_self, ms_ne, upd_self, upd_ne, hN]) ?_
  refine Go.at 24 rfl ?_
  refine Go.iload_n dX7_addNumber_24 rfl ?_
  refine Go.iload_n dX7_addNumber_25 rfl ?_
  refine Go.iushrE dX7_addNumber_26 ?_
  refine Go.sipush (v := nI 255) dX7_addNumber_27 rfl ?_
  refine Go.iand dX7_addNumber_30 ?_
  refine Go.topE (y := byt x 2) rfl ?_
  refine Go.iastore (N + 2) dX7_addNumber_31 rfl (by omega) rfl ?_
  refine Go.at 32 rfl ?_
  refine Go.aload_n dX7_addNumber_32 rfl ?_
  refine Go.dupR dX7_addNumber_33 ?_
  refine Go.getI dX7_addNumber_34 flX7_15 rfl ?_
  refine Go.topE (y := nI (N + 2)) (by simp (disch := omega) only [ms_self, ms_ne, upd_self, upd_ne, hN]) ?_
  refine Go.iconst (v := nI 1) dX7_addNumber_37 rfl ?_
  refine Go.iaddN dX7_addNumber_38 ?_
  refine Go.topE (y := nI (N + 3)) rfl ?_
  refine Go.put dX7_addNumber_39 flX7_15 rfl rfl rfl rfl ?_
  refine Go.at 42 rfl ?_
  refine Go.iinc (v := nI 0) (ls' := [some (vR 31), some (vI x), some (vI (nI 0))]) dX7_addNumber_42 rfl (by decide) (by decide) rfl ?_
  refine Go.goto (tgt := 3) dX7_addNumber_45 (by decide) ?_
  refine Go.iload_n dX7_addNumber_3 rfl ?_
  refine Go.if_lt_f (tgt := 48) dX7_addNumber_4 (by decide) (by decide) ?_
  refine Go.aload_n dX7_addNumber_7 rfl ?_
  refine Go.getI dX7_addNumber_8 flX7_15 rfl ?_
  refine Go.topE (y := nI (N + 3)) (by simp (disch := omega) only [ms_self, ms_ne, upd_self, upd_ne, hN]) ?_
  refine Go.at 11 rfl ?_
  refine Go.bipush (v := nI 96) dX7_addNumber_11 rfl ?_
  refine Go.icmp_ge_f (tgt := 48) dX7_addNumber_13 (by decide) (nI_ge (by omega) (by decide)) ?_
  refine Go.aload_n dX7_addNumber_16 rfl ?_
  refine Go.getR dX7_addNumber_17 flX7_9 rfl ?_
  refine Go.aload_n dX7_addNumber_20 rfl ?_
  refine Go.getI dX7_addNumber_21 flX7_15 rfl ?_
  refine Go.topE (y := nI (N + 3)) (by simp (disch := omega) only [ms_self, ms_ne, upd_self, upd_ne, hN]) ?_
  refine Go.at 24 rfl ?_
  refine Go.iload_n dX7_addNumber_24 rfl ?_
  refine Go.iload_n dX7_addNumber_25 rfl ?_
  refine Go.iushrE dX7_addNumber_26 ?_
  refine Go.sipush (v := nI 255) dX7_addNumber_27 rfl ?_
  refine Go.iand dX7_addNumber_30 ?_
  refine Go.topE (y := byt x 3) rfl ?_
  refine Go.iastore (N + 3) dX7_addNumber_31 rfl (by omega) rfl ?_
  refine Go.at 32 rfl ?_
  refine Go.aload_n dX7_addNumber_32 rfl ?_
  refine Go.dupR dX7_addNumber_33 ?_
  refine Go.getI dX7_addNumber_34 flX7_15 rfl ?_
  refine Go.topE (y := nI (N + 3)) (by simp (disch := omega) only [ms_self, ms_ne, upd_self, upd_ne, hN]) ?_
  refine Go.iconst (v := nI 1) dX7_addNumber_37 rfl ?_
  refine Go.iaddN dX7_addNumber_38 ?_
  refine Go.topE (y := nI (N + 4)) rfl ?_
  refine Go.put dX7_addNumber_39 flX7_15 rfl rfl rfl rfl ?_
  refine Go.at 42 rfl ?_
  refine Go.iinc (v := (-8)) (ls' := [some (vR 31), some (vI x), some (vI (-8))]) dX7_addNumber_42 rfl (by decide) (by decide) rfl ?_
  refine Go.goto (tgt := 3) dX7_addNumber_45 (by decide) ?_
  refine Go.iload_n dX7_addNumber_3 rfl ?_
  refine Go.if_lt_t (tgt := 48) dX7_addNumber_4 (by decide) (by decide) ?_
  refine Go.vreturn dX7_addNumber_48 rfl ?_
  refine ⟨rfl, by simp (disch := omega) only [ms_self, ms_ne, upd_self, upd_ne, Nat.add_zero], fun t ht => ?_, fun i hi => by simp (disch := omega) only [ms_self, ms_ne, upd_self, upd_ne, Nat.add_zero], fun o ho => ?_⟩
  · have : t = 0 ∨ t = 1 ∨ t = 2 ∨ t = 3 := by omega
    rcases this with rfl | rfl | rfl | rfl <;> simp (disch := omega) only [ms_self, ms_ne, upd_self, upd_ne, Nat.add_zero]
  · simp only [List.mem_cons, List.not_mem_nil, or_false] at ho
    simp (disch := omega) only [ms_self, ms_ne, upd_self, upd_ne, Nat.add_zero]
set_option maxHeartbeats 4000000 in
theorem op_feed {V : VV} {d : Nat} {μ : Memo} (hS : Sim μ) (a : Int32) (b : Int32) (c : Int32) : OpOK V (d + 2) mX8_feed mX9_feed [vI a, vI b, vI c] μ := by
  obtain ⟨⟨hT, hCo, hKd, hO, hH⟩, hI, hX, hIm, hSh, hSl, hTp, hWt⟩ := id hS
  obtain ⟨N, hN96, t1, t2, t3⟩ := hTp
  by_cases hf : N + 12 ≤ 96
  · skip
    refine OpOK.of (x := nI (N + 12)) (P := fun μ1 => μ1 31 0 = nI (N + 12) ∧ (∀ t, t < 4 → μ1 32 (N + t) = byt a t) ∧ (∀ t, t < 4 → μ1 32 (N + 4 + t) = byt b t) ∧ (∀ t, t < 4 → μ1 32 (N + 8 + t) = byt c t) ∧ (∀ i, i < N → μ1 32 i = μ 32 i) ∧ Fr [31, 32] μ μ1) ?_ (fun μ5 k5 => ?_)
    · show Go V (d + 2) mX8_feed 0 [some (vR 0), some (vI a), some (vI b), some (vI c)] [] μ _
      refine Go.aload_n dX8_feed_0 rfl ?_
      refine Go.getR dX8_feed_1 flX8_34 rfl ?_
      refine Go.getI dX8_feed_4 flX8_201 rfl ?_
      refine Go.topE (y := nI N) t1 ?_
      refine Go.bipush (v := nI 12) dX8_feed_7 rfl ?_
      refine Go.iaddN dX8_feed_9 ?_
      refine Go.bipush (v := nI 96) dX8_feed_10 rfl ?_
      refine Go.at 12 rfl ?_
      refine Go.icmp_le_t (tgt := 18) dX8_feed_12 (by decide) (by rw [sI_le, nT, nT]; omega) ?_
      refine Go.aload_n dX8_feed_18 rfl ?_
      refine Go.getR dX8_feed_19 flX8_34 rfl ?_
      refine Go.iload_n dX8_feed_22 rfl ?_
      refine Go.callVu 31 [vI a] [] dX8_feed_23 lkX8_204 (Or.inl ⟨_, _, _, rfl, rfl, rfl⟩) rfl (Nat.le_of_ble_eq_true rfl) rfl (Nat.le_of_ble_eq_true rfl) (c_addNumber t1 (by omega) a) (fun μ1 k1 => ?_)
      refine Go.aload_n dX8_feed_26 rfl ?_
      refine Go.at 27 rfl ?_
      refine Go.getR dX8_feed_27 flX8_34 rfl ?_
      refine Go.iload_n dX8_feed_30 rfl ?_
      refine Go.callVu 31 [vI b] [] dX8_feed_31 lkX8_204 (Or.inl ⟨_, _, _, rfl, rfl, rfl⟩) rfl (Nat.le_of_ble_eq_true rfl) rfl (Nat.le_of_ble_eq_true rfl) (c_addNumber k1.1 (by omega) b) (fun μ2 k2 => ?_)
      refine Go.aload_n dX8_feed_34 rfl ?_
      refine Go.getR dX8_feed_35 flX8_34 rfl ?_
      refine Go.iload_n dX8_feed_38 rfl ?_
      refine Go.at 39 rfl ?_
      refine Go.callVu 31 [vI c] [] dX8_feed_39 lkX8_204 (Or.inl ⟨_, _, _, rfl, rfl, rfl⟩) rfl (Nat.le_of_ble_eq_true rfl) rfl (Nat.le_of_ble_eq_true rfl) (c_addNumber k2.1 (by omega) c) (fun μ3 k3 => ?_)
      refine Go.aload_n dX8_feed_42 rfl ?_
      refine Go.getR dX8_feed_43 flX8_34 rfl ?_
      refine Go.getI dX8_feed_46 flX8_201 rfl ?_
      refine Go.topE (y := nI (N + 12)) (k3.1.trans (by rw [show N + 4 + 4 + 4 = N + 12 by omega])) ?_
      refine Go.ireturn .int dX8_feed_49 rfl rfl ?_
      exact ⟨rfl, by rw [k3.1], fun t ht => by rw [k3.2.2.1 _ (by omega), k2.2.2.1 _ (by omega)]; exact k1.2.1 t ht, fun t ht => by rw [k3.2.2.1 _ (by omega)]; exact k2.2.1 t ht, fun t ht => k3.2.1 t ht, fun i hi => by rw [k3.2.2.1 _ (by omega), k2.2.2.1 _ (by omega), k1.2.2.1 _ hi], (k1.2.2.2.trans k2.2.2.2).trans k3.2.2.2⟩
    · skip
      have v5 : μ5 76 14 = nI N := by rw [k5.2.2.2.2.2 76 (by decide)]; exact t2
      show Go V (d + 2) mX9_feed 0 [some (vR 76), some (vI a), some (vI b), some (vI c), none, none] [] μ5 _
      refine Go.aload_n dX9_feed_0 rfl ?_
      refine Go.getI dX9_feed_1 flX9_184 rfl ?_
      refine Go.topE (y := nI N) v5 ?_
      refine Go.bipush (v := nI 12) dX9_feed_4 rfl ?_
      refine Go.iaddN dX9_feed_6 ?_
      refine Go.bipush (v := nI 96) dX9_feed_7 rfl ?_
      refine Go.icmp_le_t (tgt := 15) dX9_feed_9 (by decide) (by rw [sI_le, nT, nT]; omega) ?_
      refine Go.at 15 rfl ?_
      refine Go.iconst (v := nI 0) dX9_feed_15 rfl ?_
      refine Go.istore (ls' := [some (vR 76), some (vI a), some (vI b), some (vI c), some (vI (nI 0)), none]) dX9_feed_16 (by decide) rfl ?_
      refine Go.iload dX9_feed_18 rfl ?_
      refine Go.bipush (v := nI 12) dX9_feed_20 rfl ?_
      refine Go.icmp_ge_f (tgt := 91) dX9_feed_22 (by decide) (by decide) ?_
      refine Go.iload dX9_feed_25 rfl ?_
      refine Go.at 27 rfl ?_
      refine Go.iconst (v := nI 4) dX9_feed_27 rfl ?_
      refine Go.icmp_ge_f (tgt := 35) dX9_feed_28 (by decide) (by decide) ?_
      refine Go.iload_n dX9_feed_31 rfl ?_
      refine Go.goto (tgt := 47) dX9_feed_32 (by decide) ?_
      refine Go.istore (ls' := [some (vR 76), some (vI a), some (vI b), some (vI c), some (vI (nI 0)), some (vI a)]) dX9_feed_47 (by decide) rfl ?_
      refine Go.aload_n dX9_feed_49 rfl ?_
      refine Go.at 50 rfl ?_
      refine Go.getR dX9_feed_50 flX9_46 rfl ?_
      refine Go.aload_n dX9_feed_53 rfl ?_
      refine Go.getI dX9_feed_54 flX9_184 rfl ?_
      refine Go.topE (y := nI N) v5 ?_
      refine Go.iload dX9_feed_57 rfl ?_
      refine Go.bipush (v := nI 24) dX9_feed_59 rfl ?_
      refine Go.bipush (v := nI 8) dX9_feed_61 rfl ?_
      refine Go.at 63 rfl ?_
      refine Go.iload dX9_feed_63 rfl ?_
      refine Go.iconst (v := nI 4) dX9_feed_65 rfl ?_
      refine Go.iremE dX9_feed_66 (by decide) ?_
      refine Go.topE (y := nI 0) (by decide) ?_
      refine Go.imulN dX9_feed_67 ?_
      refine Go.isub dX9_feed_68 ?_
      refine Go.topE (y := nI (24 - 8 * 0)) (by decide) ?_
      refine Go.ishr dX9_feed_69 ?_
      refine Go.at 70 rfl ?_
      refine Go.sipush (v := nI 255) dX9_feed_70 rfl ?_
      refine Go.iand dX9_feed_73 ?_
      refine Go.topE (y := byt a 0) (byt_eq a (by decide)) ?_
      refine Go.iastore N dX9_feed_74 rfl (by omega) rfl ?_
      refine Go.aload_n dX9_feed_75 rfl ?_
      refine Go.dupR dX9_feed_76 ?_
      refine Go.getI dX9_feed_77 flX9_184 rfl ?_
      refine Go.topE (y := nI N) (by simp (disch := omega) only [ms_self, ms_ne, upd_self, v5]) ?_
      refine Go.at 80 rfl ?_
      refine Go.iconst (v := nI 1) dX9_feed_80 rfl ?_
      refine Go.iaddN dX9_feed_81 ?_
      refine Go.topE (y := nI (N + 1)) rfl ?_
      refine Go.put dX9_feed_82 flX9_184 rfl rfl rfl rfl ?_
      refine Go.iinc (v := nI 1) (ls' := [some (vR 76), some (vI a), some (vI b), some (vI c), some (vI (nI 1)), some (vI a)]) dX9_feed_85 rfl (by decide) (by decide) rfl ?_
      refine Go.goto (tgt := 18) dX9_feed_88 (by decide) ?_
      refine Go.iload dX9_feed_18 rfl ?_
      refine Go.at 20 rfl ?_
      refine Go.bipush (v := nI 12) dX9_feed_20 rfl ?_
      refine Go.icmp_ge_f (tgt := 91) dX9_feed_22 (by decide) (by decide) ?_
      refine Go.iload dX9_feed_25 rfl ?_
      refine Go.iconst (v := nI 4) dX9_feed_27 rfl ?_
      refine Go.icmp_ge_f (tgt := 35) dX9_feed_28 (by decide) (by decide) ?_
      refine Go.iload_n dX9_feed_31 rfl ?_
      refine Go.at 32 rfl ?_
      refine Go.goto (tgt := 47) dX9_feed_32 (by decide) ?_
      refine Go.istore (ls' := [some (vR 76), some (vI a), some (vI b), some (vI c), some (vI (nI 1)), some (vI a)]) dX9_feed_47 (by decide) rfl ?_
      refine Go.aload_n dX9_feed_49 rfl ?_
      refine Go.getR dX9_feed_50 flX9_46 rfl ?_
      refine Go.aload_n dX9_feed_53 rfl ?_
      refine Go.getI dX9_feed_54 flX9_184 rfl ?_
      refine Go.topE (y := nI (N + 1)) (by simp (disch := omega) only [ms_self, ms_ne, upd_self, v5]) ?_
      refine Go.at 57 rfl ?_
      refine Go.iload dX9_feed_57 rfl ?_
      refine Go.bipush (v := nI 24) dX9_feed_59 rfl ?_
      refine Go.bipush (v := nI 8) dX9_feed_61 rfl ?_
      refine Go.iload dX9_feed_63 rfl ?_
      refine Go.iconst (v := nI 4) dX9_feed_65 rfl ?_
      refine Go.iremE dX9_feed_66 (by decide) ?_
      refine Go.topE (y := nI 1) (by decide) ?_
      refine Go.at 67 rfl ?_
      refine Go.imulN dX9_feed_67 ?_
      refine Go.isub dX9_feed_68 ?_
      refine Go.topE (y := nI (24 - 8 * 1)) (by decide) ?_
      refine Go.ishr dX9_feed_69 ?_
      refine Go.sipush (v := nI 255) dX9_feed_70 rfl ?_
      refine Go.iand dX9_feed_73 ?_
      refine Go.topE (y := byt a 1) (byt_eq a (by decide)) ?_
      refine Go.iastore (N + 1) dX9_feed_74 rfl (by omega) rfl ?_
      refine Go.at 75 rfl ?_
      refine Go.aload_n dX9_feed_75 rfl ?_
      refine Go.dupR dX9_feed_76 ?_
      refine Go.getI dX9_feed_77 flX9_184 rfl ?_
      refine Go.topE (y := nI (N + 1)) (by simp (disch := omega) only [ms_self, ms_ne, upd_self, v5]) ?_
      refine Go.iconst (v := nI 1) dX9_feed_80 rfl ?_
      refine Go.iaddN dX9_feed_81 ?_
      refine Go.topE (y := nI (N + 2)) rfl ?_
      refine Go.put dX9_feed_82 flX9_184 rfl rfl rfl rfl ?_
      refine Go.at 85 rfl ?_
      refine Go.iinc (v := nI 2) (ls' := [some (vR 76), some (vI a), some (vI b), some (vI c), some (vI (nI 2)), some (vI a)]) dX9_feed_85 rfl (by decide) (by decide) rfl ?_
      refine Go.goto (tgt := 18) dX9_feed_88 (by decide) ?_
      refine Go.iload dX9_feed_18 rfl ?_
      refine Go.bipush (v := nI 12) dX9_feed_20 rfl ?_
      refine Go.icmp_ge_f (tgt := 91) dX9_feed_22 (by decide) (by decide) ?_
      refine Go.iload dX9_feed_25 rfl ?_
      refine Go.at 27 rfl ?_
      refine Go.iconst (v := nI 4) dX9_feed_27 rfl ?_
      refine Go.icmp_ge_f (tgt := 35) dX9_feed_28 (by decide) (by decide) ?_
      refine Go.iload_n dX9_feed_31 rfl ?_
      refine Go.goto (tgt := 47) dX9_feed_32 (by decide) ?_
      refine Go.istore (ls' := [some (vR 76), some (vI a), some (vI b), some (vI c), some (vI (nI 2)), some (vI a)]) dX9_feed_47 (by decide) rfl ?_
      refine Go.aload_n dX9_feed_49 rfl ?_
      refine Go.at 50 rfl ?_
      refine Go.getR dX9_feed_50 flX9_46 rfl ?_
      refine Go.aload_n dX9_feed_53 rfl ?_
      refine Go.getI dX9_feed_54 flX9_184 rfl ?_
      refine Go.topE (y := nI (N + 2)) (by simp (disch := omega) only [ms_self, ms_ne, upd_self, v5]) ?_
      refine Go.iload dX9_feed_57 rfl ?_
      refine Go.bipush (v := nI 24) dX9_feed_59 rfl ?_
      refine Go.bipush (v := nI 8) dX9_feed_61 rfl ?_
      refine Go.at 63 rfl ?_
      refine Go.iload dX9_feed_63 rfl ?_
      refine Go.iconst (v := nI 4) dX9_feed_65 rfl ?_
      refine Go.iremE dX9_feed_66 (by decide) ?_
      refine Go.topE (y := nI 2) (by decide) ?_
      refine Go.imulN dX9_feed_67 ?_
      refine Go.isub dX9_feed_68 ?_
      refine Go.topE (y := nI (24 - 8 * 2)) (by decide) ?_
      refine Go.ishr dX9_feed_69 ?_
      refine Go.at 70 rfl ?_
      refine Go.sipush (v := nI 255) dX9_feed_70 rfl ?_
      refine Go.iand dX9_feed_73 ?_
      refine Go.topE (y := byt a 2) (byt_eq a (by decide)) ?_
      refine Go.iastore (N + 2) dX9_feed_74 rfl (by omega) rfl ?_
      refine Go.aload_n dX9_feed_75 rfl ?_
      refine Go.dupR dX9_feed_76 ?_
      refine Go.getI dX9_feed_77 flX9_184 rfl ?_
      refine Go.topE (y := nI (N + 2)) (by simp (disch := omega) only [ms_self, ms_ne, upd_self, v5]) ?_
      refine Go.at 80 rfl ?_
      refine Go.iconst (v := nI 1) dX9_feed_80 rfl ?_
      refine Go.iaddN dX9_feed_81 ?_
      refine Go.topE (y := nI (N + 3)) rfl ?_
      refine Go.put dX9_feed_82 flX9_184 rfl rfl rfl rfl ?_
      refine Go.iinc (v := nI 3) (ls' := [some (vR 76), some (vI a), some (vI b), some (vI c), some (vI (nI 3)), some (vI a)]) dX9_feed_85 rfl (by decide) (by decide) rfl ?_
      refine Go.goto (tgt := 18) dX9_feed_88 (by decide) ?_
      refine Go.iload dX9_feed_18 rfl ?_
      refine Go.at 20 rfl ?_
      refine Go.bipush (v := nI 12) dX9_feed_20 rfl ?_
      refine Go.icmp_ge_f (tgt := 91) dX9_feed_22 (by decide) (by decide) ?_
      refine Go.iload dX9_feed_25 rfl ?_
      refine Go.iconst (v := nI 4) dX9_feed_27 rfl ?_
      refine Go.icmp_ge_f (tgt := 35) dX9_feed_28 (by decide) (by decide) ?_
      refine Go.iload_n dX9_feed_31 rfl ?_
      refine Go.at 32 rfl ?_
      refine Go.goto (tgt := 47) dX9_feed_32 (by decide) ?_
      refine Go.istore (ls' := [some (vR 76), some (vI a), some (vI b), some (vI c), some (vI (nI 3)), some (vI a)]) dX9_feed_47 (by decide) rfl ?_
      refine Go.aload_n dX9_feed_49 rfl ?_
      refine Go.getR dX9_feed_50 flX9_46 rfl ?_
      refine Go.aload_n dX9_feed_53 rfl ?_
      refine Go.getI dX9_feed_54 flX9_184 rfl ?_
      refine Go.topE (y := nI (N + 3)) (by simp (disch := omega) only [ms_self, ms_ne, upd_self, v5]) ?_
      refine Go.at 57 rfl ?_
      refine Go.iload dX9_feed_57 rfl ?_
      refine Go.bipush (v := nI 24) dX9_feed_59 rfl ?_
      refine Go.bipush (v := nI 8) dX9_feed_61 rfl ?_
      refine Go.iload dX9_feed_63 rfl ?_
      refine Go.iconst (v := nI 4) dX9_feed_65 rfl ?_
      refine Go.iremE dX9_feed_66 (by decide) ?_
      refine Go.topE (y := nI 3) (by decide) ?_
      refine Go.at 67 rfl ?_
      refine Go.imulN dX9_feed_67 ?_
      refine Go.isub dX9_feed_68 ?_
      refine Go.topE (y := nI (24 - 8 * 3)) (by decide) ?_
      refine Go.ishr dX9_feed_69 ?_
      refine Go.sipush (v := nI 255) dX9_feed_70 rfl ?_
      refine Go.iand dX9_feed_73 ?_
      refine Go.topE (y := byt a 3) (byt_eq a (by decide)) ?_
      refine Go.iastore (N + 3) dX9_feed_74 rfl (by omega) rfl ?_
      refine Go.at 75 rfl ?_
      refine Go.aload_n dX9_feed_75 rfl ?_
      refine Go.dupR dX9_feed_76 ?_
      refine Go.getI dX9_feed_77 flX9_184 rfl ?_
      refine Go.topE (y := nI (N + 3)) (by simp (disch := omega) only [ms_self, ms_ne, upd_self, v5]) ?_
      refine Go.iconst (v := nI 1) dX9_feed_80 rfl ?_
      refine Go.iaddN dX9_feed_81 ?_
      refine Go.topE (y := nI (N + 4)) rfl ?_
      refine Go.put dX9_feed_82 flX9_184 rfl rfl rfl rfl ?_
      refine Go.at 85 rfl ?_
      refine Go.iinc (v := nI 4) (ls' := [some (vR 76), some (vI a), some (vI b), some (vI c), some (vI (nI 4)), some (vI a)]) dX9_feed_85 rfl (by decide) (by decide) rfl ?_
      refine Go.goto (tgt := 18) dX9_feed_88 (by decide) ?_
      refine Go.iload dX9_feed_18 rfl ?_
      refine Go.bipush (v := nI 12) dX9_feed_20 rfl ?_
      refine Go.icmp_ge_f (tgt := 91) dX9_feed_22 (by decide) (by decide) ?_
      refine Go.iload dX9_feed_25 rfl ?_
      refine Go.at 27 rfl ?_
      refine Go.iconst (v := nI 4) dX9_feed_27 rfl ?_
      refine Go.icmp_ge_t (tgt := 35) dX9_feed_28 (by decide) (by decide) ?_
      refine Go.iload dX9_feed_35 rfl ?_
      refine Go.bipush (v := nI 8) dX9_feed_37 rfl ?_
      refine Go.icmp_ge_f (tgt := 46) dX9_feed_39 (by decide) (by decide) ?_
      refine Go.iload_n dX9_feed_42 rfl ?_
      refine Go.at 43 rfl ?_
      refine Go.goto (tgt := 47) dX9_feed_43 (by decide) ?_
      refine Go.istore (ls' := [some (vR 76), some (vI a), some (vI b), some (vI c), some (vI (nI 4)), some (vI b)]) dX9_feed_47 (by decide) rfl ?_
      refine Go.aload_n dX9_feed_49 rfl ?_
      refine Go.getR dX9_feed_50 flX9_46 rfl ?_
      refine Go.aload_n dX9_feed_53 rfl ?_
      refine Go.getI dX9_feed_54 flX9_184 rfl ?_
      refine Go.topE (y := nI (N + 4)) (by simp (disch := omega) only [ms_self, ms_ne, upd_self, v5]) ?_
      refine Go.at 57 rfl ?_
      refine Go.iload dX9_feed_57 rfl ?_
      refine Go.bipush (v := nI 24) dX9_feed_59 rfl ?_
      refine Go.bipush (v := nI 8) dX9_feed_61 rfl ?_
      refine Go.iload dX9_feed_63 rfl ?_
      refine Go.iconst (v := nI 4) dX9_feed_65 rfl ?_
      refine Go.iremE dX9_feed_66 (by decide) ?_
      refine Go.topE (y := nI 0) (by decide) ?_
      refine Go.at 67 rfl ?_
      refine Go.imulN dX9_feed_67 ?_
      refine Go.isub dX9_feed_68 ?_
      refine Go.topE (y := nI (24 - 8 * 0)) (by decide) ?_
      refine Go.ishr dX9_feed_69 ?_
      refine Go.sipush (v := nI 255) dX9_feed_70 rfl ?_
      refine Go.iand dX9_feed_73 ?_
      refine Go.topE (y := byt b 0) (byt_eq b (by decide)) ?_
      refine Go.iastore (N + 4) dX9_feed_74 rfl (by omega) rfl ?_
      refine Go.at 75 rfl ?_
      refine Go.aload_n dX9_feed_75 rfl ?_
      refine Go.dupR dX9_feed_76 ?_
      refine Go.getI dX9_feed_77 flX9_184 rfl ?_
      refine Go.topE (y := nI (N + 4)) (by simp (disch := omega) only [ms_self, ms_ne, upd_self, v5]) ?_
      refine Go.iconst (v := nI 1) dX9_feed_80 rfl ?_
      refine Go.iaddN dX9_feed_81 ?_
      refine Go.topE (y := nI (N + 5)) rfl ?_
      refine Go.put dX9_feed_82 flX9_184 rfl rfl rfl rfl ?_
      refine Go.at 85 rfl ?_
      refine Go.iinc (v := nI 5) (ls' := [some (vR 76), some (vI a), some (vI b), some (vI c), some (vI (nI 5)), some (vI b)]) dX9_feed_85 rfl (by decide) (by decide) rfl ?_
      refine Go.goto (tgt := 18) dX9_feed_88 (by decide) ?_
      refine Go.iload dX9_feed_18 rfl ?_
      refine Go.bipush (v := nI 12) dX9_feed_20 rfl ?_
      refine Go.icmp_ge_f (tgt := 91) dX9_feed_22 (by decide) (by decide) ?_
      refine Go.iload dX9_feed_25 rfl ?_
      refine Go.at 27 rfl ?_
      refine Go.iconst (v := nI 4) dX9_feed_27 rfl ?_
      refine Go.icmp_ge_t (tgt := 35) dX9_feed_28 (by decide) (by decide) ?_
      refine Go.iload dX9_feed_35 rfl ?_
      refine Go.bipush (v := nI 8) dX9_feed_37 rfl ?_
      refine Go.icmp_ge_f (tgt := 46) dX9_feed_39 (by decide) (by decide) ?_
      refine Go.iload_n dX9_feed_42 rfl ?_
      refine Go.at 43 rfl ?_
      refine Go.goto (tgt := 47) dX9_feed_43 (by decide) ?_
      refine Go.istore (ls' := [some (vR 76), some (vI a), some (vI b), some (vI c), some (vI (nI 5)), some (vI b)]) dX9_feed_47 (by decide) rfl ?_
      refine Go.aload_n dX9_feed_49 rfl ?_
      refine Go.getR dX9_feed_50 flX9_46 rfl ?_
      refine Go.aload_n dX9_feed_53 rfl ?_
      refine Go.getI dX9_feed_54 flX9_184 rfl ?_
      refine Go.topE (y := nI (N + 5)) (by simp (disch := omega) only [ms_self, ms_ne, upd_self, v5]) ?_
      refine Go.at 57 rfl ?_
      refine Go.iload dX9_feed_57 rfl ?_
      refine Go.bipush (v := nI 24) dX9_feed_59 rfl ?_
      refine Go.bipush (v := nI 8) dX9_feed_61 rfl ?_
      refine Go.iload dX9_feed_63 rfl ?_
      refine Go.iconst (v := nI 4) dX9_feed_65 rfl ?_
      refine Go.iremE dX9_feed_66 (by decide) ?_
      refine Go.topE (y := nI 1) (by decide) ?_
      refine Go.at 67 rfl ?_
      refine Go.imulN dX9_feed_67 ?_
      refine Go.isub dX9_feed_68 ?_
      refine Go.topE (y := nI (24 - 8 * 1)) (by decide) ?_
      refine Go.ishr dX9_feed_69 ?_
      refine Go.sipush (v := nI 255) dX9_feed_70 rfl ?_
      refine Go.iand dX9_feed_73 ?_
      refine Go.topE (y := byt b 1) (byt_eq b (by decide)) ?_
      refine Go.iastore (N + 5) dX9_feed_74 rfl (by omega) rfl ?_
      refine Go.at 75 rfl ?_
      refine Go.aload_n dX9_feed_75 rfl ?_
      refine Go.dupR dX9_feed_76 ?_
      refine Go.getI dX9_feed_77 flX9_184 rfl ?_
      refine Go.topE (y := nI (N + 5)) (by simp (disch := omega) only [ms_self, ms_ne, upd_self, v5]) ?_
      refine Go.iconst (v := nI 1) dX9_feed_80 rfl ?_
      refine Go.iaddN dX9_feed_81 ?_
      refine Go.topE (y := nI (N + 6)) rfl ?_
      refine Go.put dX9_feed_82 flX9_184 rfl rfl rfl rfl ?_
      refine Go.at 85 rfl ?_
      refine Go.iinc (v := nI 6) (ls' := [some (vR 76), some (vI a), some (vI b), some (vI c), some (vI (nI 6)), some (vI b)]) dX9_feed_85 rfl (by decide) (by decide) rfl ?_
      refine Go.goto (tgt := 18) dX9_feed_88 (by decide) ?_
      refine Go.iload dX9_feed_18 rfl ?_
      refine Go.bipush (v := nI 12) dX9_feed_20 rfl ?_
      refine Go.icmp_ge_f (tgt := 91) dX9_feed_22 (by decide) (by decide) ?_
      refine Go.iload dX9_feed_25 rfl ?_
      refine Go.at 27 rfl ?_
      refine Go.iconst (v := nI 4) dX9_feed_27 rfl ?_
      refine Go.icmp_ge_t (tgt := 35) dX9_feed_28 (by decide) (by decide) ?_
      refine Go.iload dX9_feed_35 rfl ?_
      refine Go.bipush (v := nI 8) dX9_feed_37 rfl ?_
      refine Go.icmp_ge_f (tgt := 46) dX9_feed_39 (by decide) (by decide) ?_
      refine Go.iload_n dX9_feed_42 rfl ?_
      refine Go.at 43 rfl ?_
      refine Go.goto (tgt := 47) dX9_feed_43 (by decide) ?_
      refine Go.istore (ls' := [some (vR 76), some (vI a), some (vI b), some (vI c), some (vI (nI 6)), some (vI b)]) dX9_feed_47 (by decide) rfl ?_
      refine Go.aload_n dX9_feed_49 rfl ?_
      refine Go.getR dX9_feed_50 flX9_46 rfl ?_
      refine Go.aload_n dX9_feed_53 rfl ?_
      refine Go.getI dX9_feed_54 flX9_184 rfl ?_
      refine Go.topE (y := nI (N + 6)) (by simp (disch := omega) only [ms_self, ms_ne, upd_self, v5]) ?_
      refine Go.at 57 rfl ?_
      refine Go.iload dX9_feed_57 rfl ?_
      refine Go.bipush (v := nI 24) dX9_feed_59 rfl ?_
      refine Go.bipush (v := nI 8) dX9_feed_61 rfl ?_
      refine Go.iload dX9_feed_63 rfl ?_
      refine Go.iconst (v := nI 4) dX9_feed_65 rfl ?_
      refine Go.iremE dX9_feed_66 (by decide) ?_
      refine Go.topE (y := nI 2) (by decide) ?_
      refine Go.at 67 rfl ?_
      refine Go.imulN dX9_feed_67 ?_
      refine Go.isub dX9_feed_68 ?_
      refine Go.topE (y := nI (24 - 8 * 2)) (by decide) ?_
      refine Go.ishr dX9_feed_69 ?_
      refine Go.sipush (v := nI 255) dX9_feed_70 rfl ?_
      refine Go.iand dX9_feed_73 ?_
      refine Go.topE (y := byt b 2) (byt_eq b (by decide)) ?_
      refine Go.iastore (N + 6) dX9_feed_74 rfl (by omega) rfl ?_
      refine Go.at 75 rfl ?_
      refine Go.aload_n dX9_feed_75 rfl ?_
      refine Go.dupR dX9_feed_76 ?_
      refine Go.getI dX9_feed_77 flX9_184 rfl ?_
      refine Go.topE (y := nI (N + 6)) (by simp (disch := omega) only [ms_self, ms_ne, upd_self, v5]) ?_
      refine Go.iconst (v := nI 1) dX9_feed_80 rfl ?_
      refine Go.iaddN dX9_feed_81 ?_
      refine Go.topE (y := nI (N + 7)) rfl ?_
      refine Go.put dX9_feed_82 flX9_184 rfl rfl rfl rfl ?_
      refine Go.at 85 rfl ?_
      refine Go.iinc (v := nI 7) (ls' := [some (vR 76), some (vI a), some (vI b), some (vI c), some (vI (nI 7)), some (vI b)]) dX9_feed_85 rfl (by decide) (by decide) rfl ?_
      refine Go.goto (tgt := 18) dX9_feed_88 (by decide) ?_
      refine Go.iload dX9_feed_18 rfl ?_
      refine Go.bipush (v := nI 12) dX9_feed_20 rfl ?_
      refine Go.icmp_ge_f (tgt := 91) dX9_feed_22 (by decide) (by decide) ?_
      refine Go.iload dX9_feed_25 rfl ?_
      refine Go.at 27 rfl ?_
      refine Go.iconst (v := nI 4) dX9_feed_27 rfl ?_
      refine Go.icmp_ge_t (tgt := 35) dX9_feed_28 (by decide) (by decide) ?_
      refine Go.iload dX9_feed_35 rfl ?_
      refine Go.bipush (v := nI 8) dX9_feed_37 rfl ?_
      refine Go.icmp_ge_f (tgt := 46) dX9_feed_39 (by decide) (by decide) ?_
      refine Go.iload_n dX9_feed_42 rfl ?_
      refine Go.at 43 rfl ?_
      refine Go.goto (tgt := 47) dX9_feed_43 (by decide) ?_
      refine Go.istore (ls' := [some (vR 76), some (vI a), some (vI b), some (vI c), some (vI (nI 7)), some (vI b)]) dX9_feed_47 (by decide) rfl ?_
      refine Go.aload_n dX9_feed_49 rfl ?_
      refine Go.getR dX9_feed_50 flX9_46 rfl ?_
      refine Go.aload_n dX9_feed_53 rfl ?_
      refine Go.getI dX9_feed_54 flX9_184 rfl ?_
      refine Go.topE (y := nI (N + 7)) (by simp (disch := omega) only [ms_self, ms_ne, upd_self, v5]) ?_
      refine Go.at 57 rfl ?_
      refine Go.iload dX9_feed_57 rfl ?_
      refine Go.bipush (v := nI 24) dX9_feed_59 rfl ?_
      refine Go.bipush (v := nI 8) dX9_feed_61 rfl ?_
      refine Go.iload dX9_feed_63 rfl ?_
      refine Go.iconst (v := nI 4) dX9_feed_65 rfl ?_
      refine Go.iremE dX9_feed_66 (by decide) ?_
      refine Go.topE (y := nI 3) (by decide) ?_
      refine Go.at 67 rfl ?_
      refine Go.imulN dX9_feed_67 ?_
      refine Go.isub dX9_feed_68 ?_
      refine Go.topE (y := nI (24 - 8 * 3)) (by decide) ?_
      refine Go.ishr dX9_feed_69 ?_
      refine Go.sipush (v := nI 255) dX9_feed_70 rfl ?_
      refine Go.iand dX9_feed_73 ?_
      refine Go.topE (y := byt b 3) (byt_eq b (by decide)) ?_
      refine Go.iastore (N + 7) dX9_feed_74 rfl (by omega) rfl ?_
      refine Go.at 75 rfl ?_
      refine Go.aload_n dX9_feed_75 rfl ?_
      refine Go.dupR dX9_feed_76 ?_
      refine Go.getI dX9_feed_77 flX9_184 rfl ?_
      refine Go.topE (y := nI (N + 7)) (by simp (disch := omega) only [ms_self, ms_ne, upd_self, v5]) ?_
      refine Go.iconst (v := nI 1) dX9_feed_80 rfl ?_
      refine Go.iaddN dX9_feed_81 ?_
      refine Go.topE (y := nI (N + 8)) rfl ?_
      refine Go.put dX9_feed_82 flX9_184 rfl rfl rfl rfl ?_
      refine Go.at 85 rfl ?_
      refine Go.iinc (v := nI 8) (ls' := [some (vR 76), some (vI a), some (vI b), some (vI c), some (vI (nI 8)), some (vI b)]) dX9_feed_85 rfl (by decide) (by decide) rfl ?_
      refine Go.goto (tgt := 18) dX9_feed_88 (by decide) ?_
      refine Go.iload dX9_feed_18 rfl ?_
      refine Go.bipush (v := nI 12) dX9_feed_20 rfl ?_
      refine Go.icmp_ge_f (tgt := 91) dX9_feed_22 (by decide) (by decide) ?_
      refine Go.iload dX9_feed_25 rfl ?_
      refine Go.at 27 rfl ?_
      refine Go.iconst (v := nI 4) dX9_feed_27 rfl ?_
      refine Go.icmp_ge_t (tgt := 35) dX9_feed_28 (by decide) (by decide) ?_
      refine Go.iload dX9_feed_35 rfl ?_
      refine Go.bipush (v := nI 8) dX9_feed_37 rfl ?_
      refine Go.icmp_ge_t (tgt := 46) dX9_feed_39 (by decide) (by decide) ?_
      refine Go.iload_n dX9_feed_46 rfl ?_
      refine Go.at 47 rfl ?_
      refine Go.istore (ls' := [some (vR 76), some (vI a), some (vI b), some (vI c), some (vI (nI 8)), some (vI c)]) dX9_feed_47 (by decide) rfl ?_
      refine Go.aload_n dX9_feed_49 rfl ?_
      refine Go.getR dX9_feed_50 flX9_46 rfl ?_
      refine Go.aload_n dX9_feed_53 rfl ?_
      refine Go.getI dX9_feed_54 flX9_184 rfl ?_
      refine Go.topE (y := nI (N + 8)) (by simp (disch := omega) only [ms_self, ms_ne, upd_self, v5]) ?_
      refine Go.iload dX9_feed_57 rfl ?_
      refine Go.at 59 rfl ?_
      refine Go.bipush (v := nI 24) dX9_feed_59 rfl ?_
      refine Go.bipush (v := nI 8) dX9_feed_61 rfl ?_
      refine Go.iload dX9_feed_63 rfl ?_
      refine Go.iconst (v := nI 4) dX9_feed_65 rfl ?_
      refine Go.iremE dX9_feed_66 (by decide) ?_
      refine Go.topE (y := nI 0) (by decide) ?_
      refine Go.imulN dX9_feed_67 ?_
      refine Go.at 68 rfl ?_
      refine Go.isub dX9_feed_68 ?_
      refine Go.topE (y := nI (24 - 8 * 0)) (by decide) ?_
      refine Go.ishr dX9_feed_69 ?_
      refine Go.sipush (v := nI 255) dX9_feed_70 rfl ?_
      refine Go.iand dX9_feed_73 ?_
      refine Go.topE (y := byt c 0) (byt_eq c (by decide)) ?_
      refine Go.iastore (N + 8) dX9_feed_74 rfl (by omega) rfl ?_
      refine Go.aload_n dX9_feed_75 rfl ?_
      refine Go.at 76 rfl ?_
      refine Go.dupR dX9_feed_76 ?_
      refine Go.getI dX9_feed_77 flX9_184 rfl ?_
      refine Go.topE (y := nI (N + 8)) (by simp (disch := omega) only [ms_self, ms_ne, upd_self, v5]) ?_
      refine Go.iconst (v := nI 1) dX9_feed_80 rfl ?_
      refine Go.iaddN dX9_feed_81 ?_
      refine Go.topE (y := nI (N + 9)) rfl ?_
      refine Go.put dX9_feed_82 flX9_184 rfl rfl rfl rfl ?_
      refine Go.iinc (v := nI 9) (ls' := [some (vR 76), some (vI a), some (vI b), some (vI c), some (vI (nI 9)), some (vI c)]) dX9_feed_85 rfl (by decide) (by decide) rfl ?_
      refine Go.at 88 rfl ?_
      refine Go.goto (tgt := 18) dX9_feed_88 (by decide) ?_
      refine Go.iload dX9_feed_18 rfl ?_
      refine Go.bipush (v := nI 12) dX9_feed_20 rfl ?_
      refine Go.icmp_ge_f (tgt := 91) dX9_feed_22 (by decide) (by decide) ?_
      refine Go.iload dX9_feed_25 rfl ?_
      refine Go.iconst (v := nI 4) dX9_feed_27 rfl ?_
      refine Go.at 28 rfl ?_
      refine Go.icmp_ge_t (tgt := 35) dX9_feed_28 (by decide) (by decide) ?_
      refine Go.iload dX9_feed_35 rfl ?_
      refine Go.bipush (v := nI 8) dX9_feed_37 rfl ?_
      refine Go.icmp_ge_t (tgt := 46) dX9_feed_39 (by decide) (by decide) ?_
      refine Go.iload_n dX9_feed_46 rfl ?_
      refine Go.istore (ls' := [some (vR 76), some (vI a), some (vI b), some (vI c), some (vI (nI 9)), some (vI c)]) dX9_feed_47 (by decide) rfl ?_
      refine Go.at 49 rfl ?_
      refine Go.aload_n dX9_feed_49 rfl ?_
      refine Go.getR dX9_feed_50 flX9_46 rfl ?_
      refine Go.aload_n dX9_feed_53 rfl ?_
      refine Go.getI dX9_feed_54 flX9_184 rfl ?_
      refine Go.topE (y := nI (N + 9)) (by simp (disch := omega) only [ms_self, ms_ne, upd_self, v5]) ?_
      refine Go.iload dX9_feed_57 rfl ?_
      refine Go.bipush (v := nI 24) dX9_feed_59 rfl ?_
      refine Go.at 61 rfl ?_
      refine Go.bipush (v := nI 8) dX9_feed_61 rfl ?_
      refine Go.iload dX9_feed_63 rfl ?_
      refine Go.iconst (v := nI 4) dX9_feed_65 rfl ?_
      refine Go.iremE dX9_feed_66 (by decide) ?_
      refine Go.topE (y := nI 1) (by decide) ?_
      refine Go.imulN dX9_feed_67 ?_
      refine Go.isub dX9_feed_68 ?_
      refine Go.topE (y := nI (24 - 8 * 1)) (by decide) ?_
      refine Go.at 69 rfl ?_
      refine Go.ishr dX9_feed_69 ?_
      refine Go.sipush (v := nI 255) dX9_feed_70 rfl ?_
      refine Go.iand dX9_feed_73 ?_
      refine Go.topE (y := byt c 1) (byt_eq c (by decide)) ?_
      refine Go.iastore (N + 9) dX9_feed_74 rfl (by omega) rfl ?_
      refine Go.aload_n dX9_feed_75 rfl ?_
      refine Go.dupR dX9_feed_76 ?_
      refine Go.at 77 rfl ?_
      refine Go.getI dX9_feed_77 flX9_184 rfl ?_
      refine Go.topE (y := nI (N + 9)) (by simp (disch := omega) only [ms_self, ms_ne, upd_self, v5]) ?_
      refine Go.iconst (v := nI 1) dX9_feed_80 rfl ?_
      refine Go.iaddN dX9_feed_81 ?_
      refine Go.topE (y := nI (N + 10)) rfl ?_
      refine Go.put dX9_feed_82 flX9_184 rfl rfl rfl rfl ?_
      refine Go.iinc (v := nI 10) (ls' := [some (vR 76), some (vI a), some (vI b), some (vI c), some (vI (nI 10)), some (vI c)]) dX9_feed_85 rfl (by decide) (by decide) rfl ?_
      refine Go.goto (tgt := 18) dX9_feed_88 (by decide) ?_
      refine Go.at 18 rfl ?_
      refine Go.iload dX9_feed_18 rfl ?_
      refine Go.bipush (v := nI 12) dX9_feed_20 rfl ?_
      refine Go.icmp_ge_f (tgt := 91) dX9_feed_22 (by decide) (by decide) ?_
      refine Go.iload dX9_feed_25 rfl ?_
      refine Go.iconst (v := nI 4) dX9_feed_27 rfl ?_
      refine Go.icmp_ge_t (tgt := 35) dX9_feed_28 (by decide) (by decide) ?_
      refine Go.at 35 rfl ?_
      refine Go.iload dX9_feed_35 rfl ?_
      refine Go.bipush (v := nI 8) dX9_feed_37 rfl ?_
      refine Go.icmp_ge_t (tgt := 46) dX9_feed_39 (by decide) (by decide) ?_
      refine Go.iload_n dX9_feed_46 rfl ?_
      refine Go.istore (ls' := [some (vR 76), some (vI a), some (vI b), some (vI c), some (vI (nI 10)), some (vI c)]) dX9_feed_47 (by decide) rfl ?_
      refine Go.aload_n dX9_feed_49 rfl ?_
      refine Go.at 50 rfl ?_
      refine Go.getR dX9_feed_50 flX9_46 rfl ?_
      refine Go.aload_n dX9_feed_53 rfl ?_
      refine Go.getI dX9_feed_54 flX9_184 rfl ?_
      refine Go.topE (y := nI (N + 10)) (by simp (disch := omega) only [ms_self, ms_ne, upd_self, v5]) ?_
      refine Go.iload dX9_feed_57 rfl ?_
      refine Go.bipush (v := nI 24) dX9_feed_59 rfl ?_
      refine Go.bipush (v := nI 8) dX9_feed_61 rfl ?_
      refine Go.at 63 rfl ?_
      refine Go.iload dX9_feed_63 rfl ?_
      refine Go.iconst (v := nI 4) dX9_feed_65 rfl ?_
      refine Go.iremE dX9_feed_66 (by decide) ?_
      refine Go.topE (y := nI 2) (by decide) ?_
      refine Go.imulN dX9_feed_67 ?_
      refine Go.isub dX9_feed_68 ?_
      refine Go.topE (y := nI (24 - 8 * 2)) (by decide) ?_
      refine Go.ishr dX9_feed_69 ?_
      refine Go.at 70 rfl ?_
      refine Go.sipush (v := nI 255) dX9_feed_70 rfl ?_
      refine Go.iand dX9_feed_73 ?_
      refine Go.topE (y := byt c 2) (byt_eq c (by decide)) ?_
      refine Go.iastore (N + 10) dX9_feed_74 rfl (by omega) rfl ?_
      refine Go.aload_n dX9_feed_75 rfl ?_
      refine Go.dupR dX9_feed_76 ?_
      refine Go.getI dX9_feed_77 flX9_184 rfl ?_
      refine Go.topE (y := nI (N + 10)) (by simp (disch := omega) only [ms_self, ms_ne, upd_self, v5]) ?_
      refine Go.at 80 rfl ?_
      refine Go.iconst (v := nI 1) dX9_feed_80 rfl ?_
      refine Go.iaddN dX9_feed_81 ?_
      refine Go.topE (y := nI (N + 11)) rfl ?_
      refine Go.put dX9_feed_82 flX9_184 rfl rfl rfl rfl ?_
      refine Go.iinc (v := nI 11) (ls' := [some (vR 76), some (vI a), some (vI b), some (vI c), some (vI (nI 11)), some (vI c)]) dX9_feed_85 rfl (by decide) (by decide) rfl ?_
      refine Go.goto (tgt := 18) dX9_feed_88 (by decide) ?_
      refine Go.iload dX9_feed_18 rfl ?_
      refine Go.at 20 rfl ?_
      refine Go.bipush (v := nI 12) dX9_feed_20 rfl ?_
      refine Go.icmp_ge_f (tgt := 91) dX9_feed_22 (by decide) (by decide) ?_
      refine Go.iload dX9_feed_25 rfl ?_
      refine Go.iconst (v := nI 4) dX9_feed_27 rfl ?_
      refine Go.icmp_ge_t (tgt := 35) dX9_feed_28 (by decide) (by decide) ?_
      refine Go.iload dX9_feed_35 rfl ?_
      refine Go.at 37 rfl ?_
      refine Go.bipush (v := nI 8) dX9_feed_37 rfl ?_
      refine Go.icmp_ge_t (tgt := 46) dX9_feed_39 (by decide) (by decide) ?_
      refine Go.iload_n dX9_feed_46 rfl ?_
      refine Go.istore (ls' := [some (vR 76), some (vI a), some (vI b), some (vI c), some (vI (nI 11)), some (vI c)]) dX9_feed_47 (by decide) rfl ?_
      refine Go.aload_n dX9_feed_49 rfl ?_
      refine Go.getR dX9_feed_50 flX9_46 rfl ?_
      refine Go.at 53 rfl ?_
      refine Go.aload_n dX9_feed_53 rfl ?_
      refine Go.getI dX9_feed_54 flX9_184 rfl ?_
      refine Go.topE (y := nI (N + 11)) (by simp (disch := omega) only [ms_self, ms_ne, upd_self, v5]) ?_
      refine Go.iload dX9_feed_57 rfl ?_
      refine Go.bipush (v := nI 24) dX9_feed_59 rfl ?_
      refine Go.bipush (v := nI 8) dX9_feed_61 rfl ?_
      refine Go.iload dX9_feed_63 rfl ?_
      refine Go.at 65 rfl ?_
      refine Go.iconst (v := nI 4) dX9_feed_65 rfl ?_
      refine Go.iremE dX9_feed_66 (by decide) ?_
      refine Go.topE (y := nI 3) (by decide) ?_
      refine Go.imulN dX9_feed_67 ?_
      refine Go.isub dX9_feed_68 ?_
      refine Go.topE (y := nI (24 - 8 * 3)) (by decide) ?_
      refine Go.ishr dX9_feed_69 ?_
      refine Go.sipush (v := nI 255) dX9_feed_70 rfl ?_
      refine Go.at 73 rfl ?_
      refine Go.iand dX9_feed_73 ?_
      refine Go.topE (y := byt c 3) (byt_eq c (by decide)) ?_
      refine Go.iastore (N + 11) dX9_feed_74 rfl (by omega) rfl ?_
      refine Go.aload_n dX9_feed_75 rfl ?_
      refine Go.dupR dX9_feed_76 ?_
      refine Go.getI dX9_feed_77 flX9_184 rfl ?_
      refine Go.topE (y := nI (N + 11)) (by simp (disch := omega) only [ms_self, ms_ne, upd_self, v5]) ?_
      refine Go.iconst (v := nI 1) dX9_feed_80 rfl ?_
      refine Go.at 81 rfl ?_
      refine Go.iaddN dX9_feed_81 ?_
      refine Go.topE (y := nI (N + 12)) rfl ?_
      refine Go.put dX9_feed_82 flX9_184 rfl rfl rfl rfl ?_
      refine Go.iinc (v := nI 12) (ls' := [some (vR 76), some (vI a), some (vI b), some (vI c), some (vI (nI 12)), some (vI c)]) dX9_feed_85 rfl (by decide) (by decide) rfl ?_
      refine Go.goto (tgt := 18) dX9_feed_88 (by decide) ?_
      refine Go.iload dX9_feed_18 rfl ?_
      refine Go.bipush (v := nI 12) dX9_feed_20 rfl ?_
      refine Go.at 22 rfl ?_
      refine Go.icmp_ge_t (tgt := 91) dX9_feed_22 (by decide) (by decide) ?_
      refine Go.aload_n dX9_feed_91 rfl ?_
      refine Go.getI dX9_feed_92 flX9_184 rfl ?_
      refine Go.topE (y := nI (N + 12)) (by simp only [ms_self, upd_self]) ?_
      refine Go.ireturn .int dX9_feed_95 rfl rfl ?_
      refine ⟨rfl, hS.tape (fun o a1 a2 a3 a4 => by simp (disch := omega) only [ms_self, ms_ne, upd_self, upd_ne, Nat.add_zero]; exact k5.2.2.2.2.2 o (by simp only [List.mem_cons, List.not_mem_nil, or_false]; omega)) (by simp (disch := omega) only [ms_self, ms_ne, upd_self, upd_ne, Nat.add_zero]; rw [k5.2.2.2.2.2 76 (by decide)]) (by simp (disch := omega) only [ms_self, ms_ne, upd_self, upd_ne, Nat.add_zero]; rw [k5.2.2.2.2.2 76 (by decide)]) ⟨N + 12, by omega, by simp (disch := omega) only [ms_self, ms_ne, upd_self, upd_ne, Nat.add_zero]; exact k5.1, by simp (disch := omega) only [ms_self, ms_ne, upd_self, upd_ne, Nat.add_zero], fun j hj => ?_⟩⟩
      by_cases hj0 : j < N
      · simp (disch := omega) only [ms_self, ms_ne, upd_self, upd_ne, Nat.add_zero]
        rw [k5.2.2.2.2.1 j hj0, k5.2.2.2.2.2 89 (by decide)]
        exact t3 j hj0
      · obtain ⟨t, ht, rfl⟩ : ∃ t, t < 12 ∧ j = N + t := ⟨j - N, by omega, by omega⟩
        have : t = 0 ∨ t = 1 ∨ t = 2 ∨ t = 3 ∨ t = 4 ∨ t = 5 ∨ t = 6 ∨ t = 7 ∨ t = 8 ∨ t = 9 ∨ t = 10 ∨ t = 11 := by omega
        rcases this with rfl | rfl | rfl | rfl | rfl | rfl | rfl | rfl | rfl | rfl | rfl | rfl
        · simp (disch := omega) only [ms_self, ms_ne, upd_self, upd_ne, Nat.add_zero]
          rw [show μ5 32 N = byt a 0 from k5.2.1 0 (by decide)]
          exact ⟨rfl, byt_rng _ _⟩
        · simp (disch := omega) only [ms_self, ms_ne, upd_self, upd_ne, Nat.add_zero]
          rw [show μ5 32 (N + 1) = byt a 1 from k5.2.1 1 (by decide)]
          exact ⟨rfl, byt_rng _ _⟩
        · simp (disch := omega) only [ms_self, ms_ne, upd_self, upd_ne, Nat.add_zero]
          rw [show μ5 32 (N + 2) = byt a 2 from k5.2.1 2 (by decide)]
          exact ⟨rfl, byt_rng _ _⟩
        · simp (disch := omega) only [ms_self, ms_ne, upd_self, upd_ne, Nat.add_zero]
          rw [show μ5 32 (N + 3) = byt a 3 from k5.2.1 3 (by decide)]
          exact ⟨rfl, byt_rng _ _⟩
        · simp (disch := omega) only [ms_self, ms_ne, upd_self, upd_ne, Nat.add_zero]
          rw [show μ5 32 (N + 4) = byt b 0 from k5.2.2.1 0 (by decide)]
          exact ⟨rfl, byt_rng _ _⟩
        · simp (disch := omega) only [ms_self, ms_ne, upd_self, upd_ne, Nat.add_zero]
          rw [show μ5 32 (N + 5) = byt b 1 from k5.2.2.1 1 (by decide)]
          exact ⟨rfl, byt_rng _ _⟩
        · simp (disch := omega) only [ms_self, ms_ne, upd_self, upd_ne, Nat.add_zero]
          rw [show μ5 32 (N + 6) = byt b 2 from k5.2.2.1 2 (by decide)]
          exact ⟨rfl, byt_rng _ _⟩
        · simp (disch := omega) only [ms_self, ms_ne, upd_self, upd_ne, Nat.add_zero]
          rw [show μ5 32 (N + 7) = byt b 3 from k5.2.2.1 3 (by decide)]
          exact ⟨rfl, byt_rng _ _⟩
        · simp (disch := omega) only [ms_self, ms_ne, upd_self, upd_ne, Nat.add_zero]
          rw [show μ5 32 (N + 8) = byt c 0 from k5.2.2.2.1 0 (by decide)]
          exact ⟨rfl, byt_rng _ _⟩
        · simp (disch := omega) only [ms_self, ms_ne, upd_self, upd_ne, Nat.add_zero]
          rw [show μ5 32 (N + 9) = byt c 1 from k5.2.2.2.1 1 (by decide)]
          exact ⟨rfl, byt_rng _ _⟩
        · simp (disch := omega) only [ms_self, ms_ne, upd_self, upd_ne, Nat.add_zero]
          rw [show μ5 32 (N + 10) = byt c 2 from k5.2.2.2.1 2 (by decide)]
          exact ⟨rfl, byt_rng _ _⟩
        · simp (disch := omega) only [ms_self, ms_ne, upd_self, upd_ne, Nat.add_zero]
          rw [show μ5 32 (N + 11) = byt c 3 from k5.2.2.2.1 3 (by decide)]
          exact ⟨rfl, byt_rng _ _⟩
  · skip
    refine OpOK.q (x := (-1000000003)) hS ?_ (fun μ5 k5 => ?_)
    · show Go V (d + 2) mX8_feed 0 [some (vR 0), some (vI a), some (vI b), some (vI c)] [] μ _
      refine Go.aload_n dX8_feed_0 rfl ?_
      refine Go.getR dX8_feed_1 flX8_34 rfl ?_
      refine Go.getI dX8_feed_4 flX8_201 rfl ?_
      refine Go.topE (y := nI N) t1 ?_
      refine Go.bipush (v := nI 12) dX8_feed_7 rfl ?_
      refine Go.iaddN dX8_feed_9 ?_
      refine Go.bipush (v := nI 96) dX8_feed_10 rfl ?_
      refine Go.at 12 rfl ?_
      refine Go.icmp_le_f (tgt := 18) dX8_feed_12 (by decide) (by rw [sI_le, nT, nT]; omega) ?_
      refine Go.ldc dX8_feed_15 cnX8_172 ?_
      refine Go.ireturn .int dX8_feed_17 rfl rfl ?_
      exact ⟨rfl, Fr.rf _ _⟩
    · skip
      have v5 : μ5 76 14 = nI N := by rw [k5 76 (by decide)]; exact t2
      show Go V (d + 2) mX9_feed 0 [some (vR 76), some (vI a), some (vI b), some (vI c), none, none] [] μ5 _
      refine Go.aload_n dX9_feed_0 rfl ?_
      refine Go.getI dX9_feed_1 flX9_184 rfl ?_
      refine Go.topE (y := nI N) v5 ?_
      refine Go.bipush (v := nI 12) dX9_feed_4 rfl ?_
      refine Go.iaddN dX9_feed_6 ?_
      refine Go.bipush (v := nI 96) dX9_feed_7 rfl ?_
      refine Go.icmp_le_f (tgt := 15) dX9_feed_9 (by decide) (by rw [sI_le, nT, nT]; omega) ?_
      refine Go.at 12 rfl ?_
      refine Go.ldc dX9_feed_12 cnX9_164 ?_
      refine Go.ireturn .int dX9_feed_14 rfl rfl ?_
      exact ⟨rfl, Fr.rf _ _⟩
theorem op_trim {V : VV} {d : Nat} {μ : Memo} (hS : Sim μ) (n : Int32) : OpOK V (d + 2) mX8_trim mX9_trim [vI n] μ := by
  obtain ⟨⟨hT, hCo, hKd, hO, hH⟩, hI, hX, hIm, hSh, hSl, hTp, hWt⟩ := id hS
  obtain ⟨N, hN96, t1, t2, t3⟩ := hTp
  by_cases h1 : nI 0 ≤ n ∧ n ≤ nI N
  · skip
    obtain ⟨n0, hn, rfl⟩ := in_nI (by omega) h1
    refine OpOK.of (x := nI n0) (P := fun μ1 => μ1 = ms μ 31 0 (nI n0)) ?_ (fun μ5 k5 => ?_)
    · show Go V (d + 2) mX8_trim 0 [some (vR 0), some (vI (nI n0))] [] μ _
      refine Go.iload_n dX8_trim_0 rfl ?_
      refine Go.iconst (v := nI 0) dX8_trim_1 rfl ?_
      refine Go.aload_n dX8_trim_2 rfl ?_
      refine Go.getR dX8_trim_3 flX8_34 rfl ?_
      refine Go.getI dX8_trim_6 flX8_201 rfl ?_
      refine Go.topE (y := nI N) t1 ?_
      refine Go.callSi [vI (nI n0), vI (nI 0), vI (nI N)] [] dX8_trim_9 lkX8_72 rfl (Nat.le_of_ble_eq_true rfl) rfl (Nat.le_of_ble_eq_true rfl) (c_within (nI n0) (nI 0) (nI N)) ?_
      refine Go.at 12 rfl ?_
      refine Go.if_neb_t (tgt := 18) dX8_trim_12 (by decide) h1 ?_
      refine Go.aload_n dX8_trim_18 rfl ?_
      refine Go.getR dX8_trim_19 flX8_34 rfl ?_
      refine Go.iload_n dX8_trim_22 rfl ?_
      refine Go.put dX8_trim_23 flX8_201 rfl rfl rfl rfl ?_
      refine Go.iload_n dX8_trim_26 rfl ?_
      refine Go.at 27 rfl ?_
      refine Go.ireturn .int dX8_trim_27 rfl rfl ?_
      exact ⟨rfl, rfl⟩
    · skip
      have v5 : μ5 76 14 = nI N := by rw [k5, ms_ne _ _ _ (by decide)]; exact t2
      show Go V (d + 2) mX9_trim 0 [some (vR 76), some (vI (nI n0))] [] μ5 _
      refine Go.iload_n dX9_trim_0 rfl ?_
      refine Go.i2l dX9_trim_1 ?_
      refine Go.lconst (v := (nI 0).toInt64) dX9_trim_2 rfl ?_
      refine Go.aload_n dX9_trim_3 rfl ?_
      refine Go.getI dX9_trim_4 flX9_184 rfl ?_
      refine Go.topE (y := nI N) v5 ?_
      refine Go.i2l dX9_trim_7 ?_
      refine Go.at 8 rfl ?_
      refine Go.callSi [vL ((nI n0).toInt64), vL ((nI 0).toInt64), vL ((nI N).toInt64)] [] dX9_trim_8 lkX9_65 rfl (Nat.le_of_ble_eq_true rfl) rfl (Nat.le_of_ble_eq_true rfl) (m_isIn (nI n0) (nI 0) (nI N)) ?_
      refine Go.if_neb_t (tgt := 17) dX9_trim_11 (by decide) h1 ?_
      refine Go.aload_n dX9_trim_17 rfl ?_
      refine Go.iload_n dX9_trim_18 rfl ?_
      refine Go.put dX9_trim_19 flX9_184 rfl rfl rfl rfl ?_
      refine Go.iload_n dX9_trim_22 rfl ?_
      refine Go.at 23 rfl ?_
      refine Go.ireturn .int dX9_trim_23 rfl rfl ?_
      subst k5
      exact ⟨rfl, hS.tape (fun o a1 a2 a3 a4 => by simp (disch := omega) only [ms_self, ms_ne, upd_self, upd_ne, Nat.add_zero]) (by simp (disch := omega) only [ms_self, ms_ne, upd_self, upd_ne, Nat.add_zero]) (by simp (disch := omega) only [ms_self, ms_ne, upd_self, upd_ne, Nat.add_zero]) ⟨n0, by omega, by simp (disch := omega) only [ms_self, ms_ne, upd_self, upd_ne, Nat.add_zero], by simp (disch := omega) only [ms_self, ms_ne, upd_self, upd_ne, Nat.add_zero], fun j hj => by simp (disch := omega) only [ms_self, ms_ne, upd_self, upd_ne, Nat.add_zero]; exact t3 j (by omega)⟩⟩
  · skip
    refine OpOK.q (x := (-1000000001)) hS ?_ (fun μ5 k5 => ?_)
    · show Go V (d + 2) mX8_trim 0 [some (vR 0), some (vI n)] [] μ _
      refine Go.iload_n dX8_trim_0 rfl ?_
      refine Go.iconst (v := nI 0) dX8_trim_1 rfl ?_
      refine Go.aload_n dX8_trim_2 rfl ?_
      refine Go.getR dX8_trim_3 flX8_34 rfl ?_
      refine Go.getI dX8_trim_6 flX8_201 rfl ?_
      refine Go.topE (y := nI N) t1 ?_
      refine Go.callSi [vI n, vI (nI 0), vI (nI N)] [] dX8_trim_9 lkX8_72 rfl (Nat.le_of_ble_eq_true rfl) rfl (Nat.le_of_ble_eq_true rfl) (c_within n (nI 0) (nI N)) ?_
      refine Go.at 12 rfl ?_
      refine Go.if_neb_f (tgt := 18) dX8_trim_12 (by decide) h1 ?_
      refine Go.ldc dX8_trim_15 cnX8_76 ?_
      refine Go.ireturn .int dX8_trim_17 rfl rfl ?_
      exact ⟨rfl, Fr.rf _ _⟩
    · skip
      have v5 : μ5 76 14 = nI N := by rw [k5 76 (by decide)]; exact t2
      show Go V (d + 2) mX9_trim 0 [some (vR 76), some (vI n)] [] μ5 _
      refine Go.iload_n dX9_trim_0 rfl ?_
      refine Go.i2l dX9_trim_1 ?_
      refine Go.lconst (v := (nI 0).toInt64) dX9_trim_2 rfl ?_
      refine Go.aload_n dX9_trim_3 rfl ?_
      refine Go.getI dX9_trim_4 flX9_184 rfl ?_
      refine Go.topE (y := nI N) v5 ?_
      refine Go.i2l dX9_trim_7 ?_
      refine Go.at 8 rfl ?_
      refine Go.callSi [vL n.toInt64, vL ((nI 0).toInt64), vL ((nI N).toInt64)] [] dX9_trim_8 lkX9_65 rfl (Nat.le_of_ble_eq_true rfl) rfl (Nat.le_of_ble_eq_true rfl) (m_isIn n (nI 0) (nI N)) ?_
      refine Go.if_neb_f (tgt := 17) dX9_trim_11 (by decide) h1 ?_
      refine Go.ldc dX9_trim_14 cnX9_98 ?_
      refine Go.ireturn .int dX9_trim_16 rfl rfl ?_
      exact ⟨rfl, Fr.rf _ _⟩
