/-! ===== Integer.bitCount, byte by byte ===== -/
def u32 (x : Int32) : Nat := x.toBitVec.toNat
theorem u32_lt (x : Int32) : u32 x < 4294967296 := x.toBitVec.isLt
theorem u32_and (x y : Int32) : u32 (x &&& y) = u32 x &&& u32 y := by unfold u32; rw [Int32.toBitVec_and, BitVec.toNat_and]
theorem u32_add (x y : Int32) : u32 (x + y) = (u32 x + u32 y) % 4294967296 := by unfold u32; rw [Int32.toBitVec_add, BitVec.toNat_add]
theorem u32_sub {x y : Int32} (h : u32 y ≤ u32 x) : u32 (x - y) = u32 x - u32 y := by
  have hx := u32_lt x
  unfold u32 at *
  rw [Int32.toBitVec_sub, BitVec.toNat_sub]
  omega
theorem u32_ush (x : Int32) {k : Nat} (hk : k < 32) : u32 (iush x (nI k)) = u32 x / 2 ^ k := pk_ushr x (nI k) k (s_u k hk)
theorem u32_nI {n : Nat} (h : n < 4294967296) : u32 (nI n) = n := pk_tn h
theorem an4 (a b m k : Nat) (ha : a < 256) (hm : m < 256) : (a + 256 * b) &&& (m + 256 * k) = (a &&& m) + 256 * (b &&& k) := by
  have hx : a &&& m < 256 := Nat.and_lt_two_pow (n := 8) a hm
  apply Nat.eq_of_testBit_eq
  intro j
  rw [Nat.testBit_and, show a + 256 * b = 2 ^ 8 * b + a by omega, show m + 256 * k = 2 ^ 8 * k + m by omega, show (a &&& m) + 256 * (b &&& k) = 2 ^ 8 * (b &&& k) + (a &&& m) by omega,
    Nat.testBit_two_pow_mul_add b (by omega : a < 2 ^ 8), Nat.testBit_two_pow_mul_add k (by omega : m < 2 ^ 8), Nat.testBit_two_pow_mul_add (b &&& k) (by omega : (a &&& m) < 2 ^ 8)]
  split
  · rw [Nat.testBit_and]
  · rw [Nat.testBit_and]
theorem and4 {a b c d : Nat} (ha : a < 256) (hb : b < 256) (hc : c < 256) (hd : d < 256) (m : Nat) (hm : m < 256) : (a + 256 * (b + 256 * (c + 256 * d))) &&& (m + 256 * (m + 256 * (m + 256 * m))) = (a &&& m) + 256 * ((b &&& m) + 256 * ((c &&& m) + 256 * (d &&& m))) := by
  rw [an4 _ _ _ _ ha hm, an4 _ _ _ _ hb hm, an4 _ _ _ _ hc hm]
def g1 (a : Nat) : Nat := a - ((a / 2) &&& 85)
def g2 (a : Nat) : Nat := (a &&& 51) + ((a / 4) &&& 51)
def g3 (a : Nat) : Nat := (a + a / 16) &&& 15
def p8 (a : Nat) : Nat := a % 2 + a / 2 % 2 + a / 4 % 2 + a / 8 % 2 + a / 16 % 2 + a / 32 % 2 + a / 64 % 2 + a / 128 % 2
theorem g1_t : ∀ a, a < 256 → ((a / 2) &&& 85) ≤ a ∧ (a / 2 + 128) &&& 85 = (a / 2) &&& 85 ∧ g1 a < 256 := by decide +kernel
theorem g2_t : ∀ a, a < 256 → g2 (g1 a) < 256 ∧ g2 (g1 a) % 16 ≤ 4 ∧ g2 (g1 a) / 16 ≤ 4 := by decide +kernel
theorem g2_s : ∀ a, a < 256 → ((a / 4 + 64) &&& 51 = (a / 4) &&& 51 ∧ (a / 4 + 128) &&& 51 = (a / 4) &&& 51 ∧ (a / 4 + 192) &&& 51 = (a / 4) &&& 51) ∧ g2 a < 256 := by decide +kernel
theorem g3_s : ∀ a, a < 256 → a % 16 ≤ 4 → a / 16 ≤ 4 → ∀ q, q ≤ 4 → (a + a / 16 + 16 * q) &&& 15 = g3 a := by decide +kernel
theorem g3_t : ∀ a, a < 256 → g3 (g2 (g1 a)) = p8 a ∧ p8 a ≤ 8 := by decide +kernel
theorem bc1_b {x : Int32} {a b c d : Nat} (ha : a < 256) (hb : b < 256) (hc : c < 256) (hd : d < 256) (h : u32 x = a + 256 * (b + 256 * (c + 256 * d))) : u32 (bc1 x) = g1 a + 256 * (g1 b + 256 * (g1 c + 256 * g1 d)) := by
  have hm : u32 (iush x (nI 1) &&& nI 1431655765) = ((a / 2) &&& 85) + 256 * (((b / 2) &&& 85) + 256 * (((c / 2) &&& 85) + 256 * ((d / 2) &&& 85))) := by
    rw [u32_and, u32_ush x (by decide), u32_nI (by decide), h]
    have e : (a + 256 * (b + 256 * (c + 256 * d))) / 2 ^ 1 = (a / 2 + 128 * (b % 2)) + 256 * ((b / 2 + 128 * (c % 2)) + 256 * ((c / 2 + 128 * (d % 2)) + 256 * (d / 2))) := by omega
    have key : ∀ y z, y < 256 → (y / 2 + 128 * (z % 2)) &&& 85 = (y / 2) &&& 85 := by
      intro y z hy
      rcases Nat.mod_two_eq_zero_or_one z with q | q
      · rw [q]; rfl
      · rw [q]; exact (g1_t y hy).2.1
    rw [e, show (1431655765 : Nat) = 85 + 256 * (85 + 256 * (85 + 256 * 85)) from rfl, and4 (by omega) (by omega) (by omega) (by omega) 85 (by decide), key a b ha, key b c hb, key c d hc]
  have t1 := g1_t a ha
  have t2 := g1_t b hb
  have t3 := g1_t c hc
  have t4 := g1_t d hd
  unfold bc1
  rw [u32_sub (by rw [hm, h]; omega), hm, h]
  unfold g1
  omega
theorem bc2_b {x : Int32} {a b c d : Nat} (ha : a < 256) (hb : b < 256) (hc : c < 256) (hd : d < 256) (h : u32 x = a + 256 * (b + 256 * (c + 256 * d))) : u32 (bc2 x) = g2 a + 256 * (g2 b + 256 * (g2 c + 256 * g2 d)) := by
  have hk : (858993459 : Nat) = 51 + 256 * (51 + 256 * (51 + 256 * 51)) := rfl
  have key : ∀ y z, y < 256 → (y / 4 + 64 * (z % 4)) &&& 51 = (y / 4) &&& 51 := by
    intro y z hy
    have hz : z % 4 = 0 ∨ z % 4 = 1 ∨ z % 4 = 2 ∨ z % 4 = 3 := by omega
    rcases hz with q | q | q | q
    · rw [q]; rfl
    · rw [q]; exact (g2_s y hy).1.1
    · rw [q]; exact (g2_s y hy).1.2.1
    · rw [q]; exact (g2_s y hy).1.2.2
  have h1 : u32 (x &&& nI 858993459) = (a &&& 51) + 256 * ((b &&& 51) + 256 * ((c &&& 51) + 256 * (d &&& 51))) := by
    rw [u32_and, u32_nI (by decide), h, hk, and4 ha hb hc hd 51 (by decide)]
  have h2 : u32 (iush x (nI 2) &&& nI 858993459) = ((a / 4) &&& 51) + 256 * (((b / 4) &&& 51) + 256 * (((c / 4) &&& 51) + 256 * ((d / 4) &&& 51))) := by
    rw [u32_and, u32_ush x (by decide), u32_nI (by decide), h]
    have e : (a + 256 * (b + 256 * (c + 256 * d))) / 2 ^ 2 = (a / 4 + 64 * (b % 4)) + 256 * ((b / 4 + 64 * (c % 4)) + 256 * ((c / 4 + 64 * (d % 4)) + 256 * (d / 4))) := by omega
    rw [e, hk, and4 (by omega) (by omega) (by omega) (by omega) 51 (by decide), key a b ha, key b c hb, key c d hc]
  have t1 := (g2_s a ha).2
  have t2 := (g2_s b hb).2
  have t3 := (g2_s c hc).2
  have t4 := (g2_s d hd).2
  unfold bc2
  rw [u32_add, h1, h2]
  unfold g2 at *
  omega
theorem bc3_b {x : Int32} {a b c d : Nat} (ha : a < 256 ∧ a % 16 ≤ 4 ∧ a / 16 ≤ 4) (hb : b < 256 ∧ b % 16 ≤ 4 ∧ b / 16 ≤ 4) (hc : c < 256 ∧ c % 16 ≤ 4 ∧ c / 16 ≤ 4) (hd : d < 256 ∧ d % 16 ≤ 4 ∧ d / 16 ≤ 4) (h : u32 x = a + 256 * (b + 256 * (c + 256 * d))) : u32 (bc3 x) = g3 a + 256 * (g3 b + 256 * (g3 c + 256 * g3 d)) := by
  unfold bc3
  rw [u32_and, u32_add, u32_ush x (by decide), u32_nI (by decide), h]
  have e : (a + 256 * (b + 256 * (c + 256 * d)) + (a + 256 * (b + 256 * (c + 256 * d))) / 2 ^ 4) % 4294967296 = (a + a / 16 + 16 * (b % 16)) + 256 * ((b + b / 16 + 16 * (c % 16)) + 256 * ((c + c / 16 + 16 * (d % 16)) + 256 * (d + d / 16 + 16 * 0))) := by omega
  rw [e, show (252645135 : Nat) = 15 + 256 * (15 + 256 * (15 + 256 * 15)) from rfl, and4 (by omega) (by omega) (by omega) (by omega) 15 (by decide), g3_s a ha.1 ha.2.1 ha.2.2 _ hb.2.1, g3_s b hb.1 hb.2.1 hb.2.2 _ hc.2.1, g3_s c hc.1 hc.2.1 hc.2.2 _ hd.2.1, g3_s d hd.1 hd.2.1 hd.2.2 0 (by decide)]
theorem u32_eq {x : Int32} {n : Nat} (h : u32 x = n) : x = nI n := by
  apply Int32.toBitVec_inj.mp
  show x.toBitVec = BitVec.ofNat 32 n
  rw [← h]
  exact (BitVec.ofNat_toNat 32 x.toBitVec).symm ▸ (by simp [u32])
theorem btN (x : Int32) (i : Nat) : (if bt x i = true then 1 else 0) = u32 x / 2 ^ i % 2 := by
  unfold bt u32
  rw [← BitVec.testBit_toNat, Nat.testBit_eq_decide_div_mod_eq]
  split
  · rename_i h; rw [decide_eq_true_eq] at h; exact h.symm
  · rename_i h; rw [decide_eq_true_eq] at h; omega
theorem b8_0_0 (y : Nat) : (y % 256) % 2 = y % 2 := by omega
theorem b8_0_1 (y : Nat) : (y % 256) / 2 % 2 = y / 2 % 2 := by omega
theorem b8_0_2 (y : Nat) : (y % 256) / 4 % 2 = y / 4 % 2 := by omega
theorem b8_0_3 (y : Nat) : (y % 256) / 8 % 2 = y / 8 % 2 := by omega
theorem b8_0_4 (y : Nat) : (y % 256) / 16 % 2 = y / 16 % 2 := by omega
theorem b8_0_5 (y : Nat) : (y % 256) / 32 % 2 = y / 32 % 2 := by omega
theorem b8_0_6 (y : Nat) : (y % 256) / 64 % 2 = y / 64 % 2 := by omega
theorem b8_0_7 (y : Nat) : (y % 256) / 128 % 2 = y / 128 % 2 := by omega
theorem b8_1_0 (y : Nat) : (y / 256 % 256) % 2 = y / 256 % 2 := by omega
theorem b8_1_1 (y : Nat) : (y / 256 % 256) / 2 % 2 = y / 512 % 2 := by omega
theorem b8_1_2 (y : Nat) : (y / 256 % 256) / 4 % 2 = y / 1024 % 2 := by omega
theorem b8_1_3 (y : Nat) : (y / 256 % 256) / 8 % 2 = y / 2048 % 2 := by omega
theorem b8_1_4 (y : Nat) : (y / 256 % 256) / 16 % 2 = y / 4096 % 2 := by omega
theorem b8_1_5 (y : Nat) : (y / 256 % 256) / 32 % 2 = y / 8192 % 2 := by omega
theorem b8_1_6 (y : Nat) : (y / 256 % 256) / 64 % 2 = y / 16384 % 2 := by omega
theorem b8_1_7 (y : Nat) : (y / 256 % 256) / 128 % 2 = y / 32768 % 2 := by omega
theorem b8_2_0 (y : Nat) : (y / 65536 % 256) % 2 = y / 65536 % 2 := by omega
theorem b8_2_1 (y : Nat) : (y / 65536 % 256) / 2 % 2 = y / 131072 % 2 := by omega
theorem b8_2_2 (y : Nat) : (y / 65536 % 256) / 4 % 2 = y / 262144 % 2 := by omega
theorem b8_2_3 (y : Nat) : (y / 65536 % 256) / 8 % 2 = y / 524288 % 2 := by omega
theorem b8_2_4 (y : Nat) : (y / 65536 % 256) / 16 % 2 = y / 1048576 % 2 := by omega
theorem b8_2_5 (y : Nat) : (y / 65536 % 256) / 32 % 2 = y / 2097152 % 2 := by omega
theorem b8_2_6 (y : Nat) : (y / 65536 % 256) / 64 % 2 = y / 4194304 % 2 := by omega
theorem b8_2_7 (y : Nat) : (y / 65536 % 256) / 128 % 2 = y / 8388608 % 2 := by omega
theorem b8_3_0 (y : Nat) : (y / 16777216 % 256) % 2 = y / 16777216 % 2 := by omega
theorem b8_3_1 (y : Nat) : (y / 16777216 % 256) / 2 % 2 = y / 33554432 % 2 := by omega
theorem b8_3_2 (y : Nat) : (y / 16777216 % 256) / 4 % 2 = y / 67108864 % 2 := by omega
theorem b8_3_3 (y : Nat) : (y / 16777216 % 256) / 8 % 2 = y / 134217728 % 2 := by omega
theorem b8_3_4 (y : Nat) : (y / 16777216 % 256) / 16 % 2 = y / 268435456 % 2 := by omega
theorem b8_3_5 (y : Nat) : (y / 16777216 % 256) / 32 % 2 = y / 536870912 % 2 := by omega
theorem b8_3_6 (y : Nat) : (y / 16777216 % 256) / 64 % 2 = y / 1073741824 % 2 := by omega
theorem b8_3_7 (y : Nat) : (y / 16777216 % 256) / 128 % 2 = y / 2147483648 % 2 := by omega
theorem p8_0 (y : Nat) : p8 (y % 256) = y % 2 + y / 2 % 2 + y / 4 % 2 + y / 8 % 2 + y / 16 % 2 + y / 32 % 2 + y / 64 % 2 + y / 128 % 2 := by
  unfold p8
  rw [b8_0_0, b8_0_1, b8_0_2, b8_0_3, b8_0_4, b8_0_5, b8_0_6, b8_0_7]
theorem p8_1 (y : Nat) : p8 (y / 256 % 256) = y / 256 % 2 + y / 512 % 2 + y / 1024 % 2 + y / 2048 % 2 + y / 4096 % 2 + y / 8192 % 2 + y / 16384 % 2 + y / 32768 % 2 := by
  unfold p8
  rw [b8_1_0, b8_1_1, b8_1_2, b8_1_3, b8_1_4, b8_1_5, b8_1_6, b8_1_7]
theorem p8_2 (y : Nat) : p8 (y / 65536 % 256) = y / 65536 % 2 + y / 131072 % 2 + y / 262144 % 2 + y / 524288 % 2 + y / 1048576 % 2 + y / 2097152 % 2 + y / 4194304 % 2 + y / 8388608 % 2 := by
  unfold p8
  rw [b8_2_0, b8_2_1, b8_2_2, b8_2_3, b8_2_4, b8_2_5, b8_2_6, b8_2_7]
theorem p8_3 (y : Nat) : p8 (y / 16777216 % 256) = y / 16777216 % 2 + y / 33554432 % 2 + y / 67108864 % 2 + y / 134217728 % 2 + y / 268435456 % 2 + y / 536870912 % 2 + y / 1073741824 % 2 + y / 2147483648 % 2 := by
  unfold p8
  rw [b8_3_0, b8_3_1, b8_3_2, b8_3_3, b8_3_4, b8_3_5, b8_3_6, b8_3_7]
theorem fin4 {A B C D : Nat} (p1 : A ≤ 8) (p2 : B ≤ 8) (p3 : C ≤ 8) (p4 : D ≤ 8) {z : Nat} (hz : z = A + 256 * (B + 256 * (C + 256 * D))) : ((z + z / 2 ^ 8) % 4294967296 + (z + z / 2 ^ 8) % 4294967296 / 2 ^ 16) % 4294967296 % 2 ^ 6 = A + B + C + D := by
  have h1 : z / 2 ^ 8 = B + 256 * (C + 256 * D) := by omega
  have h2 : (z + z / 2 ^ 8) % 4294967296 = (A + B) + 256 * ((B + C) + 256 * ((C + D) + 256 * D)) := by rw [h1]; omega
  rw [h2]
  have h3 : ((A + B) + 256 * ((B + C) + 256 * ((C + D) + 256 * D))) / 2 ^ 16 = (C + D) + 256 * D := by omega
  rw [h3]
  omega
theorem cnt_sum {x : Int32} {y : Nat} (hy : y = u32 x) (h : S30 x) : cntB x 30 = p8 (y % 256) + p8 (y / 256 % 256) + p8 (y / 65536 % 256) + p8 (y / 16777216 % 256) := by
  have b30 : y / 1073741824 % 2 = 0 := by rw [hy]; exact (btN x 30).symm.trans (by rw [h 30 (by decide)]; rfl)
  have b31 : y / 2147483648 % 2 = 0 := by rw [hy]; exact (btN x 31).symm.trans (by rw [h 31 (by decide)]; rfl)
  rw [p8_0, p8_1, p8_2, p8_3, b30, b31]
  have e0 : ∀ i, (if bt x i = true then 1 else 0) = y / 2 ^ i % 2 := fun i => by rw [hy]; exact btN x i
  simp only [cntB, e0, Nat.reducePow, Nat.div_one, Nat.zero_add, Nat.add_zero, Nat.add_assoc]
theorem bitC_cnt {x : Int32} (h : S30 x) : bitC x = nI (cntB x 30) := by
  obtain ⟨y, hy⟩ : ∃ y, y = u32 x := ⟨_, rfl⟩
  have hlt := u32_lt x
  have hyl : y < 4294967296 := by rw [hy]; exact hlt
  have h0 : u32 x = y % 256 + 256 * (y / 256 % 256 + 256 * (y / 65536 % 256 + 256 * (y / 16777216 % 256))) := by rw [← hy]; omega
  have ha : y % 256 < 256 := Nat.mod_lt _ (by decide)
  have hb : y / 256 % 256 < 256 := Nat.mod_lt _ (by decide)
  have hc : y / 65536 % 256 < 256 := Nat.mod_lt _ (by decide)
  have hd : y / 16777216 % 256 < 256 := Nat.mod_lt _ (by decide)
  rw [cnt_sum hy h]
  clear hy h hlt hyl
  generalize y % 256 = a at *
  generalize y / 256 % 256 = b at *
  generalize y / 65536 % 256 = c at *
  generalize y / 16777216 % 256 = d at *
  have e1 := bc1_b ha hb hc hd h0
  have e2 := bc2_b (g1_t _ ha).2.2 (g1_t _ hb).2.2 (g1_t _ hc).2.2 (g1_t _ hd).2.2 e1
  have e3 := bc3_b (g2_t _ ha) (g2_t _ hb) (g2_t _ hc) (g2_t _ hd) e2
  rw [(g3_t _ ha).1, (g3_t _ hb).1, (g3_t _ hc).1, (g3_t _ hd).1] at e3
  apply u32_eq
  unfold bitC bc5 bc4
  rw [u32_and, u32_add, u32_ush _ (by decide), u32_add, u32_ush _ (by decide), u32_nI (by decide), show (63 : Nat) = 2 ^ 6 - 1 from rfl, Nat.and_two_pow_sub_one_eq_mod]
  exact fin4 (g3_t _ ha).2 (g3_t _ hb).2 (g3_t _ hc).2 (g3_t _ hd).2 e3
