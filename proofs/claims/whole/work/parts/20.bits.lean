/-! ===== Int32 by its bits: bt x i ===== -/
def bt (x : Int32) (i : Nat) : Bool := x.toBitVec.getLsbD i
theorem b_ext {x y : Int32} (h : ∀ i, i < 32 → bt x i = bt y i) : x = y := Int32.toBitVec_inj.mp (BitVec.eq_of_getLsbD_eq (fun i hi => h i hi))
theorem b_or (x y : Int32) (i : Nat) : bt (x ||| y) i = (bt x i || bt y i) := by unfold bt; rw [Int32.toBitVec_or, BitVec.getLsbD_or]
theorem b_and (x y : Int32) (i : Nat) : bt (x &&& y) i = (bt x i && bt y i) := by unfold bt; rw [Int32.toBitVec_and, BitVec.getLsbD_and]
theorem b_xor (x y : Int32) (i : Nat) : bt (x ^^^ y) i = (bt x i ^^ bt y i) := by unfold bt; rw [Int32.toBitVec_xor, BitVec.getLsbD_xor]
theorem b_big {x : Int32} {i : Nat} (h : 32 ≤ i) : bt x i = false := BitVec.getLsbD_of_ge _ _ h
theorem b_255 (i : Nat) : bt 255 i = decide (i < 8) := by
  rcases Nat.lt_or_ge i 32 with h | h
  · exact (by decide +kernel : ∀ i, i < 32 → bt 255 i = decide (i < 8)) i h
  · rw [b_big h, decide_eq_false (by omega)]
theorem b_65535 (i : Nat) : bt 65535 i = decide (i < 16) := by
  rcases Nat.lt_or_ge i 32 with h | h
  · exact (by decide +kernel : ∀ i, i < 32 → bt 65535 i = decide (i < 16)) i h
  · rw [b_big h, decide_eq_false (by omega)]
theorem b_m1 : ∀ i, i < 32 → bt (-1) i = true := by decide +kernel
theorem b_0 (i : Nat) : bt 0 i = false := BitVec.getLsbD_zero
theorem s_l : ∀ n, n < 32 → ((nI n &&& 31).toBitVec.smod 32).toNat = n := by decide +kernel
theorem s_u : ∀ n, n < 32 → (((nI n).toUInt32 &&& Int32.toUInt32 31).toBitVec % 32).toNat = n := by decide +kernel
theorem b_shl (n : Nat) (hn : n < 32) (x : Int32) {i : Nat} (hi : i < 32) : bt (x <<< (nI n &&& 31)) i = (decide (n ≤ i) && bt x (i - n)) := by
  unfold bt
  rw [Int32.toBitVec_shiftLeft]
  show (x.toBitVec <<< ((nI n &&& 31).toBitVec.smod 32).toNat).getLsbD i = _
  rw [s_l n hn, BitVec.getLsbD_shiftLeft]
  rcases Nat.lt_or_ge i n with h | h
  · simp [h, Nat.not_le.mpr h]
  · simp [hi, h, Nat.not_lt.mpr h]
theorem b_ushr (n : Nat) (hn : n < 32) (x : Int32) (i : Nat) : bt ((x.toUInt32 >>> ((nI n).toUInt32 &&& Int32.toUInt32 31)).toInt32) i = bt x (n + i) := by
  show (x.toUInt32 >>> ((nI n).toUInt32 &&& Int32.toUInt32 31)).toBitVec.getLsbD i = x.toUInt32.toBitVec.getLsbD (n + i)
  rw [UInt32.toBitVec_shiftRight]
  show (x.toUInt32.toBitVec >>> (((nI n).toUInt32 &&& Int32.toUInt32 31).toBitVec % 32).toNat).getLsbD i = _
  rw [s_u n hn, BitVec.getLsbD_ushiftRight]
theorem b_sshr (n : Nat) (hn : n < 32) (x : Int32) {i : Nat} (hi : i < 32) : bt (x >>> (nI n &&& 31)) i = if n + i < 32 then bt x (n + i) else bt x 31 := by
  unfold bt
  rw [Int32.toBitVec_shiftRight]
  show (x.toBitVec.sshiftRight ((nI n &&& 31).toBitVec.smod 32).toNat).getLsbD i = _
  rw [s_l n hn, BitVec.getLsbD_sshiftRight, BitVec.msb_eq_getLsbD_last]
  simp [hi]
/-! ===== nI under and, xor, >>>, one bit, 65535 ===== -/
theorem nx_and (a b : Nat) : nI a &&& nI b = nI (a &&& b) := by
  apply Int32.toBitVec_inj.1
  show BitVec.ofNat 32 a &&& BitVec.ofNat 32 b = BitVec.ofNat 32 (a &&& b)
  apply BitVec.eq_of_getLsbD_eq
  intro i hi
  simp [hi]
theorem nx_xor (a b : Nat) : nI a ^^^ nI b = nI (a ^^^ b) := by
  apply Int32.toBitVec_inj.1
  show BitVec.ofNat 32 a ^^^ BitVec.ofNat 32 b = BitVec.ofNat 32 (a ^^^ b)
  apply BitVec.eq_of_getLsbD_eq
  intro i hi
  simp [hi]
/-! my own: one bit, and how many bits are one -/
theorem zn_b1 : ∀ i, i < 32 → bt 1 i = decide (i = 0) := by decide +kernel
theorem zn_if (b : Bool) (i : Nat) (hi : i < 32) : bt (if b = true then 1 else 0) i = (decide (i = 0) && b) := by
  cases b
  · simp [b_0]
  · simp [zn_b1 i hi]
theorem zn_u1 (x : Int32) {k : Nat} (hk : k < 32) : zi_ushr x (nI k) &&& 1 = if bt x k = true then 1 else 0 := by
  apply b_ext
  intro i hi
  rw [zn_if _ i hi]
  unfold zi_ushr
  rw [b_and, b_ushr k hk, zn_b1 i hi]
  by_cases h : i = 0
  · subst h
    simp
  · simp [h]
theorem zn_s1 (x : Int32) {k : Nat} (hk : k < 32) : zi_shr x (nI k) &&& 1 = if bt x k = true then 1 else 0 := by
  apply b_ext
  intro i hi
  rw [zn_if _ i hi]
  unfold zi_shr
  rw [b_and, b_sshr k hk x hi, zn_b1 i hi]
  by_cases h : i = 0
  · subst h
    simp [hk]
  · simp [h]
theorem zn_one {b : Bool} : ((if b = true then (1 : Int32) else 0) = 1) ↔ b = true := by cases b <;> decide
theorem zn_of (x : Int32) : x = nI x.toBitVec.toNat := by
  apply Int32.toBitVec_inj.1
  show x.toBitVec = BitVec.ofNat 32 x.toBitVec.toNat
  simp
theorem zn_bt (n i : Nat) (hi : i < 32) : bt (nI n) i = decide (n / 2 ^ i % 2 = 1) := by
  show (BitVec.ofNat 32 n).getLsbD i = _
  rw [BitVec.getLsbD_ofNat, Nat.testBit_eq_decide_div_mod_eq]
  simp [hi]
/-- how many of the lowest j bits are one -/
def zn_pc : Nat → Int32 → Nat
  | 0, _ => 0
  | j + 1, x => (if bt x j = true then 1 else 0) + zn_pc j x
def zn_cn : Nat → Nat → Nat
  | 0, _ => 0
  | j + 1, n => n / 2 ^ j % 2 + zn_cn j n
theorem zn_pc_cn (n : Nat) : ∀ j, j ≤ 32 → zn_pc j (nI n) = zn_cn j n
  | 0, _ => rfl
  | j + 1, h => by
    unfold zn_pc zn_cn
    rw [zn_pc_cn n j (by omega), zn_bt n j (by omega)]
    have : n / 2 ^ j % 2 < 2 := Nat.mod_lt _ (by omega)
    by_cases h1 : n / 2 ^ j % 2 = 1
    · simp [h1]
    · simp [h1]
      omega
theorem zn_pc_le : ∀ (j : Nat) (x : Int32), zn_pc j x ≤ j
  | 0, _ => Nat.le_refl 0
  | j + 1, x => by
    have := zn_pc_le j x
    unfold zn_pc
    split <;> omega
theorem zn_cn_lo (a b : Nat) (ha : a < 256) : ∀ j, j ≤ 8 → zn_cn j (a + 256 * b) = zn_cn j a
  | 0, _ => rfl
  | j + 1, h => by
    unfold zn_cn
    rw [zn_cn_lo a b ha j (by omega)]
    congr 1
    have e : 256 = 2 ^ j * 2 ^ (8 - j) := by rw [← Nat.pow_add, show j + (8 - j) = 8 by omega]
    rw [e, Nat.mul_assoc, Nat.add_mul_div_left _ _ (Nat.two_pow_pos j)]
    have e2 : 2 ^ (8 - j) = 2 * 2 ^ (7 - j) := by rw [← Nat.pow_succ']; congr 1; omega
    rw [e2, Nat.mul_assoc, Nat.add_mul_mod_self_left]
theorem zn_cn_hi (a b : Nat) (ha : a < 256) : ∀ j, zn_cn (8 + j) (a + 256 * b) = zn_cn 8 a + zn_cn j b
  | 0 => by rw [Nat.add_zero, zn_cn_lo a b ha 8 (Nat.le_refl 8)]; rfl
  | j + 1 => by
    show (a + 256 * b) / 2 ^ (8 + j) % 2 + zn_cn (8 + j) (a + 256 * b) = zn_cn 8 a + (b / 2 ^ j % 2 + zn_cn j b)
    rw [zn_cn_hi a b ha j]
    have e : (a + 256 * b) / 2 ^ (8 + j) = b / 2 ^ j := by
      rw [Nat.pow_add, ← Nat.div_div_eq_div_mul]
      congr 1
      omega
    rw [e]
    omega
/-! Integer.bitCount -/
theorem zn_andS (a b c d : Nat) (ha : a < 256) (hc : c < 256) : (a + 256 * b) &&& (c + 256 * d) = (a &&& c) + 256 * (b &&& d) := by
  have h1 : ((a + 2 ^ 8 * b) &&& (c + 2 ^ 8 * d)) % 2 ^ 8 = a &&& c := by
    rw [Nat.and_mod_two_pow, Nat.add_mul_mod_self_left, Nat.add_mul_mod_self_left, Nat.mod_eq_of_lt ha, Nat.mod_eq_of_lt hc]
  have h2 : ((a + 2 ^ 8 * b) &&& (c + 2 ^ 8 * d)) / 2 ^ 8 = b &&& d := by
    rw [Nat.and_div_two_pow, Nat.add_mul_div_left _ _ (Nat.two_pow_pos 8), Nat.add_mul_div_left _ _ (Nat.two_pow_pos 8), Nat.div_eq_of_lt ha, Nat.div_eq_of_lt hc, Nat.zero_add, Nat.zero_add]
  have h3 := Nat.mod_add_div ((a + 2 ^ 8 * b) &&& (c + 2 ^ 8 * d)) (2 ^ 8)
  rw [h1, h2] at h3
  exact h3.symm
def zn_u8 (b : Nat) : Nat := b - (b / 2 &&& 0x55)
def zn_v8 (b : Nat) : Nat := (b &&& 0x33) + (b / 4 &&& 0x33)
def zn_w8 (b : Nat) : Nat := (b + b / 16) &&& 0x0f
theorem zn_t1 : ∀ lo, lo < 256 → ∀ t, t < 2 → (lo / 2 + 128 * t) &&& 0x55 = lo / 2 &&& 0x55 := by decide +kernel
theorem zn_t2 : ∀ lo, lo < 256 → ∀ t, t < 4 → (lo / 4 + 64 * t) &&& 0x33 = lo / 4 &&& 0x33 := by decide +kernel
theorem zn_t3 : ∀ lo, lo < 256 → ∀ t, t < 16 → (lo + lo / 16 + 16 * t) &&& 0x0f = (lo + lo / 16) &&& 0x0f := by decide +kernel
theorem zn_t4 : ∀ b, b < 256 → zn_w8 (zn_v8 (zn_u8 b)) = zn_cn 8 b := by decide +kernel
theorem zn_t5 : ∀ b, b < 256 → zn_v8 (zn_u8 b) ≤ 0x44 ∧ zn_v8 (zn_u8 b) % 16 ≤ 4 ∧ zn_u8 b < 256 ∧ zn_cn 8 b ≤ 8 := by decide +kernel
theorem zn_c1 (lo hi M : Nat) (h : lo < 256) : (lo + 256 * hi) - ((lo + 256 * hi) / 2 &&& (0x55 + 256 * M)) = zn_u8 lo + 256 * (hi - (hi / 2 &&& M)) := by
  have e : (lo + 256 * hi) / 2 = (lo / 2 + 128 * (hi % 2)) + 256 * (hi / 2) := by omega
  rw [e, zn_andS _ _ _ _ (by omega) (by omega), zn_t1 lo h _ (by omega)]
  have h1 : lo / 2 &&& 0x55 ≤ lo / 2 := Nat.and_le_left
  have h2 : hi / 2 &&& M ≤ hi / 2 := Nat.and_le_left
  unfold zn_u8
  omega
theorem zn_c2 (lo hi M : Nat) (h : lo < 256) : ((lo + 256 * hi) &&& (0x33 + 256 * M)) + ((lo + 256 * hi) / 4 &&& (0x33 + 256 * M)) = zn_v8 lo + 256 * ((hi &&& M) + (hi / 4 &&& M)) := by
  have e : (lo + 256 * hi) / 4 = (lo / 4 + 64 * (hi % 4)) + 256 * (hi / 4) := by omega
  rw [e, zn_andS _ _ _ _ (by omega) (by omega), zn_andS _ _ _ _ (by omega) (by omega), zn_t2 lo h _ (by omega)]
  unfold zn_v8
  omega
theorem zn_c3 (lo hi M : Nat) (h : lo ≤ 0x44) (h2 : hi % 16 ≤ 4) : ((lo + 256 * hi) + (lo + 256 * hi) / 16) &&& (0x0f + 256 * M) = zn_w8 lo + 256 * ((hi + hi / 16) &&& M) := by
  have e : (lo + 256 * hi) + (lo + 256 * hi) / 16 = (lo + lo / 16 + 16 * (hi % 16)) + 256 * (hi + hi / 16) := by omega
  rw [e, zn_andS _ _ _ _ (by omega) (by omega), zn_t3 lo (by omega) _ (by omega)]
  rfl
theorem zn_fin (a b c d m : Nat) (ha : a ≤ 8) (hb : b ≤ 8) (hc : c ≤ 8) (hd : d ≤ 8) (hm : m = a + 256 * (b + 256 * (c + 256 * d))) : (m + m / 256 + (m + m / 256) / 65536) % 64 = a + (b + (c + d)) := by
  have d1 : m / 256 = b + 256 * (c + 256 * d) := by omega
  have d2 : (m + m / 256) / 65536 = (c + d) + 256 * d := by
    rw [d1]
    omega
  rw [d2, d1]
  omega
theorem zn_us1 {n : Nat} (h : n < 2 ^ 32) : zi_ushr (nI n) 1 = nI (n / 2) := pk_ushrN h 1 1 (by decide)
theorem zn_us2 {n : Nat} (h : n < 2 ^ 32) : zi_ushr (nI n) 2 = nI (n / 4) := pk_ushrN h 2 2 (by decide)
theorem zn_us4 {n : Nat} (h : n < 2 ^ 32) : zi_ushr (nI n) 4 = nI (n / 16) := pk_ushrN h 4 4 (by decide)
theorem zn_us8 {n : Nat} (h : n < 2 ^ 32) : zi_ushr (nI n) 8 = nI (n / 256) := pk_ushrN h 8 8 (by decide)
theorem zn_us16 {n : Nat} (h : n < 2 ^ 32) : zi_ushr (nI n) 16 = nI (n / 65536) := pk_ushrN h 16 16 (by decide)
theorem zn_bc (F : Nat) (w : zw_T) (x : Int32) : zf_In_bitCount F w x = some (nI (zn_pc 32 x), w) := by
  have hx := zn_of x
  have hn : x.toBitVec.toNat < 2 ^ 32 := x.toBitVec.isLt
  generalize x.toBitVec.toNat = n at hx hn
  subst hx
  obtain ⟨b0, r0, h0, e0⟩ : ∃ b0 r0, b0 < 256 ∧ n = b0 + 256 * r0 := ⟨n % 256, n / 256, by omega, by omega⟩
  obtain ⟨b1, r1, h1, e1⟩ : ∃ b1 r1, b1 < 256 ∧ r0 = b1 + 256 * r1 := ⟨r0 % 256, r0 / 256, by omega, by omega⟩
  obtain ⟨b2, b3, h2, e2⟩ : ∃ b2 r2, b2 < 256 ∧ r1 = b2 + 256 * r2 := ⟨r1 % 256, r1 / 256, by omega, by omega⟩
  have h3 : b3 < 256 := by omega
  have hc : zn_pc 32 (nI n) = zn_cn 8 b0 + (zn_cn 8 b1 + (zn_cn 8 b2 + zn_cn 8 b3)) := by
    rw [zn_pc_cn n 32 (Nat.le_refl 32), e0, e1, e2]
    rw [zn_cn_hi b0 _ h0 24, zn_cn_hi b1 _ h1 16, zn_cn_hi b2 _ h2 8]
  have a1 : n - (n / 2 &&& 1431655765) = zn_u8 b0 + 256 * (zn_u8 b1 + 256 * (zn_u8 b2 + 256 * zn_u8 b3)) := by
    rw [e0, show (1431655765 : Nat) = 0x55 + 256 * (0x55 + 256 * (0x55 + 256 * 0x55)) from rfl, zn_c1 b0 _ _ h0, e1, zn_c1 b1 _ _ h1, e2, zn_c1 b2 _ _ h2]
    rfl
  obtain ⟨p0, q0, u0, c0⟩ := zn_t5 b0 h0
  obtain ⟨p1, q1, u1, c1⟩ := zn_t5 b1 h1
  obtain ⟨p2, q2, u2, c2⟩ := zn_t5 b2 h2
  obtain ⟨p3, q3, u3, c3⟩ := zn_t5 b3 h3
  have a2 : ((n - (n / 2 &&& 1431655765)) &&& 858993459) + ((n - (n / 2 &&& 1431655765)) / 4 &&& 858993459) = zn_v8 (zn_u8 b0) + 256 * (zn_v8 (zn_u8 b1) + 256 * (zn_v8 (zn_u8 b2) + 256 * zn_v8 (zn_u8 b3))) := by
    rw [a1, show (858993459 : Nat) = 0x33 + 256 * (0x33 + 256 * (0x33 + 256 * 0x33)) from rfl, zn_c2 _ _ _ u0, zn_c2 _ _ _ u1, zn_c2 _ _ _ u2]
    rfl
  have l1 : n - (n / 2 &&& 1431655765) < 2 ^ 32 := by omega
  have l0 : n / 2 &&& 1431655765 ≤ n := Nat.le_trans Nat.and_le_left (Nat.div_le_self _ _)
  generalize hm1 : n - (n / 2 &&& 1431655765) = m1 at a1 a2 l1
  generalize hm2 : (m1 &&& 858993459) + (m1 / 4 &&& 858993459) = m2 at a2
  have a3 : (m2 + m2 / 16) &&& 252645135 = zn_cn 8 b0 + 256 * (zn_cn 8 b1 + 256 * (zn_cn 8 b2 + 256 * zn_cn 8 b3)) := by
    rw [a2, show (252645135 : Nat) = 0x0f + 256 * (0x0f + 256 * (0x0f + 256 * 0x0f)) from rfl, zn_c3 _ _ _ p0 (by omega), zn_c3 _ _ _ p1 (by omega), zn_c3 _ _ _ p2 (by omega), ← zn_t4 b0 h0, ← zn_t4 b1 h1, ← zn_t4 b2 h2, ← zn_t4 b3 h3]
    rfl
  have l2 : m2 < 2 ^ 32 := by omega
  generalize hm3 : (m2 + m2 / 16) &&& 252645135 = m3 at a3
  have l3 : m3 < 2 ^ 28 := by omega
  have a5 : (m3 + m3 / 256 + (m3 + m3 / 256) / 65536) % 64 = zn_cn 8 b0 + (zn_cn 8 b1 + (zn_cn 8 b2 + zn_cn 8 b3)) := zn_fin _ _ _ _ _ c0 c1 c2 c3 a3
  have k1 : nI n - (zi_ushr (nI n) 1 &&& 1431655765) = nI m1 := by
    rw [zn_us1 hn, show (1431655765 : Int32) = nI 1431655765 from rfl, nx_and, pk_sub l0, hm1]
  have k2 : (nI m1 &&& 858993459) + (zi_ushr (nI m1) 2 &&& 858993459) = nI m2 := by
    rw [zn_us2 l1, show (858993459 : Int32) = nI 858993459 from rfl, nx_and, nx_and, nI_add, hm2]
  have k3 : (nI m2 + zi_ushr (nI m2) 4) &&& 252645135 = nI m3 := by
    rw [zn_us4 l2, show (252645135 : Int32) = nI 252645135 from rfl, nI_add, nx_and, hm3]
  have k4 : nI m3 + zi_ushr (nI m3) 8 = nI (m3 + m3 / 256) := by
    rw [zn_us8 (by omega), nI_add]
  have k5 : nI (m3 + m3 / 256) + zi_ushr (nI (m3 + m3 / 256)) 16 = nI (m3 + m3 / 256 + (m3 + m3 / 256) / 65536) := by
    rw [zn_us16 (by omega), nI_add]
  unfold zf_In_bitCount
  simp only [zf_let]
  rw [k1, k2, k3, k4, k5, show (63 : Int32) = nI 63 from rfl, nx_and, show (63 : Nat) = 2 ^ 6 - 1 from rfl, Nat.and_two_pow_sub_one_eq_mod, show (2 ^ 6 : Nat) = 64 from rfl, a5, hc]
