/-! hear: words on the air -/
theorem zdat_hi (f : Nat → Bool) (c s d : Nat) : zdat f s c d / 2 ^ c = d := by
  have h := zdat_lt f c s 0 0 (by decide)
  rw [Nat.zero_add] at h
  rw [zdat_lin, Nat.mul_comm, Nat.mul_add_div (Nat.two_pow_pos c), Nat.div_eq_of_lt h, Nat.add_zero]
theorem zdat_bt (f : Nat → Bool) : ∀ c s d i, i < c → decide (zdat f s c d / 2 ^ i % 2 = 1) = f (s + c - 1 - i)
  | 0, _, _, i, h => absurd h (Nat.not_lt_zero i)
  | c + 1, s, d, i, h => by
    show decide (zdat f (s + 1) c (2 * d + (if f s = true then 1 else 0)) / 2 ^ i % 2 = 1) = f (s + (c + 1) - 1 - i)
    by_cases hi : i < c
    · rw [zdat_bt f c (s + 1) _ i hi, show s + 1 + c - 1 - i = s + (c + 1) - 1 - i by omega]
    · have e : i = c := by omega
      subst e
      rw [zdat_hi, show s + (i + 1) - 1 - i = s by omega]
      cases f s
      · exact decide_eq_false (by simp)
      · exact decide_eq_true (by simp)
def zbits (σ : zA) (i : Nat) : Bool := decide (zN σ 130 i = 1)
def zwd (σ : zA) (q : Nat) : Int32 := nI (zdat (zbits σ) q 32 0)
theorem zwd_bt (σ : zA) (q : Nat) {i : Nat} (hi : i < 32) : bt (zwd σ q) i = zbits σ (q + 31 - i) := by
  unfold zwd
  rw [zn_bt _ i hi, zdat_bt _ 32 q 0 i hi, show q + 32 - 1 - i = q + 31 - i by omega]
def zsy (x : Int32) : Bool := decide (zn_pc 32 (x ^^^ 2094142936) ≤ 2)
theorem zn_2d {b : Bool} (d : Nat) : (2 : Int32) * nI d + nI (if b = true then 1 else 0) = nI (2 * d + (if b = true then 1 else 0)) := zmd 2 d _
theorem zN01 {a : Nat} (h : a < 2) : a = if decide (a = 1) = true then 1 else 0 := by
  match a, h with
  | 0, _ => rfl
  | 1, _ => rfl
section ZH1
variable {ac : Nat → Nat → Nat} {τ : zB} {am : Nat → Nat} {σ : zA} {w w2 : zw_T} {F m x : Nat}
theorem zo_waL (h : zM m am σ w) (hI : zI σ) {q : Nat} (hq : q + 32 ≤ zN σ 1592 0) : ∀ c n t d, t + c = q + 32 → c < n → zf_Mo_wordAt_L4 F n w m (nI q) (nI d) (nI t) = some (nI (zdat (zbits σ) t c d), w) := by
  have i1 := zI_bts hI
  intro c
  induction c with
  | zero =>
    intro n t d e1 e2
    obtain ⟨n, rfl⟩ : ∃ q, n = q + 1 := ⟨n - 1, by omega⟩
    rw [zf_Mo_wordAt_L4, show nI q + (32 : Int32) = nI (q + 32) from nI_add q 32, if_pos ((nI_leI (by omega) (by omega)).mpr (by omega))]
    rfl
  | succ c ih =>
    intro n t d e1 e2
    obtain ⟨n, rfl⟩ : ∃ q, n = q + 1 := ⟨n - 1, by omega⟩
    have i2 := zI_air hI t
    have e3 : (2 : Int32) * nI d + nI (zN σ 130 t) = nI (2 * d + (if zbits σ t = true then 1 else 0)) := by
      rw [show nI (zN σ 130 t) = nI (if zbits σ t = true then 1 else 0) from congrArg nI (zN01 i2)]
      exact zn_2d d
    rw [zf_Mo_wordAt_L4, show nI q + (32 : Int32) = nI (q + 32) from nI_add q 32, if_neg (zn_le (by omega) (by omega) (by omega)), zM_at h, zM_R h 1591 130 2240 (by decide), zM_ix h 1591 130 2240 (by decide) (by omega) (by decide), zM_n h 130 (by decide), e3, zlt_s, zs1, zlt_s, ih n (t + 1) _ (by omega) (by omega)]
    rfl
theorem zo_wa (hF : 2500 ≤ F) (h : zM m am σ w) (hI : zI σ) {q : Nat} (hq : q + 32 ≤ zN σ 1592 0) : zf_Mo_wordAt F w m (nI q) = some (zwd σ q, w) := by
  unfold zf_Mo_wordAt
  rw [zlt_s, zlt_s]
  exact zo_waL h hI hq 32 F q 0 (by omega) (by omega)
theorem zo_sy (hF : 2500 ≤ F) (h : zM m am σ w) (hI : zI σ) {q : Nat} (hq : q + 32 ≤ zN σ 1592 0) : zf_Mo_isSync F w m (nI q) = some (zd (zsy (zwd σ q)), w) := by
  have l := zn_pc_le 32 (zwd σ q ^^^ 2094142936)
  unfold zf_Mo_isSync zsy
  rw [zM_at h, zo_wa hF h hI hq, zbd_s, zn_on hF, zbd_s]
  by_cases hz : zn_pc 32 (zwd σ q ^^^ 2094142936) ≤ 2
  · rw [if_neg (show ¬ (2 : Int32) < nI (zn_pc 32 (zwd σ q ^^^ 2094142936)) from zn_lt (a := 2) (by decide) (by omega) (by omega)), decide_eq_true hz, zb_1]
    rfl
  · rw [if_pos (show (2 : Int32) < nI (zn_pc 32 (zwd σ q ^^^ 2094142936)) from (nI_ltI (a := 2) (by decide) (by omega)).mpr (by omega)), decide_eq_false hz, zb_0]
    rfl
theorem zc_sy (v : Int32) : zf_WP_isSync F w v = some (zd (zsy v), w) := by
  have l := zn_pc_le 32 (v ^^^ 2094142936)
  unfold zf_WP_isSync zsy
  rw [zn_bc, zbd_s]
  by_cases hz : zn_pc 32 (v ^^^ 2094142936) ≤ 2
  · rw [if_neg (show ¬ (2 : Int32) < nI (zn_pc 32 (v ^^^ 2094142936)) from zn_lt (a := 2) (by decide) (by omega) (by omega)), decide_eq_true hz, zb_1]
    rfl
  · rw [if_pos (show (2 : Int32) < nI (zn_pc 32 (v ^^^ 2094142936)) from (nI_ltI (a := 2) (by decide) (by omega)).mpr (by omega)), decide_eq_false hz, zb_0]
    rfl
theorem zc_hw (hC : zC ac τ w) (hI : zI σ) (h0 : zP0 τ) (h7 : zP7 τ σ) {q : Nat} (hq : q ≤ 2240) : zf_Ai_hasWord F w (ac 1 0) (nI q) = some (zd (decide (q + 32 ≤ zN σ 1592 0)), w) := by
  have i1 := zI_bts hI
  have i2 := zI_b32 hI
  unfold zf_Ai_hasWord
  rw [if_neg (nI_pos (by omega)), zC_at hC 1 0 (zP0_a1 h0), zC_I hC 1001 1 0 rfl (zP0_a1 h0), zP7_n h7]
  by_cases hz : zN σ 1592 0 = 0
  · rw [hz, if_pos (Int32.lt_of_lt_of_le (show nI 0 - (32 : Int32) < 0 by decide) (nI_pos' (by omega))), zb_0, decide_eq_false (by omega)]
    rfl
  · rw [show nI (zN σ 1592 0) - (32 : Int32) = nI (zN σ 1592 0 - 32) from pk_sub (b := 32) (by omega)]
    by_cases h2 : q + 32 ≤ zN σ 1592 0
    · rw [if_neg (zn_lt (by omega) (by omega) (by omega)), zb_1, decide_eq_true h2]
      rfl
    · rw [if_pos ((nI_ltI (by omega) (by omega)).mpr (by omega)), zb_0, decide_eq_false h2]
      rfl
theorem zc_wa (hC : zC ac τ w) (hI : zI σ) (h0 : zP0 τ) (h7 : zP7 τ σ) {q : Nat} (hq : q + 32 ≤ zN σ 1592 0) : zf_Ai_wordAt F w (ac 1 0) (nI q) = some (zwd σ q, w) := by
  have i1 := zI_bts hI
  have l := zP0_l102 h0
  have hd := zP7_d h7
  have hd : ∀ i, i < zN σ 1592 0 → bt (zb_I τ 102 0 (i / 32)) (31 - i % 32) = zbits σ i := hd
  unfold zf_Ai_wordAt
  rw [show nI q / (32 : Int32) = nI (q / 32) from pk_div (by omega) (by decide) (by decide), show zi_rem (nI q) (32 : Int32) = nI (q % 32) from zq_rem (by omega) (by decide) (by decide), zlt_s, zlt_s]
  by_cases hz : q % 32 = 0
  · rw [if_pos ((zn_z (by omega)).mpr hz), zC_at hC 1 0 (zP0_a1 h0), zC_R hC 1000 1 102 0 rfl rfl (zP0_a1 h0) (zP0_r1000 h0), zC_ix hC 102 0 (zP0_a102 h0) (by omega) (by omega), zC_I hC 102 102 0 rfl (zP0_a102 h0)]
    congr 2
    apply b_ext
    intro i hi
    have e := hd (q + 31 - i) (by omega)
    rw [show (q + 31 - i) / 32 = q / 32 by omega, show 31 - (q + 31 - i) % 32 = i by omega] at e
    rw [e, zwd_bt σ q hi]
  · rw [if_neg (fun z => hz ((zn_z (by omega)).mp z)), zC_at hC 1 0 (zP0_a1 h0), zC_R hC 1000 1 102 0 rfl rfl (zP0_a1 h0) (zP0_r1000 h0), zC_ix hC 102 0 (zP0_a102 h0) (by omega) (by omega), zC_at hC 1 0 (zP0_a1 h0), zC_R hC 1000 1 102 0 rfl rfl (zP0_a1 h0) (zP0_r1000 h0), zs1, zC_ix hC 102 0 (zP0_a102 h0) (by omega) (by omega), zC_I hC 102 102 0 rfl (zP0_a102 h0), zC_I hC 102 102 0 rfl (zP0_a102 h0), show (32 : Int32) - nI (q % 32) = nI (32 - q % 32) from pk_sub (a := 32) (by omega)]
    congr 2
    apply b_ext
    intro i hi
    rw [b_or, zwd_bt σ q hi]
    unfold zi_shl zi_ushr
    rw [b_shl (q % 32) (by omega) _ hi, b_ushr (32 - q % 32) (by omega)]
    have e := hd (q + 31 - i) (by omega)
    by_cases h2 : q % 32 ≤ i
    · rw [show (q + 31 - i) / 32 = q / 32 by omega, show 31 - (q + 31 - i) % 32 = i - q % 32 by omega] at e
      rw [decide_eq_true h2, Bool.true_and, b_big (i := 32 - q % 32 + i) (by omega), Bool.or_false, e]
    · rw [show (q + 31 - i) / 32 = q / 32 + 1 by omega, show 31 - (q + 31 - i) % 32 = 32 - q % 32 + i by omega] at e
      rw [decide_eq_false h2, Bool.false_and, Bool.false_or, e]
end ZH1
/-- a window that grows by a bit -/
theorem zn_shw (d : Nat) (b : Bool) : zi_shl (nI d) 1 ||| nI (if b = true then 1 else 0) = nI (2 * d + (if b = true then 1 else 0)) := by
  apply b_ext
  intro i hi
  rw [b_or, zn_bt _ i hi, zn_bt _ i hi]
  show (bt (zi_shl (nI d) (nI 1)) i || _) = _
  unfold zi_shl
  rw [b_shl 1 (by decide) _ hi]
  cases i with
  | zero =>
    cases b
    · simp
    · simp
  | succ i =>
    rw [Nat.add_sub_cancel, zn_bt d i (by omega)]
    have e : (2 * d + (if b = true then 1 else 0)) / 2 ^ (i + 1) = d / 2 ^ i := by
      rw [Nat.pow_succ', ← Nat.div_div_eq_div_mul]
      congr 1
      split <;> omega
    have e2 : (if b = true then 1 else 0) / 2 ^ (i + 1) = 0 := by
      apply Nat.div_eq_of_lt
      have := Nat.one_lt_two_pow (n := i + 1) (by omega)
      split <;> omega
    rw [e, e2]
    simp
theorem zwd_w (σ : zA) {s k : Nat} (hk : 32 ≤ k) : nI (zdat (zbits σ) s k 0) = zwd σ (s + k - 32) := by
  apply b_ext
  intro i hi
  rw [zwd_bt _ _ hi, zn_bt _ i hi, zdat_bt _ k s 0 i (by omega)]
  congr 1
  omega
theorem zdat_snoc (f : Nat → Bool) : ∀ c s d, zdat f s (c + 1) d = 2 * zdat f s c d + (if f (s + c) = true then 1 else 0)
  | 0, s, d => rfl
  | c + 1, s, d => by
    show zdat f (s + 1) (c + 1) _ = 2 * zdat f (s + 1) c _ + _
    rw [zdat_snoc f c (s + 1), show s + 1 + c = s + (c + 1) by omega]
