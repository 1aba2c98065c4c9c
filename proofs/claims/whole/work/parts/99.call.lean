/-! call: the checks, and the model's side -/
def zbad (σ : zA) (i j : Nat) : Bool := if zN σ 121 i = 0 then decide (¬ zJ σ 128 j ≤ 11) else decide (¬ (32 : Int32) ≤ zJ σ 128 j)
/-- signs copied to message k, c of them from t on -/
def zcpS (k : Nat) : Nat → Nat → zA → zA
  | 0, _, σ => σ
  | c + 1, t, σ => zcpS k c (t + 1) (zJ_s σ 127 (20 * k + t) (zJ σ 128 t))
theorem zcp_N (k : Nat) : ∀ c t σ, zN (zcpS k c t σ) = zN σ
  | 0, _, _ => rfl
  | c + 1, t, σ => (zcp_N k c (t + 1) _).trans rfl
theorem zcp_Q (k : Nat) : ∀ c t σ, zQ (zcpS k c t σ) = zQ σ
  | 0, _, _ => rfl
  | c + 1, t, σ => (zcp_Q k c (t + 1) _).trans rfl
theorem zcp_J (k : Nat) : ∀ c t σ κ j, zJ (zcpS k c t σ) κ j = if κ = 127 ∧ 20 * k + t ≤ j ∧ j < 20 * k + t + c then zJ σ 128 (j - 20 * k) else zJ σ κ j
  | 0, t, σ, κ, j => by
    rw [if_neg (by omega)]
    rfl
  | c + 1, t, σ, κ, j => by
    show zJ (zcpS k c (t + 1) (zJ_s σ 127 (20 * k + t) (zJ σ 128 t))) κ j = _
    rw [zcp_J k c (t + 1) _ κ j]
    have e1 : ∀ q, zJ (zJ_s σ 127 (20 * k + t) (zJ σ 128 t)) 128 q = zJ σ 128 q := fun q => rfl
    have e2 : zJ (zJ_s σ 127 (20 * k + t) (zJ σ 128 t)) κ j = if κ = 127 ∧ j = 20 * k + t then zJ σ 128 t else zJ σ κ j := rfl
    rw [e1, e2]
    by_cases hk : κ = 127
    · by_cases hj : j = 20 * k + t
      · rw [if_neg (by omega), if_pos ⟨hk, hj⟩, if_pos ⟨hk, by omega, by omega⟩, show j - 20 * k = t by omega]
      · by_cases hr : 20 * k + (t + 1) ≤ j ∧ j < 20 * k + (t + 1) + c
        · rw [if_pos ⟨hk, hr⟩, if_pos ⟨hk, by omega, by omega⟩]
        · rw [if_neg (fun z => hr z.2), if_neg (fun z => hj z.2), if_neg (fun z => by omega)]
    · rw [if_neg (fun z => hk z.1), if_neg (fun z => hk z.1), if_neg (fun z => hk z.1)]
/-- the numbers with a message more, but its signs -/
def zca1 (σ : zA) (i pr : Nat) : zA := zN_s (zN_s (zN_s (zN_s (zN_s (zN_s σ 1580 0 (zN σ 1580 0 + 1)) 123 (zN σ 1580 0) i) 124 (zN σ 1580 0) pr) 125 (zN σ 1580 0) (zN σ 122 i % 64)) 122 i (zN σ 122 i + 1)) 126 (zN σ 1580 0) (zN σ 1588 0)
def zcaS (σ : zA) (i pr : Nat) : zA := zN_s (zN_s (zcpS (zN σ 1580 0) (zN σ 1588 0) 0 (zca1 σ i pr)) 200 (zN σ 1580 0) 1) 1588 0 0
section ZCALL
variable {ac : Nat → Nat → Nat} {τ : zB} {am : Nat → Nat} {σ : zA} {w w2 : zw_T} {F m x : Nat}
theorem zc_alL (hC : zC ac τ w) (hI : zI σ) (h0 : zP0 τ) (h1 : zP1 τ σ) (h6 : zP6 τ σ) {i : Nat} (hi : i < zN σ 1576 0) : ∀ c n k, k + c = zN σ 1588 0 → c < n → zf_WP_areLoadedSignsOf_L2 F n w (ac 9 0) (some (ac 3 i)) (nI k) = some (zd (!zany (zbad σ i) k c && decide (0 < zN σ 1588 0)), w) := by
  have i1 := zI_ldn hI
  have a3 := zp_a3 h1 hi
  intro c
  induction c with
  | zero =>
    intro n k e1 e2
    obtain ⟨n, rfl⟩ : ∃ q, n = q + 1 := ⟨n - 1, by omega⟩
    unfold zf_WP_areLoadedSignsOf_L2
    rw [zC_at hC 9 0 (zP0_a9 h0), zC_I hC 1520 9 0 rfl (zP0_a9 h0), zP6_n h6, if_pos ((nI_leI (by omega) (by omega)).mpr (by omega)), zC_at hC 9 0 (zP0_a9 h0), zC_I hC 1520 9 0 rfl (zP0_a9 h0), zP6_n h6]
    unfold zany
    by_cases hq : zN σ 1588 0 = 0
    · rw [hq, if_pos (by decide), zb_0]
      rfl
    · rw [if_neg (show ¬ nI (zN σ 1588 0) ≤ (0 : Int32) from zn_le (b := 0) (by omega) (by decide) (by omega)), zb_1, decide_eq_true (by omega : 0 < zN σ 1588 0)]
      rfl
  | succ c ih =>
    intro n k e1 e2
    obtain ⟨n, rfl⟩ : ∃ q, n = q + 1 := ⟨n - 1, by omega⟩
    have hk : k < zN σ 1588 0 := by omega
    obtain ⟨l1, l2⟩ := zI_ld hI k hk
    unfold zf_WP_areLoadedSignsOf_L2
    rw [zC_at hC 9 0 (zP0_a9 h0), zC_I hC 1520 9 0 rfl (zP0_a9 h0), zP6_n h6, if_neg (zn_le (by omega) (by omega) (by omega)), zC_at hC 9 0 (zP0_a9 h0), zC_R hC 1519 9 100 0 rfl rfl (zP0_a9 h0) (zP0_r1519 h0), zC_ix hC 100 0 (zP0_a100 h0) (by rw [zP0_l100 h0]; omega) (by omega), zC_at hC 3 i a3, zC_I hC 100 100 0 rfl (zP0_a100 h0), zP6_d h6 k hk, zC_I hC 1133 3 i rfl a3, zP1_lo h1 i hi]
    unfold zany
    have nx := ih n (k + 1) (by omega) (by omega)
    by_cases hz : zN σ 121 i = 0
    · have e0 : zbad σ i k = decide (¬ zJ σ 128 k ≤ 11) := if_pos hz
      rw [if_pos hz, if_neg (show ¬ zJ σ 128 k < nI 0 from l1), zC_at hC 9 0 (zP0_a9 h0), zC_R hC 1519 9 100 0 rfl rfl (zP0_a9 h0) (zP0_r1519 h0), zC_ix hC 100 0 (zP0_a100 h0) (by rw [zP0_l100 h0]; omega) (by omega), zC_at hC 3 i a3, zC_I hC 100 100 0 rfl (zP0_a100 h0), zP6_d h6 k hk, zC_I hC 1134 3 i rfl a3, zP1_hi h1 i hi, if_pos hz, e0]
      by_cases hb : zJ σ 128 k ≤ 11
      · rw [if_pos (show zJ σ 128 k ≤ nI 11 from hb), zlt_s, zs1, nx, decide_eq_false (not_not_intro hb), Bool.false_or]
      · rw [if_neg (show ¬ zJ σ 128 k ≤ nI 11 from hb), zb_0, decide_eq_true hb, Bool.true_or]
        rfl
    · have e0 : zbad σ i k = decide (¬ (32 : Int32) ≤ zJ σ 128 k) := if_neg hz
      rw [if_neg hz, e0]
      by_cases hb : (32 : Int32) ≤ zJ σ 128 k
      · rw [if_neg (show ¬ zJ σ 128 k < nI 32 from fun q => Int32.not_lt.mpr hb q), zC_at hC 9 0 (zP0_a9 h0), zC_R hC 1519 9 100 0 rfl rfl (zP0_a9 h0) (zP0_r1519 h0), zC_ix hC 100 0 (zP0_a100 h0) (by rw [zP0_l100 h0]; omega) (by omega), zC_at hC 3 i a3, zC_I hC 100 100 0 rfl (zP0_a100 h0), zP6_d h6 k hk, zC_I hC 1134 3 i rfl a3, zP1_hi h1 i hi, if_neg hz, if_pos (show zJ σ 128 k ≤ nI 126 from l2), zlt_s, zs1, nx, decide_eq_false (not_not_intro hb), Bool.false_or]
      · rw [if_pos (show zJ σ 128 k < nI 32 from Int32.not_le.mp hb), zb_0, decide_eq_true hb, Bool.true_or]
        rfl
theorem zo_cpL (k : Nat) (hk : k < 200) : ∀ c n t (σ : zA) (w : zw_T), t + c = zN σ 1588 0 → zN σ 1588 0 ≤ 20 → c < n → zM m am σ w → ∃ w', zf_Mo_call_L164 F n w m (nI k) (nI t) = some (nI (zN σ 125 k), w') ∧ zM m am (zN_s (zN_s (zcpS k c t σ) 200 k 1) 1588 0 0) w' := by
  intro c
  induction c with
  | zero =>
    intro n t σ w e1 e3 e2 h
    obtain ⟨n, rfl⟩ : ∃ q, n = q + 1 := ⟨n - 1, by omega⟩
    have m1 := zM_sn h 200 (by decide) k 1
    have m2 := zM_sfn m1 1588 (by decide) (by decide) 0
    refine ⟨_, ?_, m2⟩
    have k1 : zN (zN_s (zN_s σ 200 k 1) 1588 0 0) 125 k = zN σ 125 k := rfl
    unfold zf_Mo_call_L164
    rw [zM_at h, zM_fn h 1588 (by decide) (by decide), if_pos ((nI_leI (by omega) (by omega)).mpr (by omega)), zM_at h, zM_R h 1586 200 200 (by decide), zM_ix h 1586 200 200 (by decide) hk (by decide), zlt_s, show vp_nar .boolean (1 : Int32) = nI 1 from by decide, zM_at m1, zlt_s, show (0 : Int32) = nI 0 from rfl, zM_at m2, zM_R m2 1583 125 200 (by decide), zM_ix m2 1583 125 200 (by decide) hk (by decide), zM_n m2 125 (by decide), k1]
  | succ c ih =>
    intro n t σ w e1 e3 e2 h
    obtain ⟨n, rfl⟩ : ∃ q, n = q + 1 := ⟨n - 1, by omega⟩
    have m1 := zM_sj h 127 (by decide) (20 * k + t) (zJ σ 128 t)
    obtain ⟨w', r1, r2⟩ := ih n (t + 1) (zJ_s σ 127 (20 * k + t) (zJ σ 128 t)) _ (show t + 1 + c = zN σ 1588 0 by omega) e3 (by omega) m1
    refine ⟨w', ?_, r2⟩
    unfold zf_Mo_call_L164
    rw [zM_at h, zM_fn h 1588 (by decide) (by decide), if_neg (zn_le (by omega) (by omega) (by omega)), zM_at h, zM_at h, zM_R h 1587 128 20 (by decide), zM_ix h 1587 128 20 (by decide) (by omega) (by decide), zM_R h 1585 127 4000 (by decide), show (20 : Int32) = nI 20 from rfl, zmd, zM_ix h 1585 127 4000 (by decide) (by omega) (by decide), zM_j h 128 (by decide), zlt_s, zlt_s, zs1, r1]
    rfl
end ZCALL
