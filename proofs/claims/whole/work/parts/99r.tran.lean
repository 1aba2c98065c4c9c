/-! transmit: both sides put the words on the air -/
/-- word j on the air, g the places -/
def zWd (g : Nat → Int32) (j : Nat) : Int32 := if j < 2 then -1431655766 else if (j - 2) % 17 = 0 then 2094142936 else g (16 * ((j - 2) / 17) + ((j - 2) % 17 - 1))
section ZTR6
variable {ac : Nat → Nat → Nat} {τ : zB} {am : Nat → Nat} {σ : zA} {w w2 : zw_T} {F m x : Nat}
theorem zc_s31 (hF : 2500 ≤ F) {b : Nat} (hb : b ≤ 4) (g : Nat → Int32) : ∀ c n t (τ : zB) (w : zw_T), t + c = b → c < n → zC ac τ w → zP0 τ → (∀ j, j < 2 + 17 * t → zb_I τ 102 0 j = zWd g j) → (∀ j, j < 64 → zb_I τ 101 0 j = g j) → ∃ w' f, zf_Ai_send_L31 F n w (ac 1 0) (some (ac 101 0)) (nI b) (nI (2 + 17 * t)) (nI t) = some w' ∧ zC ac (zb_sI (zb_sF τ 102 0 f) 1001 0 0 (nI (32 * (2 + 17 * b)))) w' ∧ ∀ j, j < 2 + 17 * b → f j = zWd g j := by
  intro c
  induction c with
  | zero =>
    intro n t τ w e1 e2 hC h0 hv hg
    obtain ⟨n, rfl⟩ : ∃ q, n = q + 1 := ⟨n - 1, by omega⟩
    have et : t = b := by omega
    subst et
    have c1 := zC_sI (zC_id (κ := 102) (i := 0) hC (zP0_a102 h0)) 1001 1 0 rfl (zP0_a1 h0) 0 (nI (32 * (2 + 17 * t)))
    refine ⟨_, zb_I τ 102 0, ?_, c1, hv⟩
    rw [zf_Ai_send_L31, if_pos ((nI_leI (by omega) (by omega)).mpr (by omega)), zC_at hC 1 0 (zP0_a1 h0), zlt_s, show nI (2 + 17 * t) * (32 : Int32) = nI (32 * (2 + 17 * t)) from (pk_mul _ 32).trans (by rw [Nat.mul_comm])]
  | succ c ih =>
    intro n t τ w e1 e2 hC h0 hv hg
    obtain ⟨n, rfl⟩ : ∃ q, n = q + 1 := ⟨n - 1, by omega⟩
    have c1 := zC_sI hC 102 102 0 rfl (zP0_a102 h0) (2 + 17 * t) 2094142936
    have c2 := zC_sF c1 102 102 0 rfl (zP0_a102 h0) (va_cpy (zb_I τ 101 0) (zb_I (zb_sI τ 102 0 (2 + 17 * t) 2094142936) 102 0) (16 * t) (2 + 17 * t + 1) 16)
    have e : zb_sF (zb_sI τ 102 0 (2 + 17 * t) 2094142936) 102 0 (va_cpy (zb_I τ 101 0) (zb_I (zb_sI τ 102 0 (2 + 17 * t) 2094142936) 102 0) (16 * t) (2 + 17 * t + 1) 16) = zb_sF τ 102 0 (va_cpy (zb_I τ 101 0) (zb_I (zb_sI τ 102 0 (2 + 17 * t) 2094142936) 102 0) (16 * t) (2 + 17 * t + 1) 16) := zb_sF_sF τ 102 0 _ _
    rw [e] at c2
    have h02 : zP0 (zb_sF τ 102 0 (va_cpy (zb_I τ 101 0) (zb_I (zb_sI τ 102 0 (2 + 17 * t) 2094142936) 102 0) (16 * t) (2 + 17 * t + 1) 16)) := h0
    have l101 := zP0_l101 h0
    have l102 := zP0_l102 h0
    obtain ⟨w', f, r1, r2, r3⟩ := ih n (t + 1) _ _ (by omega) (by omega) c2 h02 (fun j hj => by
      rw [zb_I_sF]
      unfold zWd
      by_cases z1 : 2 + 17 * t + 1 ≤ j
      · rw [pk_cpy_in z1 (by omega), if_neg (by omega), if_neg (by omega), hg _ (by omega)]
        congr 1
        omega
      · rw [pk_cpy_out (by omega), zb_I_sI]
        by_cases z2 : j = 2 + 17 * t
        · rw [if_pos ⟨rfl, rfl, z2⟩, if_neg (by omega), if_pos (by omega)]
        · rw [if_neg (fun z => z2 z.2.2), hv j (by omega)]
          rfl) (fun j hj => by
      refine Eq.trans ?_ (hg j hj)
      rfl)
    refine ⟨w', f, ?_, ?_, r3⟩
    · have c1' : zb_l (zb_sI τ 102 0 (2 + 17 * t) 2094142936) 101 0 = 64 := l101
      have c2' : zb_l (zb_sI τ 102 0 (2 + 17 * t) 2094142936) 102 0 = 70 := l102
      have eI : zb_I (zb_sI τ 102 0 (2 + 17 * t) 2094142936) 101 0 = zb_I τ 101 0 := rfl
      rw [zf_Ai_send_L31, if_neg (zn_le (by omega) (by omega) (by omega)), zC_at hC 1 0 (zP0_a1 h0), zs1, zlt_s, zC_R hC 1000 1 102 0 rfl rfl (zP0_a1 h0) (zP0_r1000 h0), zC_ix hC 102 0 (zP0_a102 h0) (by omega) (by omega), zlt_s, zC_at c1 1 0 (zP0_a1 h0), zC_R c1 1000 1 102 0 rfl rfl (zP0_a1 h0) (zP0_r1000 h0), show nI t * (16 : Int32) = nI (16 * t) from (pk_mul t 16).trans (by rw [Nat.mul_comm]), show (16 : Int32) = nI 16 from rfl, zC_cp c1 101 102 0 0 rfl rfl (zP0_a101 h0) (zP0_a102 h0) (by omega) (by omega) (by omega) (by omega), eI, nI_add, zlt_s, zs1, zlt_s, show 2 + 17 * t + 1 + 16 = 2 + 17 * (t + 1) by omega, r1]
    · rw [show zb_sF (zb_sF τ 102 0 (va_cpy (zb_I τ 101 0) (zb_I (zb_sI τ 102 0 (2 + 17 * t) 2094142936) 102 0) (16 * t) (2 + 17 * t + 1) 16)) 102 0 f = zb_sF τ 102 0 f from zb_sF_sF τ 102 0 _ f] at r2
      exact r2
theorem zc_snd (hF : 2500 ≤ F) (hC : zC ac τ w) (h0 : zP0 τ) {b : Nat} (hb : b ≤ 4) (g : Nat → Int32) (hg : ∀ j, j < 64 → zb_I τ 101 0 j = g j) : ∃ w' f, zf_Ai_send F w (ac 1 0) (some (ac 101 0)) (nI b) = some w' ∧ zC ac (zb_sI (zb_sF τ 102 0 f) 1001 0 0 (nI (32 * (2 + 17 * b)))) w' ∧ ∀ j, j < 2 + 17 * b → f j = zWd g j := by
  have l102 := zP0_l102 h0
  have c1 := zC_sI hC 102 102 0 rfl (zP0_a102 h0) 0 (-1431655766)
  have c2 := zC_sI c1 102 102 0 rfl (zP0_a102 h0) 1 (-1431655766)
  have h02 : zP0 (zb_sI (zb_sI τ 102 0 0 (-1431655766)) 102 0 1 (-1431655766)) := h0
  obtain ⟨w', f, r1, r2, r3⟩ := zc_s31 (F := F) hF hb g b F 0 _ _ (by omega) (by omega) c2 h02 (fun j hj => by
    unfold zWd
    rw [if_pos (by omega), zb_I_sI, zb_I_sI]
    by_cases z1 : j = 1
    · rw [if_pos ⟨rfl, rfl, z1⟩]
    · rw [if_neg (fun z => z1 z.2.2), if_pos ⟨rfl, rfl, by omega⟩]) (fun j hj => by
      refine Eq.trans ?_ (hg j hj)
      rfl)
  refine ⟨w', f, ?_, ?_, r3⟩
  · obtain ⟨n, rfl⟩ : ∃ q, F = q + 1 + 1 + 1 := ⟨F - 3, by omega⟩
    unfold zf_Ai_send
    rw [zlt_s, zlt_s, zf_Ai_send_L5, if_neg (by decide), zC_at hC 1 0 (zP0_a1 h0), show (0 : Int32) = nI 0 from rfl, zs1, zlt_s, zC_R hC 1000 1 102 0 rfl rfl (zP0_a1 h0) (zP0_r1000 h0), zC_ix hC 102 0 (zP0_a102 h0) (by omega) (by omega), zlt_s, zlt_s, zf_Ai_send_L5, if_neg (by decide), zC_at c1 1 0 (zP0_a1 h0), zs1, zlt_s, zC_R c1 1000 1 102 0 rfl rfl (zP0_a1 h0) (zP0_r1000 h0), zC_ix c1 102 0 (zP0_a102 h0) (show 0 + 1 < zb_l τ 102 0 by omega) (by omega), zlt_s, zlt_s, zf_Ai_send_L5, if_pos (by decide), zlt_s]
    exact r1
  · rw [show zb_sF (zb_sI (zb_sI τ 102 0 0 (-1431655766)) 102 0 1 (-1431655766)) 102 0 f = zb_sF τ 102 0 f from (zb_sF_sF _ 102 0 _ f).trans (zb_sF_sF τ 102 0 _ f)] at r2
    exact r2
/-! the model's bits -/
/-- r words are on the air -/
def zTR (g : Nat → Int32) (σ0 : zA) (r : Nat) (σ : zA) : Prop := zN σ 1592 0 = 32 * r ∧ (∀ i, i < 32 * r → decide (zN σ 130 i = 1) = bt (zWd g (i / 32)) (31 - i % 32)) ∧ (∀ i, zN σ 130 i < 2) ∧ (∀ κ j, κ ≠ 130 → ¬ (κ = 1592 ∧ j = 0) → zN σ κ j = zN σ0 κ j) ∧ zJ σ = zJ σ0 ∧ zQ σ = zQ σ0
theorem zo_snL {v : Int32} {N : Nat} (hN : N ≤ 2240) : ∀ c (σ : zA), zN σ 1592 0 + c = N → c ≤ 32 → (∀ i, zN σ 130 i < 2) → ∃ σ', zN σ' 1592 0 = N ∧ (∀ i, i < N - c → zN σ' 130 i = zN σ 130 i) ∧ (∀ i, i < c → decide (zN σ' 130 (N - c + i) = 1) = bt v (c - 1 - i)) ∧ (∀ i, zN σ' 130 i < 2) ∧ (∀ κ j, κ ≠ 130 → ¬ (κ = 1592 ∧ j = 0) → zN σ' κ j = zN σ κ j) ∧ zJ σ' = zJ σ ∧ zQ σ' = zQ σ ∧ ∀ w, zM m am σ w → ∃ w', zM m am σ' w' ∧ ∀ n, c < n → zf_Mo_send_L3 F n w m v (nI c + (-1)) = some w' := by
  intro c
  induction c with
  | zero =>
    intro σ e1 e2 h1
    refine ⟨σ, by omega, fun i _ => rfl, fun i hi => absurd hi (Nat.not_lt_zero i), h1, fun κ j _ _ => rfl, rfl, rfl, fun w h => ⟨w, h, fun n hn => ?_⟩⟩
    obtain ⟨n, rfl⟩ : ∃ q, n = q + 1 := ⟨n - 1, by omega⟩
    rw [zf_Mo_send_L3, if_pos (by decide)]
  | succ c ih =>
    intro σ e1 e2 h1
    have eN : ∀ i, zN (zN_s (zN_s σ 130 (zN σ 1592 0) (if bt v c = true then 1 else 0)) 1592 0 (zN σ 1592 0 + 1)) 130 i = if 130 = 130 ∧ i = zN σ 1592 0 then (if bt v c = true then 1 else 0) else zN σ 130 i := fun i => rfl
    obtain ⟨σ', s1, s2, s3, s4, s5, s6, s7, s8⟩ := ih (zN_s (zN_s σ 130 (zN σ 1592 0) (if bt v c = true then 1 else 0)) 1592 0 (zN σ 1592 0 + 1)) (show zN σ 1592 0 + 1 + c = N by omega) (by omega) (fun i => by
      rw [eN]
      split
      · split <;> decide
      · exact h1 i)
    refine ⟨σ', s1, fun i hi => ?_, fun i hi => ?_, s4, fun κ j k1 k2 => ?_, s6, s7, fun w h => ?_⟩
    · rw [s2 i (by omega), eN, if_neg (by omega)]
    · by_cases hz : i = 0
      · subst hz
        rw [s2 _ (by omega), eN, if_pos ⟨rfl, by omega⟩, show c + 1 - 1 - 0 = c by omega]
        cases bt v c
        · rfl
        · rfl
      · have := s3 (i - 1) (by omega)
        rw [show N - c + (i - 1) = N - (c + 1) + i by omega, show c - 1 - (i - 1) = c + 1 - 1 - i by omega] at this
        exact this
    · rw [s5 κ j k1 k2]
      show (if κ = 1592 ∧ j = 0 then _ else if κ = 130 ∧ j = _ then _ else zN σ κ j) = _
      rw [if_neg k2, if_neg (fun z => k1 z.1)]
    · have m1 := zM_sn h 130 (by decide) (zN σ 1592 0) (if bt v c = true then 1 else 0)
      have m2 := zM_sfn m1 1592 (by decide) (by decide) (zN σ 1592 0 + 1)
      obtain ⟨w', t1, t2⟩ := s8 _ m2
      refine ⟨w', t1, fun n hn => ?_⟩
      obtain ⟨n, rfl⟩ : ∃ q, n = q + 1 := ⟨n - 1, by omega⟩
      have eb : (if bt v c = true then (1 : Int32) else 0) = nI (if bt v c = true then 1 else 0) := by split <;> rfl
      have g1 : zw_I _ 1592 m 0 = nI (zN σ 1592 0) := zM_fn m1 1592 (by decide) (by decide)
      rw [pk_m1, zf_Mo_send_L3, if_neg (nI_pos (by omega)), zM_at h, zM_at h, zM_R h 1591 130 2240 (by decide), zM_fn h 1592 (by decide) (by decide), zM_ix h 1591 130 2240 (by decide) (by omega) (by decide), zn_s1 _ (by omega), eb, zlt_s, zM_at m1, zM_at m1, g1, zs1, zlt_s, zlt_s, t2 n (by omega)]
theorem zo_snd (hF : 2500 ≤ F) {g : Nat → Int32} {σ0 : zA} {r : Nat} (hT : zTR g σ0 r σ) (hr : r < 70) {v : Int32} (hv : v = zWd g r) : ∃ σ', zTR g σ0 (r + 1) σ' ∧ ∀ w, zM m am σ w → ∃ w', zM m am σ' w' ∧ zf_Mo_send F w m v = some w' := by
  obtain ⟨t1, t2, t3, t4, t5, t6⟩ := hT
  obtain ⟨σ', s1, s2, s3, s4, s5, s6, s7, s8⟩ := zo_snL (m := m) (am := am) (F := F) (v := v) (N := 32 * (r + 1)) (by omega) 32 σ (by omega) (by omega) t3
  refine ⟨σ', ⟨s1, fun i hi => ?_, s4, fun κ j k1 k2 => (s5 κ j k1 k2).trans (t4 κ j k1 k2), s6.trans t5, s7.trans t6⟩, fun w h => ?_⟩
  · by_cases hz : i < 32 * r
    · rw [s2 i (by omega), t2 i hz]
    · have := s3 (i - 32 * r) (by omega)
      rw [show 32 * (r + 1) - 32 + (i - 32 * r) = i by omega] at this
      rw [this, hv, show i / 32 = r by omega, show 32 - 1 - (i - 32 * r) = 31 - i % 32 by omega]
  · obtain ⟨w', u1, u2⟩ := s8 w h
    refine ⟨w', u1, ?_⟩
    unfold zf_Mo_send
    rw [zlt_s]
    exact u2 F (by omega)
/-- the batches -/
theorem zo_s173 (hF : 2500 ≤ F) {g : Nat → Int32} {σ0 : zA} {b : Nat} (hb : b ≤ 4) (hg : ∀ j, j < 64 → zJ σ0 129 j = g j) : ∀ c q (σ : zA), q + c = 16 * b → zTR g σ0 (2 + q + (q + 15) / 16) σ → ∃ σ', zTR g σ0 (2 + 17 * b) σ' ∧ ∀ w, zM m am σ w → ∃ w', zM m am σ' w' ∧ ∀ n, c < n → zf_Mo_transmit_L173 F n w m (nI b) (nI q) = some (nI (32 * (2 + 17 * b)), w') := by
  intro c
  induction c with
  | zero =>
    intro q σ e1 hT
    rw [show 2 + q + (q + 15) / 16 = 2 + 17 * b by omega] at hT
    refine ⟨σ, hT, fun w h => ⟨w, h, fun n hn => ?_⟩⟩
    obtain ⟨n, rfl⟩ : ∃ q, n = q + 1 := ⟨n - 1, by omega⟩
    rw [zf_Mo_transmit_L173, show (16 : Int32) * nI b = nI (16 * b) from pk_mul 16 b, if_pos ((nI_leI (by omega) (by omega)).mpr (by omega)), zM_at h, zM_fn h 1592 (by decide) (by decide), hT.1]
  | succ c ih =>
    intro q σ e1 hT
    -- the sync word, if one is due
    have h1 : ∃ σ1, zTR g σ0 (2 + q + q / 16 + 1) σ1 ∧ ∀ w, zM m am σ w → ∃ w1, zM m am σ1 w1 ∧ ∀ n, zf_Mo_transmit_L173 F (n + 1) w m (nI b) (nI q) = zf_Mo_transmit_j194 F (zf_Mo_transmit_L173 F n) w1 m (nI b) (nI q) := by
      by_cases hz : q % 16 = 0
      · obtain ⟨σ1, u1, u2⟩ := zo_snd (m := m) (am := am) hF hT (by omega) (v := 2094142936) (by
          unfold zWd
          rw [if_neg (by omega), if_pos (by omega)])
        rw [show 2 + q + (q + 15) / 16 = 2 + q + q / 16 by omega] at u1
        refine ⟨σ1, u1, fun w h => ?_⟩
        obtain ⟨w1, v1, v2⟩ := u2 w h
        refine ⟨w1, v1, fun n => ?_⟩
        rw [zf_Mo_transmit_L173, show (16 : Int32) * nI b = nI (16 * b) from pk_mul 16 b, if_neg (zn_le (by omega) (by omega) (by omega)), show zi_rem (nI q) (16 : Int32) = nI (q % 16) from zq_rem (by omega) (by decide) (by decide), if_pos ((zn_z (by omega)).mpr hz), zM_at h, v2, zbv_s]
      · rw [show 2 + q + (q + 15) / 16 = 2 + q + q / 16 + 1 by omega] at hT
        refine ⟨σ, hT, fun w h => ⟨w, h, fun n => ?_⟩⟩
        rw [zf_Mo_transmit_L173, show (16 : Int32) * nI b = nI (16 * b) from pk_mul 16 b, if_neg (zn_le (by omega) (by omega) (by omega)), show zi_rem (nI q) (16 : Int32) = nI (q % 16) from zq_rem (by omega) (by decide) (by decide), if_neg (fun z => hz ((zn_z (by omega)).mp z))]
    obtain ⟨σ1, u1, u2⟩ := h1
    obtain ⟨σ2, x1, x2⟩ := zo_snd (m := m) (am := am) hF u1 (by omega) (v := zJ σ1 129 q) (by
      rw [u1.2.2.2.2.1, hg q (by omega)]
      unfold zWd
      rw [if_neg (by omega), if_neg (by omega)]
      congr 1
      omega)
    rw [show 2 + q + q / 16 + 1 + 1 = 2 + (q + 1) + (q + 1 + 15) / 16 by omega] at x1
    obtain ⟨σ', y1, y2⟩ := ih (q + 1) σ2 (by omega) x1
    refine ⟨σ', y1, fun w h => ?_⟩
    obtain ⟨w1, v1, v2⟩ := u2 w h
    obtain ⟨w2, v3, v4⟩ := x2 w1 v1
    obtain ⟨w3, v5, v6⟩ := y2 w2 v3
    refine ⟨w3, v5, fun n hn => ?_⟩
    obtain ⟨n, rfl⟩ : ∃ q, n = q + 1 := ⟨n - 1, by omega⟩
    rw [v2]
    unfold zf_Mo_transmit_j194
    rw [zM_at v1, zM_R v1 1589 129 64 (by decide), zM_ix v1 1589 129 64 (by decide) (by omega) (by decide), zM_at v1, zM_j v1 129 (by decide), v4, zbv_s, zs1, zlt_s, v6 n (by omega)]
end ZTR6
