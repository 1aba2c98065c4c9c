/-! transmit: both sides clear their places -/
def zclS (σ : zA) (j i : Nat) : zA := ((fun κ q => if κ = 201 ∧ q < j then 0 else zN σ κ q), (fun κ q => if κ = 129 ∧ q < j then 2055848343 else if κ = 141 ∧ q < i then 0 else zJ σ κ q), zQ σ)
theorem zcl_0 (σ : zA) : zclS σ 0 0 = σ := by
  refine Prod.ext ?_ (Prod.ext ?_ rfl)
  · funext κ q
    exact if_neg (by omega)
  · funext κ q
    show (if κ = 129 ∧ q < 0 then 2055848343 else if κ = 141 ∧ q < 0 then 0 else zJ σ κ q) = zJ σ κ q
    rw [if_neg (by omega), if_neg (by omega)]
theorem zcl_1 (σ : zA) (j : Nat) : zJ_s (zN_s (zclS σ j 0) 201 j 0) 129 j 2055848343 = zclS σ (j + 1) 0 := by
  refine Prod.ext ?_ (Prod.ext ?_ rfl)
  · funext κ q
    show (if κ = 201 ∧ q = j then 0 else if κ = 201 ∧ q < j then 0 else zN σ κ q) = (if κ = 201 ∧ q < j + 1 then 0 else zN σ κ q)
    by_cases h1 : κ = 201 ∧ q = j
    · rw [if_pos h1, if_pos (by omega)]
    · rw [if_neg h1]
      by_cases h2 : κ = 201 ∧ q < j
      · rw [if_pos h2, if_pos (by omega)]
      · rw [if_neg h2, if_neg (by omega)]
  · funext κ q
    show (if κ = 129 ∧ q = j then 2055848343 else if κ = 129 ∧ q < j then 2055848343 else if κ = 141 ∧ q < 0 then 0 else zJ σ κ q) = (if κ = 129 ∧ q < j + 1 then 2055848343 else if κ = 141 ∧ q < 0 then 0 else zJ σ κ q)
    by_cases h1 : κ = 129 ∧ q = j
    · rw [if_pos h1, if_pos (by omega)]
    · rw [if_neg h1]
      by_cases h2 : κ = 129 ∧ q < j
      · rw [if_pos h2, if_pos (by omega)]
      · rw [if_neg h2, if_neg (show ¬ (κ = 129 ∧ q < j + 1) by omega)]
theorem zcl_2 (σ : zA) (j i : Nat) : zJ_s (zclS σ j i) 141 i 0 = zclS σ j (i + 1) := by
  refine Prod.ext rfl (Prod.ext ?_ rfl)
  funext κ q
  show (if κ = 141 ∧ q = i then 0 else if κ = 129 ∧ q < j then 2055848343 else if κ = 141 ∧ q < i then 0 else zJ σ κ q) = (if κ = 129 ∧ q < j then 2055848343 else if κ = 141 ∧ q < i + 1 then 0 else zJ σ κ q)
  by_cases h1 : κ = 141 ∧ q = i
  · rw [if_pos h1, if_neg (by omega), if_pos (by omega)]
  · rw [if_neg h1]
    by_cases h2 : κ = 129 ∧ q < j
    · rw [if_pos h2, if_pos h2]
    · rw [if_neg h2, if_neg h2]
      by_cases h3 : κ = 141 ∧ q < i
      · rw [if_pos h3, if_pos (by omega)]
      · rw [if_neg h3, if_neg (by omega)]
theorem zC_id {ac : Nat → Nat → Nat} {τ : zB} {w : zw_T} {κ i : Nat} (hC : zC ac τ w) (ha : zb_a τ κ i = true) : zC ac (zb_sF τ κ i (zb_I τ κ i)) w := by
  have e : zb_sF τ κ i (zb_I τ κ i) = τ := by
    unfold zb_sF
    have : (fun k' a => if k' = κ ∧ a = i then zb_I τ κ i else τ.2.1 k' a) = τ.2.1 := by
      funext k' a
      by_cases h : k' = κ ∧ a = i
      · rw [if_pos h, h.1, h.2]
        rfl
      · rw [if_neg h]
    rw [this]
  rw [e]
  exact hC
section ZTR5
variable {ac : Nat → Nat → Nat} {τ : zB} {am : Nat → Nat} {σ : zA} {w w2 : zw_T} {F m x : Nat}
theorem zo_q14 {y : Int32} : ∀ c n j w, j + c = 64 → c < n → zM m am (zclS σ j 0) w → ∃ w', zM m am (zclS σ 64 0) w' ∧ zf_Mo_transmit_L14 F n w m y (nI j) = zf_Mo_transmit_L43 F F w' m y 0 := by
  intro c
  induction c with
  | zero =>
    intro n j w e1 e2 h
    obtain ⟨n, rfl⟩ : ∃ q, n = q + 1 := ⟨n - 1, by omega⟩
    have ej : j = 64 := by omega
    subst ej
    refine ⟨w, h, ?_⟩
    rw [zf_Mo_transmit_L14, if_pos (by decide), zlt_s]
  | succ c ih =>
    intro n j w e1 e2 h
    obtain ⟨n, rfl⟩ : ∃ q, n = q + 1 := ⟨n - 1, by omega⟩
    have m1 := zM_sn h 201 (by decide) j 0
    have m2 := zM_sj m1 129 (by decide) j 2055848343
    have m3 := m2
    rw [zcl_1] at m3
    obtain ⟨w', r1, r2⟩ := ih n (j + 1) _ (by omega) (by omega) m3
    refine ⟨w', r1, ?_⟩
    rw [zf_Mo_transmit_L14, if_neg (show ¬ (64 : Int32) ≤ nI j from zn_le (a := 64) (by decide) (by omega) (by omega)), zM_at h, zM_R h 1590 201 64 (by decide), zM_ix h 1590 201 64 (by decide) (by omega) (by decide), zlt_s, show vp_nar .boolean (0 : Int32) = nI 0 from by decide, zM_at m1, zM_R m1 1589 129 64 (by decide), zM_ix m1 1589 129 64 (by decide) (by omega) (by decide), zlt_s, zlt_s, zs1, r2]
theorem zo_c43 {y : Int32} : ∀ c n j w, j + c = 12 → c < n → zM m am (zclS σ 64 j) w → ∃ w', zM m am (zclS σ 64 12) w' ∧ zf_Mo_transmit_L43 F n w m y (nI j) = zf_Mo_transmit_L64 F F w' m y 3 := by
  intro c
  induction c with
  | zero =>
    intro n j w e1 e2 h
    obtain ⟨n, rfl⟩ : ∃ q, n = q + 1 := ⟨n - 1, by omega⟩
    have ej : j = 12 := by omega
    subst ej
    refine ⟨w, h, ?_⟩
    rw [zf_Mo_transmit_L43, if_pos (by decide), zlt_s]
  | succ c ih =>
    intro n j w e1 e2 h
    obtain ⟨n, rfl⟩ : ∃ q, n = q + 1 := ⟨n - 1, by omega⟩
    have m1 := zM_sj h 141 (by decide) j 0
    have m3 := m1
    rw [zcl_2] at m3
    obtain ⟨w', r1, r2⟩ := ih n (j + 1) _ (by omega) (by omega) m3
    refine ⟨w', r1, ?_⟩
    rw [zf_Mo_transmit_L43, if_neg (show ¬ (12 : Int32) ≤ nI j from zn_le (a := 12) (by decide) (by omega) (by omega)), zM_at h, zM_R h 1612 141 24 (by decide), zM_ix h 1612 141 24 (by decide) (by omega) (by decide), zlt_s, zlt_s, zs1, r2]
theorem zo_cl (hF : 2500 ≤ F) (h : zM m am σ w) {y : Int32} : ∃ w', zM m am (zclS σ 64 12) w' ∧ zf_Mo_transmit_L14 F F w m y 0 = zf_Mo_transmit_L64 F F w' m y 3 := by
  have h' := h
  rw [← zcl_0 σ] at h'
  obtain ⟨w1, r1, r2⟩ := zo_q14 (F := F) (y := y) 64 F 0 w (by omega) (by omega) h'
  obtain ⟨w', s1, s2⟩ := zo_c43 (F := F) (y := y) 12 F 0 w1 (by omega) (by omega) r1
  exact ⟨w', s1, r2.trans s2⟩
/-- Arrays.fill -/
theorem zc_fil {v : Int32} : ∀ c n j (τ : zB) (w : zw_T), j + c = 64 → c < n → zC ac τ w → zb_a τ 101 0 = true → zb_l τ 101 0 = 64 → (∀ q, q < j → zb_I τ 101 0 q = v) → ∃ w' f, zf_Ar_fill_L5 F n w (some (ac 101 0)) v (nI j) (nI 64) = some w' ∧ zC ac (zb_sF τ 101 0 f) w' ∧ ∀ q, q < 64 → f q = v := by
  intro c
  induction c with
  | zero =>
    intro n j τ w e1 e2 hC a1 l1 hv
    obtain ⟨n, rfl⟩ : ∃ q, n = q + 1 := ⟨n - 1, by omega⟩
    refine ⟨_, zb_I τ 101 0, ?_, zC_id hC a1, fun q hq => hv q (by omega)⟩
    rw [zf_Ar_fill_L5, if_pos ((nI_leI (by omega) (by omega)).mpr (by omega))]
  | succ c ih =>
    intro n j τ w e1 e2 hC a1 l1 hv
    obtain ⟨n, rfl⟩ : ∃ q, n = q + 1 := ⟨n - 1, by omega⟩
    have c1 := zC_sI hC 101 101 0 rfl a1 j v
    obtain ⟨w', f, r1, r2, r3⟩ := ih n (j + 1) _ _ (by omega) (by omega) c1 a1 l1 (fun q hq => by
      rw [zb_I_sI]
      by_cases hz : q = j
      · rw [if_pos ⟨rfl, rfl, hz⟩]
      · rw [if_neg (fun z => hz z.2.2)]
        exact hv q (by omega))
    refine ⟨w', f, ?_, ?_, r3⟩
    · rw [zf_Ar_fill_L5, if_neg (zn_le (by omega) (by omega) (by omega)), zC_ix hC 101 0 a1 (by omega) (by omega), zlt_s, zlt_s, zs1, r1]
    · have e : zb_sF (zb_sI τ 101 0 j v) 101 0 f = zb_sF τ 101 0 f := zb_sF_sF τ 101 0 _ f
      rw [e] at r2
      exact r2
theorem zc_clr (hF : 2500 ≤ F) (hC : zC ac τ w) (h0 : zP0 τ) {b : Nat} : ∃ w' f, zf_Ly_clear F w (ac 4 0) (nI b) = some w' ∧ zC ac (zb_sI (zb_sF τ 101 0 f) 1193 0 0 (nI (16 * b))) w' ∧ ∀ q, q < 64 → f q = 2055848343 := by
  have et : (zw_ty w (ac 101 0)).2 = 64 := by rw [(hC.1 101 0 (zP0_a101 h0)).1, zP0_l101 h0]
  obtain ⟨w1, f, r1, r2, r3⟩ := zc_fil (F := F) (v := 2055848343) 64 F 0 τ w (by omega) (by omega) hC (zP0_a101 h0) (zP0_l101 h0) (fun q hq => absurd hq (Nat.not_lt_zero q))
  have c2 := zC_sI r2 1193 4 0 rfl (zP0_a4 h0) 0 (nI (16 * b))
  refine ⟨_, f, ?_, c2, r3⟩
  have r1 : zf_Ar_fill_L5 F F w (some (ac 101 0)) 2055848343 (0 : Int32) (nI 64) = some w1 := r1
  unfold zf_Ly_clear
  rw [zC_at hC 4 0 (zP0_a4 h0), zC_R hC 1192 4 101 0 rfl rfl (zP0_a4 h0) (zP0_r1192 h0)]
  unfold zf_Ar_fill
  rw [zlt_s, zC_at hC 101 0 (zP0_a101 h0), et, zlt_s, r1, zbv_s, zC_at r2 4 0 (zP0_a4 h0), zlt_s, show nI b * (16 : Int32) = nI (16 * b) from (pk_mul b 16).trans (by rw [Nat.mul_comm])]
theorem zc_l10 (hF : 2500 ≤ F) : ∀ c n j (τ : zB) (w : zw_T), j + c = zN σ 1576 0 → zN σ 1576 0 ≤ 12 → c < n → zC ac τ w → zP τ σ → (∀ i, i < j → zb_I τ 1138 i 0 = 0) → ∃ τ' w', zf_WP_layMessages_L10 F n w (ac 9 0) (nI j) = zf_WP_layMessages_L36 F F w' (ac 9 0) 3 ∧ zC ac τ' w' ∧ zP τ' σ ∧ zb_I τ' 1193 0 0 = zb_I τ 1193 0 0 ∧ (∀ q, zb_I τ' 101 0 q = zb_I τ 101 0 q) ∧ ∀ i, i < zN σ 1576 0 → zb_I τ' 1138 i 0 = 0 := by
  intro c
  induction c with
  | zero =>
    intro n j τ w e1 e3 e2 hC hP hv
    obtain ⟨n, rfl⟩ : ∃ q, n = q + 1 := ⟨n - 1, by omega⟩
    refine ⟨τ, w, ?_, hC, hP, rfl, fun _ => rfl, fun i hi => hv i (by omega)⟩
    obtain ⟨h0, h1, h2, h3, ⟨o, h4⟩, h5, h6, h7, h8⟩ := hP
    rw [zf_WP_layMessages_L10, zC_at hC 9 0 (zP0_a9 h0), zC_I hC 1513 9 0 rfl (zP0_a9 h0), zP1_n h1, if_pos ((nI_leI (by omega) (by omega)).mpr (by omega)), zlt_s]
  | succ c ih =>
    intro n j τ w e1 e3 e2 hC hP hv
    obtain ⟨n, rfl⟩ : ∃ q, n = q + 1 := ⟨n - 1, by omega⟩
    have hP' := hP
    obtain ⟨h0, h1, h2, h3, ⟨o, h4⟩, h5, h6, h7, h8⟩ := hP
    have a3 := zp_a3 h1 (p := j) (by omega)
    have c1 := zC_sI hC 1138 3 j rfl a3 0 0
    obtain ⟨τ', w', r1, r2, r3, r4, r5, r6⟩ := ih n (j + 1) (zb_sI τ 1138 j 0 0) _ (by omega) e3 (by omega) c1 hP' (fun i hi => by
      rw [zb_I_sI]
      by_cases hz : i = j
      · rw [if_pos ⟨rfl, hz, rfl⟩]
      · rw [if_neg (fun z => hz z.2.1)]
        exact hv i (by omega))
    refine ⟨τ', w', ?_, r2, r3, r4, r5, r6⟩
    rw [zf_WP_layMessages_L10, zC_at hC 9 0 (zP0_a9 h0), zC_I hC 1513 9 0 rfl (zP0_a9 h0), zP1_n h1, if_neg (zn_le (by omega) (by omega) (by omega)), zC_at hC 9 0 (zP0_a9 h0), zC_R hC 1512 9 402 0 rfl rfl (zP0_a9 h0) (zP0_r1512 h0), zC_ix hC 402 0 (zP0_a402 h0) (by rw [zP0_l402 h0]; omega) (by omega), zC_R hC 402 402 3 0 rfl rfl (zP0_a402 h0) (zP1_r h1 j (by omega)), zC_at hC 3 j a3, zlt_s, zlt_s, zs1, r1]
/-- laying, whole -/
theorem zt_lay (hF : 2500 ≤ F) (hC : zC ac τ w) (hI : zI σ) (hP : zP τ σ) {b : Nat} (hb : b ≤ 4) : ∃ τ' w' σ', zf_WP_layMessages F w (ac 9 0) (nI b) = some w' ∧ zC ac τ' w' ∧ zI σ' ∧ zP τ' σ' ∧ zLR b τ' σ' ∧ ∀ w2, zM m am σ w2 → ∃ w2', zM m am σ' w2' ∧ ∃ n', zf_Mo_transmit_L14 F F w2 m (nI b) 0 = zf_Mo_transmit_L64 F (n' + 1) w2' m (nI b) (-1) := by
  have i1 := zI_idn hI
  have hP' := hP
  obtain ⟨h0, h1, h2, h3, ⟨o, h4⟩, h5, h6, h7, h8⟩ := hP
  obtain ⟨w1, f, q1, q2, q3⟩ := zc_clr (b := b) hF hC h0
  have hP1 : zP (zb_sI (zb_sF τ 101 0 f) 1193 0 0 (nI (16 * b))) σ := hP'
  obtain ⟨τ2, w2, r1, r2, r3, r4, r5, r6⟩ := zc_l10 (F := F) hF (zN σ 1576 0) F 0 _ w1 (by omega) i1 (by omega) q2 hP1 (fun i hi => absurd hi (Nat.not_lt_zero i))
  have hI2 : zI (zclS σ 64 12) := hI
  have hP2 : zP τ2 (zclS σ 64 12) := r3
  have hL2 : zLR b τ2 (zclS σ 64 12) := by
    have eJ : ∀ j, j < 64 → zJ (zclS σ 64 12) 129 j = 2055848343 := fun j hj => if_pos ⟨rfl, hj⟩
    have eN : ∀ j, j < 64 → zN (zclS σ 64 12) 201 j = 0 := fun j hj => if_pos ⟨rfl, hj⟩
    have eE : ∀ j, j < 12 → zJ (zclS σ 64 12) 141 j = 0 := fun j hj => (if_pos ⟨rfl, hj⟩ : (if 141 = 141 ∧ j < 12 then (0 : Int32) else zJ σ 141 j) = 0)
    refine ⟨?_, fun j hj => ?_, fun j hj => ?_, fun j hj => ?_, fun i hi => ?_, fun i hi => ?_⟩
    · rw [r4, zb_I_sI, if_pos ⟨rfl, rfl, rfl⟩]
    · rw [r5, zb_I_ne _ (by decide), zb_I_sF, q3 j hj, eJ j hj]
    · rw [eJ j hj, eN j hj]
      exact ⟨fun _ => rfl, fun _ => rfl⟩
    · rw [eN j hj]
      decide
    · have hi : i < zN σ 1576 0 := hi
      rw [r6 i hi, eE i (by omega)]
    · have hi : i < zN σ 1576 0 := hi
      exact Or.inr ⟨0, Nat.zero_le _, eE i (by omega)⟩
  obtain ⟨τ', w', σ', s1, s2, s3, s4, s5, s6⟩ := zt_outr (am := am) (m := m) hF hb 4 τ2 (zclS σ 64 12) w2 (by omega) r2 hI2 hP2 hL2
  refine ⟨τ', w', σ', ?_, s2, s3, s4, s5, fun w3 h => ?_⟩
  · have s1' := s1 F (by omega)
    have s1' : zf_WP_layMessages_L36 F F w2 (ac 9 0) 3 = some w' := s1'
    have r1 : zf_WP_layMessages_L10 F F w1 (ac 9 0) (0 : Int32) = _ := r1
    unfold zf_WP_layMessages
    rw [zC_at hC 9 0 (zP0_a9 h0), zC_R hC 1521 9 4 0 rfl rfl (zP0_a9 h0) (zP0_r1521 h0), zC_at hC 4 0 (zP0_a4 h0), q1, zbv_s, zlt_s, r1, s1']
  · obtain ⟨w4, t1, t2⟩ := zo_cl (F := F) hF h (y := nI b)
    obtain ⟨w5, u1, u2⟩ := s6 w4 t1
    obtain ⟨n', u3⟩ := u2 F (by omega)
    exact ⟨w5, u1, n', t2.trans u3⟩
end ZTR5
