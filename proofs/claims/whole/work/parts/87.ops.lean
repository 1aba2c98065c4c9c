/-! code, repair, bit, flip, missed -/
theorem zn_1b (k j : Nat) (hk : k < 32) (hj : j < 32) : bt (zi_shl 1 (nI k)) j = decide (j = k) := by
  unfold zi_shl
  rw [b_shl k hk 1 hj]
  by_cases h : k ≤ j
  · rw [zn_b1 (j - k) (by omega)]
    by_cases h2 : j = k
    · subst h2
      simp
    · simp [h, h2]
      omega
  · simp [h]
    omega
theorem zd_nI {b : Nat} (hb : b < 2) : (if decide (b = 1) = true then (1 : Int32) else 0) = nI b := by
  match b, hb with
  | 0, _ => rfl
  | 1, _ => rfl
theorem z1_nI {b : Nat} (hb : b < 2) : (1 : Int32) - nI b = nI (1 - b) := by
  match b, hb with
  | 0, _ => rfl
  | 1, _ => rfl
theorem zany_iff (f : Nat → Bool) : ∀ c s, zany f s c = true ↔ ∃ j, j < c ∧ f (s + j) = true := by
  intro c
  induction c with
  | zero =>
    intro s
    constructor
    · intro h
      cases h
    · rintro ⟨j, hj, _⟩
      exact absurd hj (Nat.not_lt_zero j)
  | succ c ih =>
    intro s
    show (f s || zany f (s + 1) c) = true ↔ _
    rw [Bool.or_eq_true, ih (s + 1)]
    constructor
    · rintro (h | ⟨j, hj, h⟩)
      · exact ⟨0, by omega, h⟩
      · exact ⟨j + 1, by omega, by rw [← Nat.add_assoc, Nat.add_right_comm]; exact h⟩
    · rintro ⟨j, hj, h⟩
      cases j with
      | zero => exact Or.inl h
      | succ j => exact Or.inr ⟨j, by omega, by rw [Nat.add_right_comm, Nat.add_assoc]; exact h⟩
theorem zhears_iff (σ : zA) (p i : Nat) : zhears σ p i = true ↔ ∃ h, h < zN σ 132 p ∧ zN σ 131 (4 * p + h) = i := by
  unfold zhears
  rw [zany_iff]
  constructor
  · rintro ⟨j, hj, h⟩
    exact ⟨j, hj, of_decide_eq_true h⟩
  · rintro ⟨j, hj, h⟩
    exact ⟨j, hj, decide_eq_true h⟩
section ZOPS3
variable {ac : Nat → Nat → Nat} {τ : zB} {am : Nat → Nat} {σ : zA} {w w2 : zw_T} {F m x : Nat}
theorem zop_repair (hF : 2500 ≤ F) (y : Int32) : zop x m (fun w => zf_WP_repair F w x y) (fun w => zf_Mo_repair F w m y) := zop_ro fun ac τ am σ w1 hx hC hI hP => ⟨_, zn_rpW hF w1 x y, fun w2 h => zn_rpM hF w2 m y⟩
/-! bits of the air -/
theorem zc_hb1 (hC : zC ac τ w) (hI : zI σ) (h0 : zP0 τ) (h7 : zP7 τ σ) {i : Nat} (hi : i < zN σ 1592 0) : zf_Ai_hasBit F w (ac 1 0) (nI i) = some (1, w) := by
  have := zI_bts hI
  unfold zf_Ai_hasBit
  rw [if_neg (nI_pos (by omega)), zC_at hC 1 0 (zP0_a1 h0), zC_I hC 1001 1 0 rfl (zP0_a1 h0), zP7_n h7, if_neg (zn_le (by omega) (by omega) (by omega)), zb_1]
theorem zc_hb0 (hC : zC ac τ w) (h0 : zP0 τ) (h7 : zP7 τ σ) {y : Int32} (hy : zout (zN σ 1592 0) y) : zf_Ai_hasBit F w (ac 1 0) y = some (0, w) := by
  unfold zf_Ai_hasBit
  rcases hy with hy | ⟨h1, h2⟩
  · rw [if_pos hy, zb_0]
  · rw [if_neg h1, zC_at hC 1 0 (zP0_a1 h0), zC_I hC 1001 1 0 rfl (zP0_a1 h0), zP7_n h7, if_pos h2, zb_0]
theorem zc_bitAt (hC : zC ac τ w) (hI : zI σ) (h0 : zP0 τ) (h7 : zP7 τ σ) {i : Nat} (hi : i < zN σ 1592 0) : zf_Ai_bitAt F w (ac 1 0) (nI i) = some (nI (zN σ 130 i), w) := by
  have := zI_bts hI
  unfold zf_Ai_bitAt
  rw [zC_at hC 1 0 (zP0_a1 h0), zC_R hC 1000 1 102 0 rfl rfl (zP0_a1 h0) (zP0_r1000 h0), show (32 : Int32) = nI 32 from rfl, pk_div (by omega) (by decide) (by decide), zC_ix hC 102 0 (zP0_a102 h0) (by rw [zP0_l102 h0]; omega) (by omega), zC_I hC 102 102 0 rfl (zP0_a102 h0), zq_rem (by omega) (by decide) (by decide), show (31 : Int32) = nI 31 from rfl, pk_sub (by omega), zn_u1 _ (by omega), zP7_d h7 i hi, zd_nI (zI_air hI i)]
theorem zop_bit (y : Int32) : zop x m (fun w => zf_WP_bit F w x y) (fun w => zf_Mo_bit F w m y) := zop_ro fun ac τ am σ w1 hx hC hI hP => by
  subst hx
  obtain ⟨h0, h1, h2, h3, ⟨o, h4⟩, h5, h6, h7, h8⟩ := hP
  have hb := zI_bts hI
  show ∃ v, zf_WP_bit F w1 (ac 9 0) y = _ ∧ _
  unfold zf_WP_bit
  rcases zin y (n := zN σ 1592 0) (by omega) with ⟨i, hi, rfl⟩ | hy
  · refine ⟨nI (zN σ 130 i), ?_, fun w2 h => ?_⟩
    · rw [zC_at hC 9 0 (zP0_a9 h0), zC_R hC 1522 9 1 0 rfl rfl (zP0_a9 h0) (zP0_r1522 h0), zC_at hC 1 0 (zP0_a1 h0), zc_hb1 hC hI h0 h7 hi, zbd_s, if_neg (by decide), zC_at hC 9 0 (zP0_a9 h0), zC_R hC 1522 9 1 0 rfl rfl (zP0_a9 h0) (zP0_r1522 h0), zC_at hC 1 0 (zP0_a1 h0), zc_bitAt hC hI h0 h7 hi, zbd_s]
    · show zf_Mo_bit F w2 m (nI i) = _
      unfold zf_Mo_bit
      rw [if_neg (nI_pos (by omega)), zM_at h, zM_fn h 1592 (by decide) (by decide), if_pos ((nI_ltI (by omega) (by omega)).mpr hi), zM_at h, zM_R h 1591 130 2240 (by decide), zM_ix h 1591 130 2240 (by decide) (by omega) (by decide), zM_n h 130 (by decide)]
  · refine ⟨-1, ?_, fun w2 h => ?_⟩
    · rw [zC_at hC 9 0 (zP0_a9 h0), zC_R hC 1522 9 1 0 rfl rfl (zP0_a9 h0) (zP0_r1522 h0), zC_at hC 1 0 (zP0_a1 h0), zc_hb0 hC h0 h7 hy, zbd_s, if_pos rfl]
    · show zf_Mo_bit F w2 m y = _
      unfold zf_Mo_bit
      rcases hy with hy | ⟨h3, h5⟩
      · rw [if_pos hy]
      · rw [if_neg h3, zM_at h, zM_fn h 1592 (by decide) (by decide), if_neg (zout_nlt (by omega) h3 h5)]
theorem zop_flip (y : Int32) : zop x m (fun w => zf_WP_flip F w x y) (fun w => zf_Mo_flip F w m y) := by
  intro ac τ am σ w1 hx hC hI hP hB
  subst hx
  obtain ⟨h0, h1, h2, h3, ⟨o, h4⟩, h5, h6, h7, h8⟩ := hP
  have hb := zI_bts hI
  show ∃ v w1' ac' τ' σ', zf_WP_flip F w1 (ac 9 0) y = _ ∧ _
  rcases zin y (n := zN σ 1592 0) (by omega) with ⟨i, hi, rfl⟩ | hy
  · have hair := zI_air hI
    have hC' := zC_sI hC 102 102 0 rfl (zP0_a102 h0) (i / 32) (zb_I τ 102 0 (i / 32) ^^^ zi_shl 1 (nI (31 - i % 32)))
    have hI' : zI (zN_s σ 130 i (1 - zN σ 130 i)) := by
      obtain ⟨i_idn, i_msn, i_ldn, i_bts, i_pgn, i_b32, i_adr, i_res, i_inj, i_knd, i_cal, i_cal0, i_mto, i_mpr, i_mnu, i_mle, i_wts, i_wtn, i_ld, i_mk, i_air, i_hcn, i_hrs, i_hc0, i_ct0, i_mi0, i_dis, i_kpn, i_kmn, i_kof, i_knu, i_lat⟩ := hI
      refine ⟨i_idn, i_msn, i_ldn, i_bts, i_pgn, i_b32, i_adr, i_res, i_inj, i_knd, i_cal, i_cal0, i_mto, i_mpr, i_mnu, i_mle, i_wts, i_wtn, i_ld, i_mk, fun j => ?_, i_hcn, i_hrs, i_hc0, i_ct0, i_mi0, i_dis, i_kpn, i_kmn, i_kof, i_knu, i_lat⟩
      show (if 130 = 130 ∧ j = i then 1 - zN σ 130 i else zN σ 130 j) < 2
      split
      · omega
      · exact i_air j
    have h7' : zP7 (zb_sI τ 102 0 (i / 32) (zb_I τ 102 0 (i / 32) ^^^ zi_shl 1 (nI (31 - i % 32)))) (zN_s σ 130 i (1 - zN σ 130 i)) := by
      have e0 := zP7_n h7
      refine ⟨e0, fun j hj => ?_⟩
      have hj : j < zN σ 1592 0 := hj
      have e := zP7_d h7 j hj
      show bt (upd (zb_I τ 102 0) (i / 32) (zb_I τ 102 0 (i / 32) ^^^ zi_shl 1 (nI (31 - i % 32))) (j / 32)) (31 - j % 32) = decide ((if 130 = 130 ∧ j = i then 1 - zN σ 130 i else zN σ 130 j) = 1)
      unfold upd
      by_cases hq : j / 32 = i / 32
      · rw [if_pos hq, b_xor, zn_1b _ _ (by omega) (by omega), ← hq, e]
        by_cases hji : j = i
        · subst hji
          have := hair j
          rw [if_pos ⟨rfl, rfl⟩, decide_eq_true rfl]
          match zN σ 130 j, this with
          | 0, _ => rfl
          | 1, _ => rfl
        · rw [if_neg (fun q => hji q.2), decide_eq_false (by omega : ¬ 31 - j % 32 = 31 - i % 32), Bool.xor_false]
      · rw [if_neg hq, e, if_neg (fun q => hq (by rw [q.2]))]
    refine ⟨nI (1 - zN σ 130 i), _, ac, _, zN_s σ 130 i (1 - zN σ 130 i), ?_, rfl, hC', hI', ⟨h0, h1, h2, h3, ⟨o, h4⟩, h5, h6, h7', h8⟩, fun w2 h => ?_⟩
    · unfold zf_WP_flip
      rw [zC_at hC 9 0 (zP0_a9 h0), zC_R hC 1522 9 1 0 rfl rfl (zP0_a9 h0) (zP0_r1522 h0), zC_at hC 1 0 (zP0_a1 h0), zc_hb1 hC hI h0 h7 hi, zbd_s, if_neg (by decide), zC_at hC 9 0 (zP0_a9 h0), zC_R hC 1522 9 1 0 rfl rfl (zP0_a9 h0) (zP0_r1522 h0), zC_at hC 1 0 (zP0_a1 h0)]
      unfold zf_Ai_changeBit
      rw [zC_at hC 1 0 (zP0_a1 h0), zC_R hC 1000 1 102 0 rfl rfl (zP0_a1 h0) (zP0_r1000 h0), show (32 : Int32) = nI 32 from rfl, pk_div (by omega) (by decide) (by decide), zC_ix hC 102 0 (zP0_a102 h0) (by rw [zP0_l102 h0]; omega) (by omega), zC_ix hC 102 0 (zP0_a102 h0) (by rw [zP0_l102 h0]; omega) (by omega), zC_I hC 102 102 0 rfl (zP0_a102 h0), zq_rem (by omega) (by decide) (by decide), show (31 : Int32) = nI 31 from rfl, pk_sub (by omega), zlt_s, zbv_s, zC_at hC' 9 0 (zP0_a9 h0), zC_R hC' 1522 9 1 0 rfl rfl (zP0_a9 h0) (zP0_r1522 h0), zC_at hC' 1 0 (zP0_a1 h0), zc_bitAt hC' hI' h0 h7' hi, zbd_s]
      have e : zN (zN_s σ 130 i (1 - zN σ 130 i)) 130 i = 1 - zN σ 130 i := if_pos ⟨rfl, rfl⟩
      rw [e]
    · refine ⟨_, ?_, zM_sn h 130 (by decide) i (1 - zN σ 130 i)⟩
      show zf_Mo_flip F w2 m (nI i) = _
      have h' := zM_sn h 130 (by decide) i (1 - zN σ 130 i)
      unfold zf_Mo_flip
      rw [if_neg (nI_pos (by omega)), zM_at h, zM_fn h 1592 (by decide) (by decide), if_pos ((nI_ltI (by omega) (by omega)).mpr hi), zM_at h, zM_at h, zM_R h 1591 130 2240 (by decide), zM_ix h 1591 130 2240 (by decide) (by omega) (by decide), zM_ix h 1591 130 2240 (by decide) (by omega) (by decide), zM_n h 130 (by decide), z1_nI (hair i), zlt_s, zM_at h', zM_R h' 1591 130 2240 (by decide), zM_ix h' 1591 130 2240 (by decide) (by omega) (by decide), zM_n h' 130 (by decide)]
      have e : zN (zN_s σ 130 i (1 - zN σ 130 i)) 130 i = 1 - zN σ 130 i := if_pos ⟨rfl, rfl⟩
      rw [e]
  · refine ⟨-1, w1, ac, τ, σ, ?_, rfl, hC, hI, ⟨h0, h1, h2, h3, ⟨o, h4⟩, h5, h6, h7, h8⟩, fun w2 h => ⟨w2, ?_, h⟩⟩
    · unfold zf_WP_flip
      rw [zC_at hC 9 0 (zP0_a9 h0), zC_R hC 1522 9 1 0 rfl rfl (zP0_a9 h0) (zP0_r1522 h0), zC_at hC 1 0 (zP0_a1 h0), zc_hb0 hC h0 h7 hy, zbd_s, if_pos rfl]
    · show zf_Mo_flip F w2 m y = _
      unfold zf_Mo_flip
      rcases hy with hy | ⟨h3, h5⟩
      · rw [if_pos hy]
      · rw [if_neg h3, zM_at h, zM_fn h 1592 (by decide) (by decide), if_neg (zout_nlt (by omega) h3 h5)]
/-! whom a pager hears -/
theorem zp_a401 (h2 : zP2 τ σ) {p : Nat} (hp : p < zN σ 1595 0) : zb_a τ 401 p = true := (zP2_ha h2 p).trans (decide_eq_true hp)
theorem zp_a2 (hI : zI σ) (h3 : zP3 τ σ) {p h : Nat} (hp : p < zN σ 1595 0) (hh : h < zN σ 132 p) : zb_a τ 2 (4 * p + h) = true := by
  have := zI_hcn hI p
  rw [zP3_a h3, show (4 * p + h) / 4 = p by omega, show (4 * p + h) % 4 = h by omega, decide_eq_true hp, decide_eq_true hh]
  rfl
theorem zc_hoL (hC : zC ac τ w) (hI : zI σ) (h1 : zP1 τ σ) (h2 : zP2 τ σ) (h3 : zP3 τ σ) {p : Nat} (hp : p < zN σ 1595 0) (y : Int32) : ∀ c n h, h + c = zN σ 132 p → c < n → ∃ res, zf_Pg_heardOf_L2 F n w (ac 7 p) y (nI h) = some (res, w) ∧ ((∃ k, k < zN σ 132 p ∧ nI (zN σ 131 (4 * p + k)) = y ∧ res = some (ac 2 (4 * p + k))) ∨ ((∀ k, h ≤ k → k < zN σ 132 p → nI (zN σ 131 (4 * p + k)) ≠ y) ∧ res = none)) := by
  have i1 := zI_hcn hI p
  have i2 := zI_pgn hI
  have i3 := zI_idn hI
  have a7 := zp_a7 h2 hp
  have a4 := zp_a401 h2 hp
  intro c
  induction c with
  | zero =>
    intro n h e1 e2
    obtain ⟨n, rfl⟩ : ∃ q, n = q + 1 := ⟨n - 1, by omega⟩
    refine ⟨none, ?_, Or.inr ⟨fun k k1 k2 => by omega, rfl⟩⟩
    unfold zf_Pg_heardOf_L2
    rw [zC_at hC 7 p a7, zC_I hC 1385 7 p rfl a7, zP2_hn h2 p hp, if_pos ((nI_leI (by omega) (by omega)).mpr (by omega))]
  | succ c ih =>
    intro n h e1 e2
    obtain ⟨n, rfl⟩ : ∃ q, n = q + 1 := ⟨n - 1, by omega⟩
    have hh : h < zN σ 132 p := by omega
    have a2 := zp_a2 hI h3 hp hh
    have hid := zI_hrs hI p h (by omega) hh
    have a3 := zp_a3 h1 hid
    unfold zf_Pg_heardOf_L2
    rw [zC_at hC 7 p a7, zC_I hC 1385 7 p rfl a7, zP2_hn h2 p hp, if_neg (zn_le (by omega) (by omega) (by omega)), zC_at hC 7 p a7, zC_R hC 1384 7 401 p rfl rfl a7 (zP2_hr h2 p hp), zC_ix hC 401 p a4 (by rw [zP2_hl h2 p hp]; omega) (by omega), zC_R hC 401 401 2 p rfl rfl a4 (zP3_r h3 p h hp hh), zC_at hC 2 _ a2, zC_R hC 1064 2 3 _ rfl rfl a2 (zP3_id h3 p h hp hh), zC_at hC 3 _ a3, zC_I hC 1128 3 _ rfl a3, zP1_ix h1 _ hid]
    by_cases hq : nI (zN σ 131 (4 * p + h)) = y
    · refine ⟨some (ac 2 (4 * p + h)), ?_, Or.inl ⟨h, hh, hq, rfl⟩⟩
      rw [if_pos hq, zC_at hC 7 p a7, zC_R hC 1384 7 401 p rfl rfl a7 (zP2_hr h2 p hp), zC_ix hC 401 p a4 (by rw [zP2_hl h2 p hp]; omega) (by omega), zC_R hC 401 401 2 p rfl rfl a4 (zP3_r h3 p h hp hh)]
    · rw [if_neg hq, zlt_s, zs1]
      obtain ⟨res, r1, r2⟩ := ih n (h + 1) (by omega) (by omega)
      refine ⟨res, r1, ?_⟩
      rcases r2 with r2 | ⟨r2, r3⟩
      · exact Or.inl r2
      · refine Or.inr ⟨fun k k1 k2 => ?_, r3⟩
        by_cases hk : k = h
        · rw [hk]
          exact hq
        · exact r2 k (by omega) k2
theorem zc_ho (hF : 2500 ≤ F) (hC : zC ac τ w) (hI : zI σ) (h1 : zP1 τ σ) (h2 : zP2 τ σ) (h3 : zP3 τ σ) {p : Nat} (hp : p < zN σ 1595 0) (y : Int32) : ∃ res, zf_Pg_heardOf F w (ac 7 p) y = some (res, w) ∧ ((∃ k, k < zN σ 132 p ∧ nI (zN σ 131 (4 * p + k)) = y ∧ res = some (ac 2 (4 * p + k))) ∨ ((∀ k, k < zN σ 132 p → nI (zN σ 131 (4 * p + k)) ≠ y) ∧ res = none)) := by
  have i1 := zI_hcn hI p
  obtain ⟨res, r1, r2⟩ := zc_hoL (F := F) hC hI h1 h2 h3 hp y (zN σ 132 p) F 0 (by omega) (by omega)
  refine ⟨res, r1, ?_⟩
  rcases r2 with r2 | ⟨r2, r3⟩
  · exact Or.inl r2
  · exact Or.inr ⟨fun k hk => r2 k (Nat.zero_le k) hk, r3⟩
theorem zo_lsL (h : zM m am σ w) (hI : zI σ) {p i : Nat} (hp : p < 6) (hi : i < 12) : ∀ c n k b, k + c = 4 * p + zN σ 132 p → 4 * p ≤ k → c < n → zf_Mo_listensTo_L7 F n w m (nI p) (nI i) (zd b) (nI k) = some (zd (b || zany (fun q => decide (zN σ 131 q = i)) k c), w) := by
  have i1 := zI_hcn hI p
  have i2 := zI_hrs hI p
  have i3 := zI_idn hI
  intro c
  induction c with
  | zero =>
    intro n k b e1 e0 e2
    obtain ⟨n, rfl⟩ : ∃ q, n = q + 1 := ⟨n - 1, by omega⟩
    unfold zf_Mo_listensTo_L7
    rw [zM_at h, zM_R h 1597 132 6 (by decide), zM_ix h 1597 132 6 (by decide) hp (by decide), zM_n h 132 (by decide), show (4 : Int32) = nI 4 from rfl, zmd, if_pos ((nI_leI (by omega) (by omega)).mpr (by omega)), zd_b]
    unfold zany
    rw [Bool.or_false]
  | succ c ih =>
    intro n k b e1 e0 e2
    obtain ⟨n, rfl⟩ : ∃ q, n = q + 1 := ⟨n - 1, by omega⟩
    have hk : zN σ 131 k < zN σ 1576 0 := by
      have := i2 (k - 4 * p) hp (by omega)
      rw [show 4 * p + (k - 4 * p) = k by omega] at this
      exact this
    unfold zf_Mo_listensTo_L7
    rw [zM_at h, zM_R h 1597 132 6 (by decide), zM_ix h 1597 132 6 (by decide) hp (by decide), zM_n h 132 (by decide), show (4 : Int32) = nI 4 from rfl, zmd, if_neg (zn_le (by omega) (by omega) (by omega))]
    show _ = some (zd (b || (decide (zN σ 131 k = i) || zany _ (k + 1) c)), w)
    cases b with
    | true =>
      rw [if_neg (by decide), zf_Mo_listensTo_j37, zf_Mo_listensTo_j42, zlt_s, zlt_s, zs1]
      have := ih n (k + 1) true (by omega) (by omega) (by omega)
      exact this
    | false =>
      rw [if_pos (by decide), zM_at h, zM_R h 1596 131 24 (by decide), zM_ix h 1596 131 24 (by decide) (by omega) (by decide), zM_n h 131 (by decide)]
      by_cases hq : zN σ 131 k = i
      · rw [if_pos (by rw [hq]), zf_Mo_listensTo_j37, zf_Mo_listensTo_j42, zlt_s, zlt_s, zs1, decide_eq_true hq]
        have := ih n (k + 1) true (by omega) (by omega) (by omega)
        exact this
      · rw [if_neg (fun q => hq ((nI_eqI (by omega) (by omega)).mp q)), zf_Mo_listensTo_j42, zlt_s, zlt_s, zs1, decide_eq_false hq]
        have := ih n (k + 1) false (by omega) (by omega) (by omega)
        exact this
theorem zo_ls (hF : 2500 ≤ F) (h : zM m am σ w) (hI : zI σ) {p i : Nat} (hp : p < 6) (hi : i < 12) : zf_Mo_listensTo F w m (nI p) (nI i) = some (zd (zhears σ p i), w) := by
  have i1 := zI_hcn hI p
  unfold zf_Mo_listensTo
  rw [zlt_s, zlt_s, show (4 : Int32) = nI 4 from rfl, pk_mul]
  have := zo_lsL (F := F) h hI hp hi (zN σ 132 p) F (4 * p) false (by omega) (by omega) (by omega)
  rw [Bool.false_or] at this
  exact this
end ZOPS3
