/-! a call on both sides -/
def zo_b (w : zw_T) : Prop := ∀ a, (zw_ty w a).1 ≠ 0 → a < zw_n w
def zop {α : Type} (x m : Nat) (f g : zw_T → Option (α × zw_T)) : Prop := ∀ (ac : Nat → Nat → Nat) (τ : zB) (am : Nat → Nat) (σ : zA) (w1 : zw_T), ac 9 0 = x → zC ac τ w1 → zI σ → zP τ σ → zo_b w1 → ∃ v w1' ac' τ' σ', f w1 = some (v, w1') ∧ ac' 9 0 = x ∧ zC ac' τ' w1' ∧ zI σ' ∧ zP τ' σ' ∧ ∀ w2, zM m am σ w2 → ∃ w2', g w2 = some (v, w2') ∧ zM m am σ' w2'
/-- a call that changes nothing -/
theorem zop_ro {α : Type} {x m : Nat} {f g : zw_T → Option (α × zw_T)} (h : ∀ (ac : Nat → Nat → Nat) (τ : zB) (am : Nat → Nat) (σ : zA) (w1 : zw_T), ac 9 0 = x → zC ac τ w1 → zI σ → zP τ σ → ∃ v, f w1 = some (v, w1) ∧ ∀ w2, zM m am σ w2 → g w2 = some (v, w2)) : zop x m f g := by
  intro ac τ am σ w1 hx hC hI hP hB
  obtain ⟨v, e, k⟩ := h ac τ am σ w1 hx hC hI hP
  exact ⟨v, w1, ac, τ, σ, e, hx, hC, hI, hP, fun w2 h2 => ⟨w2, k w2 h2, h2⟩⟩
theorem zq_rem {a d : Nat} (ha : a < 2 ^ 31) (h0 : 0 < d) (hd : d < 2 ^ 31) : zi_rem (nI a) (nI d) = nI (a % d) := pk_rem ha h0 hd
section ZOPS
variable {ac : Nat → Nat → Nat} {τ : zB} {am : Nat → Nat} {σ : zA} {w w2 : zw_T} {F m x : Nat}
/-! the class's small methods -/
theorem zc_pg1 (hC : zC ac τ w) (hI : zI σ) (h0 : zP0 τ) (h2 : zP2 τ σ) {p : Nat} (hp : p < zN σ 1595 0) : zf_WP_pagerAt F w (ac 9 0) (nI p) = some (some (ac 7 p), w) := by
  have := zI_pgn hI
  unfold zf_WP_pagerAt
  rw [if_neg (nI_pos (by omega)), zC_at hC 9 0 (zP0_a9 h0), zC_I hC 1515 9 0 rfl (zP0_a9 h0), zP2_n h2, if_neg (zn_le (by omega) (by omega) (by omega)), zC_at hC 9 0 (zP0_a9 h0), zC_R hC 1514 9 406 0 rfl rfl (zP0_a9 h0) (zP0_r1514 h0), zC_ix hC 406 0 (zP0_a406 h0) (by rw [zP0_l406 h0]; omega) (by omega), zC_R hC 406 406 7 0 rfl rfl (zP0_a406 h0) (zP2_r h2 p hp)]
theorem zc_pg0 (hC : zC ac τ w) (h0 : zP0 τ) (h2 : zP2 τ σ) {y : Int32} (hy : zout (zN σ 1595 0) y) : zf_WP_pagerAt F w (ac 9 0) y = some (none, w) := by
  unfold zf_WP_pagerAt
  rcases hy with hy | ⟨h3, h4⟩
  · rw [if_pos hy]
  · rw [if_neg h3, zC_at hC 9 0 (zP0_a9 h0), zC_I hC 1515 9 0 rfl (zP0_a9 h0), zP2_n h2, if_pos h4]
theorem zc_id1 (hC : zC ac τ w) (hI : zI σ) (h0 : zP0 τ) (h2 : zP1 τ σ) {p : Nat} (hp : p < zN σ 1576 0) : zf_WP_identityAt F w (ac 9 0) (nI p) = some (some (ac 3 p), w) := by
  have := zI_idn hI
  unfold zf_WP_identityAt
  rw [if_neg (nI_pos (by omega)), zC_at hC 9 0 (zP0_a9 h0), zC_I hC 1513 9 0 rfl (zP0_a9 h0), zP1_n h2, if_neg (zn_le (by omega) (by omega) (by omega)), zC_at hC 9 0 (zP0_a9 h0), zC_R hC 1512 9 402 0 rfl rfl (zP0_a9 h0) (zP0_r1512 h0), zC_ix hC 402 0 (zP0_a402 h0) (by rw [zP0_l402 h0]; omega) (by omega), zC_R hC 402 402 3 0 rfl rfl (zP0_a402 h0) (zP1_r h2 p hp)]
theorem zc_id0 (hC : zC ac τ w) (h0 : zP0 τ) (h2 : zP1 τ σ) {y : Int32} (hy : zout (zN σ 1576 0) y) : zf_WP_identityAt F w (ac 9 0) y = some (none, w) := by
  unfold zf_WP_identityAt
  rcases hy with hy | ⟨h3, h4⟩
  · rw [if_pos hy]
  · rw [if_neg h3, zC_at hC 9 0 (zP0_a9 h0), zC_I hC 1513 9 0 rfl (zP0_a9 h0), zP1_n h2, if_pos h4]
theorem zp_a7 (h2 : zP2 τ σ) {p : Nat} (hp : p < zN σ 1595 0) : zb_a τ 7 p = true := (zP2_a h2 p).trans (decide_eq_true hp)
theorem zp_a3 (h2 : zP1 τ σ) {p : Nat} (hp : p < zN σ 1576 0) : zb_a τ 3 p = true := (zP1_a h2 p).trans (decide_eq_true hp)
theorem zc_kept1 (hC : zC ac τ w) (hI : zI σ) (h0 : zP0 τ) (h2 : zP2 τ σ) {o : Nat → Nat} (h4 : zP4 τ σ o) {p : Nat} (hp : p < zN σ 1595 0) : zf_WP_kept F w (ac 9 0) (nI p) = some (nI (zN σ 133 p), w) := by
  unfold zf_WP_kept
  rw [zC_at hC 9 0 (zP0_a9 h0), zc_pg1 hC hI h0 h2 hp, zbd_s, zlt_s, if_neg (by simp), zC_at hC 7 p (zp_a7 h2 hp), zC_I hC 1388 7 p rfl (zp_a7 h2 hp), zP4_n h4 p hp]
theorem zc_kept0 (hC : zC ac τ w) (h0 : zP0 τ) (h2 : zP2 τ σ) {y : Int32} (hy : zout (zN σ 1595 0) y) : zf_WP_kept F w (ac 9 0) y = some (-1, w) := by
  unfold zf_WP_kept
  rw [zC_at hC 9 0 (zP0_a9 h0), zc_pg0 hC h0 h2 hy, zbd_s, zlt_s, if_pos rfl]
/-- kept -/
theorem zop_kept (y : Int32) : zop x m (fun w => zf_WP_kept F w x y) (fun w => zf_Mo_kept F w m y) := zop_ro fun ac τ am σ w1 hx hC hI hP => by
  subst hx
  obtain ⟨h0, h1, h2, h3, ⟨o, h4⟩, h5, h6, h7, h8⟩ := hP
  have hp := zI_pgn hI
  rcases zin y (n := zN σ 1595 0) (by omega) with ⟨p, hp, rfl⟩ | hy
  · exact ⟨_, zc_kept1 hC hI h0 h2 h4 hp, fun w2 h => zo_kept1 h hI hp⟩
  · exact ⟨_, zc_kept0 hC h0 h2 hy, fun w2 h => zo_kept0 h hy⟩
/-- waiting -/
theorem zop_waiting (hF : 2500 ≤ F) : zop x m (fun w => zf_WP_waiting F w x) (fun w => zf_Mo_waiting F w m) := zop_ro fun ac τ am σ w1 hx hC hI hP => by
  subst hx
  obtain ⟨h0, h1, h2, h3, ⟨o, h4⟩, h5, h6, h7, h8⟩ := hP
  refine ⟨_, ?_, fun w2 h => zo_waiting hF h hI⟩
  show zf_WP_waiting F w1 (ac 9 0) = _
  unfold zf_WP_waiting
  rw [zC_at hC 9 0 (zP0_a9 h0), zC_I hC 1518 9 0 rfl (zP0_a9 h0), zP5_wt h5]
/-- unload -/
theorem zop_unload : zop x m (fun w => zf_WP_unload F w x) (fun w => zf_Mo_unload F w m) := by
  intro ac τ am σ w1 hx hC hI hP hB
  subst hx
  obtain ⟨h0, h1, h2, h3, ⟨o, h4⟩, h5, h6, h7, h8⟩ := hP
  refine ⟨nI (zN σ 1588 0), _, ac, _, zN_s σ 1588 0 0, ?_, rfl, zC_sI hC 1520 9 0 rfl (zP0_a9 h0) 0 0, ?_, ?_, fun w2 h => zo_unload h⟩
  · show zf_WP_unload F w1 (ac 9 0) = _
    unfold zf_WP_unload
    rw [zC_at hC 9 0 (zP0_a9 h0), zlt_s, zC_at hC 9 0 (zP0_a9 h0), zlt_s, zC_I hC 1520 9 0 rfl (zP0_a9 h0), zP6_n h6]
  · obtain ⟨i_idn, i_msn, i_ldn, i_bts, i_pgn, i_b32, i_adr, i_res, i_inj, i_knd, i_cal, i_cal0, i_mto, i_mpr, i_mnu, i_mle, i_wts, i_wtn, i_ld, i_mk, i_air, i_hcn, i_hrs, i_hc0, i_ct0, i_mi0, i_dis, i_kpn, i_kmn, i_kof, i_knu, i_lat⟩ := hI
    exact ⟨i_idn, i_msn, Nat.zero_le _, i_bts, i_pgn, i_b32, i_adr, i_res, i_inj, i_knd, i_cal, i_cal0, i_mto, i_mpr, i_mnu, i_mle, i_wts, i_wtn, fun j hj => absurd hj (Nat.not_lt_zero _), i_mk, i_air, i_hcn, i_hrs, i_hc0, i_ct0, i_mi0, i_dis, i_kpn, i_kmn, i_kof, i_knu, i_lat⟩
  · exact ⟨h0, h1, h2, h3, ⟨o, h4⟩, h5, ⟨rfl, fun j hj => absurd hj (Nat.not_lt_zero _)⟩, h7, h8⟩
end ZOPS
