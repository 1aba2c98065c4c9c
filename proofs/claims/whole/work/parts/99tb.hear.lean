/-! hear: what both sides hold while a pager listens -/
def zhP (τ : zB) (σ : zA) : Prop := zP0 τ ∧ zP1 τ σ ∧ zP2 τ σ ∧ zP3 τ σ ∧ (∃ o, zP4 τ σ o) ∧ zP5 τ σ ∧ zP6 τ σ ∧ zP7 τ σ
/-- c bits from b on, the first the least -/
def zsv (f : Nat → Nat) : Nat → Nat → Nat
  | _, 0 => 0
  | b, c + 1 => f b + 2 * zsv f (b + 1) c
def zgR (q wd : Nat) (τ : zB) (σ : zA) : Prop := zN σ 1610 0 ≤ q ∧ (∀ j, j < zN σ 1610 0 → j < 160 → zN σ 140 j < 2) ∧ zb_I τ 1261 0 0 = nI (min 22 (zN σ 1610 0 / wd)) ∧ zb_I τ 1263 0 0 = nI (zN σ 1610 0 % wd) ∧ (∀ s, s < 22 → s < zN σ 1610 0 / wd → zb_I τ 103 0 s = nI (zsv (zN σ 140) (wd * s) wd)) ∧ (zN σ 1610 0 < 22 * wd → zb_I τ 1262 0 0 = nI (zsv (zN σ 140) (wd * (zN σ 1610 0 / wd)) (zN σ 1610 0 % wd)))
def zhR (p q : Nat) (τ : zB) (σ : zA) : Prop := zb_R τ 1257 0 0 = some p ∧ zb_R τ 1256 0 0 = some 0 ∧ zN σ 1607 0 = p ∧ zb_I τ 1258 0 0 = nI (zN σ 1611 0) ∧ ((zb_R τ 1259 0 0 = none ∧ zJ σ 1608 0 = -1) ∨ ∃ h, h < zN σ 132 p ∧ zb_R τ 1259 0 0 = some (4 * p + h) ∧ zJ σ 1608 0 = nI (zN σ 131 (4 * p + h)) ∧ zgR q (zwide σ (zN σ 131 (4 * p + h))) τ σ)
def zH (p q : Nat) (ac : Nat → Nat → Nat) (τ : zB) (σ : zA) (w : zw_T) : Prop := zC ac τ w ∧ zI σ ∧ zhP τ σ ∧ zhR p q τ σ ∧ p < zN σ 1595 0
section ZH2
variable {ac : Nat → Nat → Nat} {τ : zB} {am : Nat → Nat} {σ : zA} {w w2 : zw_T} {F m p q : Nat}
theorem zH_q (h : zH p q ac τ σ w) {q' : Nat} (hq : q ≤ q') : zH p q' ac τ σ w := by
  obtain ⟨h1, h2, h3, ⟨r1, r2, r3, r4, r5⟩, h5⟩ := h
  refine ⟨h1, h2, h3, ⟨r1, r2, r3, r4, ?_⟩, h5⟩
  rcases r5 with r5 | ⟨k, k1, k2, k3, k4, k5⟩
  · exact Or.inl r5
  · exact Or.inr ⟨k, k1, k2, k3, Nat.le_trans k4 hq, k5⟩
theorem zp_b2 (h3 : zP3 τ σ) (hI : zI σ) {k : Nat} (hp : p < zN σ 1595 0) (hk : k < zN σ 132 p) : zb_a τ 2 (4 * p + k) = true := by
  have := zI_hcn hI p
  rw [zP3_a h3, show (4 * p + k) / 4 = p by omega, show (4 * p + k) % 4 = k by omega, decide_eq_true hp, decide_eq_true hk]
  rfl
theorem zct_I (hI : zI σ) (hp : p < zN σ 1595 0) {c : Nat} (hc : c < 4) (v : Int32) : zI (zJ_s σ 139 (4 * p + c) v) := by
  obtain ⟨i_idn, i_msn, i_ldn, i_bts, i_pgn, i_b32, i_adr, i_res, i_inj, i_knd, i_cal, i_cal0, i_mto, i_mpr, i_mnu, i_mle, i_wts, i_wtn, i_ld, i_mk, i_air, i_hcn, i_hrs, i_hc0, i_ct0, i_mi0, i_dis, i_kpn, i_kmn, i_kof, i_knu, i_lat⟩ := hI
  refine ⟨i_idn, i_msn, i_ldn, i_bts, i_pgn, i_b32, i_adr, i_res, i_inj, i_knd, i_cal, i_cal0, i_mto, i_mpr, i_mnu, i_mle, i_wts, i_wtn, i_ld, i_mk, i_air, i_hcn, i_hrs, i_hc0, fun r d h1 h2 => ?_, i_mi0, i_dis, i_kpn, i_kmn, i_kof, i_knu, i_lat⟩
  have h1 : zN σ 1595 0 ≤ r := h1
  show (if 139 = 139 ∧ 4 * r + d = 4 * p + c then v else zJ σ 139 (4 * r + d)) = 0
  rw [if_neg (by omega)]
  exact i_ct0 r d h1 h2
theorem zh_c0 (hH : zH p q ac τ σ w) (v : Int32) : zH p q ac (zb_sI τ 1389 p 0 v) (zJ_s σ 139 (4 * p) v) (zw_sI w 1389 (ac 7 p) 0 v) := by
  obtain ⟨hC, hI, ⟨h0, h1, h2, h3, h4, h5, h6, h7⟩, hR, hp⟩ := hH
  have a7 := zp_a7 h2 hp
  refine ⟨zC_sI hC 1389 7 p rfl a7 0 v, zct_I hI hp (c := 0) (by decide) v, ⟨h0, h1, ?_, h3, h4, h5, h6, h7⟩, hR, hp⟩
  obtain ⟨p2_n, p2_a, p2_r, p2_ha, p2_hl, p2_hr, p2_hn, p2_ga, p2_gl, p2_gr, p2_c0, p2_c1, p2_c2, p2_c3⟩ := h2
  refine ⟨p2_n, p2_a, p2_r, p2_ha, p2_hl, p2_hr, p2_hn, p2_ga, p2_gl, p2_gr, fun r hr => ?_, fun r hr => ?_, fun r hr => ?_, fun r hr => ?_⟩
  · have hr : r < zN σ 1595 0 := hr
    show zb_I (zb_sI τ 1389 p 0 v) 1389 r 0 = if 139 = 139 ∧ 4 * r = 4 * p then v else zJ σ 139 (4 * r)
    rw [zb_I_sI]
    by_cases hz : r = p
    · rw [if_pos ⟨rfl, hz, rfl⟩, if_pos ⟨rfl, by omega⟩]
    · rw [if_neg (fun z => hz z.2.1), if_neg (by omega)]
      exact p2_c0 r hr
  · have hr : r < zN σ 1595 0 := hr
    show zb_I (zb_sI τ 1389 p 0 v) 1390 r 0 = if 139 = 139 ∧ 4 * r + 1 = 4 * p then v else zJ σ 139 (4 * r + 1)
    rw [zb_I_ne _ (by decide), if_neg (by omega)]
    exact p2_c1 r hr
  · have hr : r < zN σ 1595 0 := hr
    show zb_I (zb_sI τ 1389 p 0 v) 1391 r 0 = if 139 = 139 ∧ 4 * r + 2 = 4 * p then v else zJ σ 139 (4 * r + 2)
    rw [zb_I_ne _ (by decide), if_neg (by omega)]
    exact p2_c2 r hr
  · have hr : r < zN σ 1595 0 := hr
    show zb_I (zb_sI τ 1389 p 0 v) 1392 r 0 = if 139 = 139 ∧ 4 * r + 3 = 4 * p then v else zJ σ 139 (4 * r + 3)
    rw [zb_I_ne _ (by decide), if_neg (by omega)]
    exact p2_c3 r hr
theorem zh_r0 (hH : zH p q ac τ σ w) : zw_I w 1389 (ac 7 p) 0 = zJ σ 139 (4 * p) := by
  obtain ⟨hC, hI, ⟨h0, h1, h2, h3, h4, h5, h6, h7⟩, hR, hp⟩ := hH
  rw [zC_I hC 1389 7 p rfl (zp_a7 h2 hp), zP2_c0 h2 p hp]
theorem zh_c1 (hH : zH p q ac τ σ w) (v : Int32) : zH p q ac (zb_sI τ 1390 p 0 v) (zJ_s σ 139 (4 * p + 1) v) (zw_sI w 1390 (ac 7 p) 0 v) := by
  obtain ⟨hC, hI, ⟨h0, h1, h2, h3, h4, h5, h6, h7⟩, hR, hp⟩ := hH
  have a7 := zp_a7 h2 hp
  refine ⟨zC_sI hC 1390 7 p rfl a7 0 v, zct_I hI hp (c := 1) (by decide) v, ⟨h0, h1, ?_, h3, h4, h5, h6, h7⟩, hR, hp⟩
  obtain ⟨p2_n, p2_a, p2_r, p2_ha, p2_hl, p2_hr, p2_hn, p2_ga, p2_gl, p2_gr, p2_c0, p2_c1, p2_c2, p2_c3⟩ := h2
  refine ⟨p2_n, p2_a, p2_r, p2_ha, p2_hl, p2_hr, p2_hn, p2_ga, p2_gl, p2_gr, fun r hr => ?_, fun r hr => ?_, fun r hr => ?_, fun r hr => ?_⟩
  · have hr : r < zN σ 1595 0 := hr
    show zb_I (zb_sI τ 1390 p 0 v) 1389 r 0 = if 139 = 139 ∧ 4 * r = 4 * p + 1 then v else zJ σ 139 (4 * r)
    rw [zb_I_ne _ (by decide), if_neg (by omega)]
    exact p2_c0 r hr
  · have hr : r < zN σ 1595 0 := hr
    show zb_I (zb_sI τ 1390 p 0 v) 1390 r 0 = if 139 = 139 ∧ 4 * r + 1 = 4 * p + 1 then v else zJ σ 139 (4 * r + 1)
    rw [zb_I_sI]
    by_cases hz : r = p
    · rw [if_pos ⟨rfl, hz, rfl⟩, if_pos ⟨rfl, by omega⟩]
    · rw [if_neg (fun z => hz z.2.1), if_neg (by omega)]
      exact p2_c1 r hr
  · have hr : r < zN σ 1595 0 := hr
    show zb_I (zb_sI τ 1390 p 0 v) 1391 r 0 = if 139 = 139 ∧ 4 * r + 2 = 4 * p + 1 then v else zJ σ 139 (4 * r + 2)
    rw [zb_I_ne _ (by decide), if_neg (by omega)]
    exact p2_c2 r hr
  · have hr : r < zN σ 1595 0 := hr
    show zb_I (zb_sI τ 1390 p 0 v) 1392 r 0 = if 139 = 139 ∧ 4 * r + 3 = 4 * p + 1 then v else zJ σ 139 (4 * r + 3)
    rw [zb_I_ne _ (by decide), if_neg (by omega)]
    exact p2_c3 r hr
theorem zh_r1 (hH : zH p q ac τ σ w) : zw_I w 1390 (ac 7 p) 0 = zJ σ 139 (4 * p + 1) := by
  obtain ⟨hC, hI, ⟨h0, h1, h2, h3, h4, h5, h6, h7⟩, hR, hp⟩ := hH
  rw [zC_I hC 1390 7 p rfl (zp_a7 h2 hp), zP2_c1 h2 p hp]
theorem zh_c2 (hH : zH p q ac τ σ w) (v : Int32) : zH p q ac (zb_sI τ 1391 p 0 v) (zJ_s σ 139 (4 * p + 2) v) (zw_sI w 1391 (ac 7 p) 0 v) := by
  obtain ⟨hC, hI, ⟨h0, h1, h2, h3, h4, h5, h6, h7⟩, hR, hp⟩ := hH
  have a7 := zp_a7 h2 hp
  refine ⟨zC_sI hC 1391 7 p rfl a7 0 v, zct_I hI hp (c := 2) (by decide) v, ⟨h0, h1, ?_, h3, h4, h5, h6, h7⟩, hR, hp⟩
  obtain ⟨p2_n, p2_a, p2_r, p2_ha, p2_hl, p2_hr, p2_hn, p2_ga, p2_gl, p2_gr, p2_c0, p2_c1, p2_c2, p2_c3⟩ := h2
  refine ⟨p2_n, p2_a, p2_r, p2_ha, p2_hl, p2_hr, p2_hn, p2_ga, p2_gl, p2_gr, fun r hr => ?_, fun r hr => ?_, fun r hr => ?_, fun r hr => ?_⟩
  · have hr : r < zN σ 1595 0 := hr
    show zb_I (zb_sI τ 1391 p 0 v) 1389 r 0 = if 139 = 139 ∧ 4 * r = 4 * p + 2 then v else zJ σ 139 (4 * r)
    rw [zb_I_ne _ (by decide), if_neg (by omega)]
    exact p2_c0 r hr
  · have hr : r < zN σ 1595 0 := hr
    show zb_I (zb_sI τ 1391 p 0 v) 1390 r 0 = if 139 = 139 ∧ 4 * r + 1 = 4 * p + 2 then v else zJ σ 139 (4 * r + 1)
    rw [zb_I_ne _ (by decide), if_neg (by omega)]
    exact p2_c1 r hr
  · have hr : r < zN σ 1595 0 := hr
    show zb_I (zb_sI τ 1391 p 0 v) 1391 r 0 = if 139 = 139 ∧ 4 * r + 2 = 4 * p + 2 then v else zJ σ 139 (4 * r + 2)
    rw [zb_I_sI]
    by_cases hz : r = p
    · rw [if_pos ⟨rfl, hz, rfl⟩, if_pos ⟨rfl, by omega⟩]
    · rw [if_neg (fun z => hz z.2.1), if_neg (by omega)]
      exact p2_c2 r hr
  · have hr : r < zN σ 1595 0 := hr
    show zb_I (zb_sI τ 1391 p 0 v) 1392 r 0 = if 139 = 139 ∧ 4 * r + 3 = 4 * p + 2 then v else zJ σ 139 (4 * r + 3)
    rw [zb_I_ne _ (by decide), if_neg (by omega)]
    exact p2_c3 r hr
theorem zh_r2 (hH : zH p q ac τ σ w) : zw_I w 1391 (ac 7 p) 0 = zJ σ 139 (4 * p + 2) := by
  obtain ⟨hC, hI, ⟨h0, h1, h2, h3, h4, h5, h6, h7⟩, hR, hp⟩ := hH
  rw [zC_I hC 1391 7 p rfl (zp_a7 h2 hp), zP2_c2 h2 p hp]
theorem zh_c3 (hH : zH p q ac τ σ w) (v : Int32) : zH p q ac (zb_sI τ 1392 p 0 v) (zJ_s σ 139 (4 * p + 3) v) (zw_sI w 1392 (ac 7 p) 0 v) := by
  obtain ⟨hC, hI, ⟨h0, h1, h2, h3, h4, h5, h6, h7⟩, hR, hp⟩ := hH
  have a7 := zp_a7 h2 hp
  refine ⟨zC_sI hC 1392 7 p rfl a7 0 v, zct_I hI hp (c := 3) (by decide) v, ⟨h0, h1, ?_, h3, h4, h5, h6, h7⟩, hR, hp⟩
  obtain ⟨p2_n, p2_a, p2_r, p2_ha, p2_hl, p2_hr, p2_hn, p2_ga, p2_gl, p2_gr, p2_c0, p2_c1, p2_c2, p2_c3⟩ := h2
  refine ⟨p2_n, p2_a, p2_r, p2_ha, p2_hl, p2_hr, p2_hn, p2_ga, p2_gl, p2_gr, fun r hr => ?_, fun r hr => ?_, fun r hr => ?_, fun r hr => ?_⟩
  · have hr : r < zN σ 1595 0 := hr
    show zb_I (zb_sI τ 1392 p 0 v) 1389 r 0 = if 139 = 139 ∧ 4 * r = 4 * p + 3 then v else zJ σ 139 (4 * r)
    rw [zb_I_ne _ (by decide), if_neg (by omega)]
    exact p2_c0 r hr
  · have hr : r < zN σ 1595 0 := hr
    show zb_I (zb_sI τ 1392 p 0 v) 1390 r 0 = if 139 = 139 ∧ 4 * r + 1 = 4 * p + 3 then v else zJ σ 139 (4 * r + 1)
    rw [zb_I_ne _ (by decide), if_neg (by omega)]
    exact p2_c1 r hr
  · have hr : r < zN σ 1595 0 := hr
    show zb_I (zb_sI τ 1392 p 0 v) 1391 r 0 = if 139 = 139 ∧ 4 * r + 2 = 4 * p + 3 then v else zJ σ 139 (4 * r + 2)
    rw [zb_I_ne _ (by decide), if_neg (by omega)]
    exact p2_c2 r hr
  · have hr : r < zN σ 1595 0 := hr
    show zb_I (zb_sI τ 1392 p 0 v) 1392 r 0 = if 139 = 139 ∧ 4 * r + 3 = 4 * p + 3 then v else zJ σ 139 (4 * r + 3)
    rw [zb_I_sI]
    by_cases hz : r = p
    · rw [if_pos ⟨rfl, hz, rfl⟩, if_pos ⟨rfl, by omega⟩]
    · rw [if_neg (fun z => hz z.2.1), if_neg (by omega)]
      exact p2_c3 r hr
theorem zh_r3 (hH : zH p q ac τ σ w) : zw_I w 1392 (ac 7 p) 0 = zJ σ 139 (4 * p + 3) := by
  obtain ⟨hC, hI, ⟨h0, h1, h2, h3, h4, h5, h6, h7⟩, hR, hp⟩ := hH
  rw [zC_I hC 1392 7 p rfl (zp_a7 h2 hp), zP2_c3 h2 p hp]
theorem zH_at5 {ρ : Type} (hH : zH p q ac τ σ w) {K : Nat → Option ρ} : zf_at w 5 (some (ac 5 0)) K = K (ac 5 0) := zC_at hH.1 5 0 (zP0_a5 hH.2.2.1.1)
theorem zH_at7 {ρ : Type} (hH : zH p q ac τ σ w) {K : Nat → Option ρ} : zf_at w 7 (some (ac 7 p)) K = K (ac 7 p) := zC_at hH.1 7 p (zp_a7 hH.2.2.1.2.2.1 hH.2.2.2.2)
theorem zH_at1 {ρ : Type} (hH : zH p q ac τ σ w) {K : Nat → Option ρ} : zf_at w 1 (some (ac 1 0)) K = K (ac 1 0) := zC_at hH.1 1 0 (zP0_a1 hH.2.2.1.1)
theorem zH_pg (hH : zH p q ac τ σ w) : zw_R w 1257 (ac 5 0) 0 = some (ac 7 p) := zC_R hH.1 1257 5 7 0 rfl rfl (zP0_a5 hH.2.2.1.1) hH.2.2.2.1.1
theorem zH_ai (hH : zH p q ac τ σ w) : zw_R w 1256 (ac 5 0) 0 = some (ac 1 0) := zC_R hH.1 1256 5 1 0 rfl rfl (zP0_a5 hH.2.2.1.1) hH.2.2.2.1.2.1
theorem zH_bn (hH : zH p q ac τ σ w) : zw_I w 1001 (ac 1 0) 0 = nI (zN σ 1592 0) := by
  rw [zC_I hH.1 1001 1 0 rfl (zP0_a1 hH.2.2.1.1), zP7_n hH.2.2.1.2.2.2.2.2.2.2]
theorem zH_mp (hH : zH p q ac τ σ w) (h : zM m am σ w2) : zw_I w2 1607 m 0 = nI p := by
  rw [zM_fn h 1607 (by decide) (by decide), hH.2.2.2.1.2.2.1]
theorem zH_p6 (hH : zH p q ac τ σ w) : p < 6 := Nat.lt_of_lt_of_le hH.2.2.2.2 (zI_pgn hH.2.1)
/-- a counter grows, on the model's side -/
theorem zo_ct (hH : zH p q ac τ σ w) (h : zM m am σ w2) {c : Nat} (hc : c < 4) (v : Int32) : zM m am (zJ_s σ 139 (4 * p + c) v) (zw_sI w2 139 (am 139) (4 * p + c) v) := zM_sj h 139 (by decide) (4 * p + c) v
end ZH2
