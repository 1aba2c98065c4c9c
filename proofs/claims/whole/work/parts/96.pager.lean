/-! pager: the relation -/
section ZPAG4
variable {ac : Nat → Nat → Nat} {τ : zB} {am : Nat → Nat} {σ : zA} {w w2 : zw_T} {F m x : Nat}
theorem zpg_I7 (τ : zB) {p κ q : Nat} (h7 : zrw κ = 7) : zb_I (zpgT τ p) κ q 0 = if q = p then 0 else zb_I τ κ q 0 := by
  rw [zpg_I τ (by rw [h7]; decide) (by rw [h7]; decide)]
  by_cases hq : q = p
  · rw [if_pos ⟨h7, hq⟩, if_pos hq]
  · rw [if_neg (fun z => hq z.2), if_neg hq]
theorem zpg_Q (hI : zI σ) (hP : zP τ σ) : ∃ o, zPQ (zpgT τ (zN σ 1595 0)) (zN_s σ 1595 0 (zN σ 1595 0 + 1)) o (zN σ 1595 0) 0 := by
  have hc0 := zI_hc0 hI (zN σ 1595 0) (Nat.le_refl _)
  have ct := fun c hc => zI_ct0 hI (zN σ 1595 0) c (Nat.le_refl _) hc
  obtain ⟨h0, h1, h2, h3, ⟨o, h4⟩, h5, h6, h7, h8⟩ := hP
  have s1 : zN (zN_s σ 1595 0 (zN σ 1595 0 + 1)) 1595 0 = zN σ 1595 0 + 1 := rfl
  obtain ⟨p2_n, p2_a, p2_r, p2_ha, p2_hl, p2_hr, p2_hn, p2_ga, p2_gl, p2_gr, p2_c0, p2_c1, p2_c2, p2_c3⟩ := h2
  obtain ⟨p3_a, p3_r, p3_id, p3_ga, p3_la⟩ := h3
  obtain ⟨p4_a, p4_sa, p4_sl, p4_sr, p4_r, p4_o, p4_ol, p4_n, p4_id, p4_nu, p4_mk, p4_sn, p4_sg⟩ := h4
  have ho : ∀ q, q < zN σ 1595 0 → (if q = zN σ 1595 0 then 0 else o q) = o q := fun q hq => if_neg (by omega)
  refine ⟨fun q => if q = zN σ 1595 0 then 0 else o q, h0, h1, ⟨p2_n, p2_r, fun q => ?_, fun q => ?_, fun q hq => ?_, fun q hq => ?_, fun q hq => ?_, fun q => ?_, fun q hq => ?_, fun q hq => ?_, fun q hq => ?_, fun q hq => ?_, fun q hq => ?_, fun q hq => ?_⟩, ⟨fun i => ?_, fun q k hq hk => ?_, fun q k hq hk => ?_, fun q k hq hk => ?_, fun q k hq hk => ?_⟩, ⟨p4_a, p4_sa, p4_sl, p4_sr, fun q k hk hq => ?_, fun q hq => ?_, fun q hq => ?_, fun q hq => ?_, fun q k hq hk => ?_, fun q k hq hk => ?_, fun q k hq hk => ?_, fun q k hq hk => ?_, fun q k s hq hk hs => ?_⟩, h5, h6, h7, h8⟩
  · show zb_a (zb_new τ 7 (zN σ 1595 0) 0) 7 q = _
    rw [zb_a_new]
    by_cases hz : q = zN σ 1595 0
    · rw [if_pos ⟨rfl, hz⟩, decide_eq_true (by omega)]
    · rw [if_neg (fun z => hz z.2), p2_a q]
      exact decide_eq_decide.mpr (by omega)
  · show zb_a (zb_new (zb_new τ 7 (zN σ 1595 0) 0) 401 (zN σ 1595 0) 4) 401 q = _
    rw [zb_a_new]
    by_cases hz : q = zN σ 1595 0
    · rw [if_pos ⟨rfl, hz⟩, decide_eq_true (by omega)]
    · rw [if_neg (fun z => hz z.2)]
      show zb_a τ 401 q = _
      rw [p2_ha q]
      exact decide_eq_decide.mpr (by omega)
  · show zb_l (zb_new (zb_new τ 7 (zN σ 1595 0) 0) 401 (zN σ 1595 0) 4) 401 q = _
    rw [zb_l_new]
    by_cases hz : q = zN σ 1595 0
    · rw [if_pos ⟨rfl, hz⟩]
    · rw [if_neg (fun z => hz z.2)]
      exact p2_hl q (by omega)
  · show zb_R (zb_sR (zb_new (zb_new τ 7 (zN σ 1595 0) 0) 401 (zN σ 1595 0) 4) 1384 (zN σ 1595 0) 0 (some (zN σ 1595 0))) 1384 q 0 = _
    rw [zb_R_sR]
    by_cases hz : q = zN σ 1595 0
    · rw [if_pos ⟨rfl, hz, rfl⟩, hz]
    · rw [if_neg (fun z => hz z.2.1), zb_R_new, if_neg (fun z => hz z.2), zb_R_new, if_neg (fun z => hz z.2)]
      exact p2_hr q (by omega)
  · rw [zpg_I7 τ rfl]
    show _ = nI (zN σ 132 q)
    by_cases hz : q = zN σ 1595 0
    · rw [if_pos hz, hz, hc0.1]
      rfl
    · rw [if_neg hz]
      exact p2_hn q (by omega)
  · show zb_a (zb_new (zb_sI (zb_sR (zb_new (zb_new τ 7 (zN σ 1595 0) 0) 401 (zN σ 1595 0) 4) 1384 (zN σ 1595 0) 0 (some (zN σ 1595 0))) 1385 (zN σ 1595 0) 0 0) 407 (zN σ 1595 0) 10) 407 q = _
    rw [zb_a_new]
    by_cases hz : q = zN σ 1595 0
    · rw [if_pos ⟨rfl, hz⟩, decide_eq_true (by omega)]
    · rw [if_neg (fun z => hz z.2)]
      show zb_a τ 407 q = _
      rw [p2_ga q]
      exact decide_eq_decide.mpr (by omega)
  · show zb_l (zb_new (zb_sI (zb_sR (zb_new (zb_new τ 7 (zN σ 1595 0) 0) 401 (zN σ 1595 0) 4) 1384 (zN σ 1595 0) 0 (some (zN σ 1595 0))) 1385 (zN σ 1595 0) 0 0) 407 (zN σ 1595 0) 10) 407 q = _
    rw [zb_l_new]
    by_cases hz : q = zN σ 1595 0
    · rw [if_pos ⟨rfl, hz⟩]
    · rw [if_neg (fun z => hz z.2)]
      exact p2_gl q (by omega)
  · show zb_R (zb_sR (zb_new (zb_sI (zb_sR (zb_new (zb_new τ 7 (zN σ 1595 0) 0) 401 (zN σ 1595 0) 4) 1384 (zN σ 1595 0) 0 (some (zN σ 1595 0))) 1385 (zN σ 1595 0) 0 0) 407 (zN σ 1595 0) 10) 1386 (zN σ 1595 0) 0 (some (zN σ 1595 0))) 1386 q 0 = _
    rw [zb_R_sR]
    by_cases hz : q = zN σ 1595 0
    · rw [if_pos ⟨rfl, hz, rfl⟩, hz]
    · rw [if_neg (fun z => hz z.2.1), zb_R_new, if_neg (fun z => hz z.2)]
      show zb_R (zb_new (zb_new τ 7 (zN σ 1595 0) 0) 401 (zN σ 1595 0) 4) 1386 q 0 = _
      rw [zb_R_new, if_neg (fun z => hz z.2), zb_R_new, if_neg (fun z => hz z.2)]
      exact p2_gr q (by omega)
  · rw [zpg_I7 τ rfl]
    show _ = zJ σ 139 (4 * q)
    by_cases hz : q = zN σ 1595 0
    · rw [if_pos hz, hz]
      exact (ct 0 (by decide)).symm
    · rw [if_neg hz]
      exact p2_c0 q (by omega)
  · rw [zpg_I7 τ rfl]
    show _ = zJ σ 139 (4 * q + 1)
    by_cases hz : q = zN σ 1595 0
    · rw [if_pos hz, hz]
      exact (ct 1 (by decide)).symm
    · rw [if_neg hz]
      exact p2_c1 q (by omega)
  · rw [zpg_I7 τ rfl]
    show _ = zJ σ 139 (4 * q + 2)
    by_cases hz : q = zN σ 1595 0
    · rw [if_pos hz, hz]
      exact (ct 2 (by decide)).symm
    · rw [if_neg hz]
      exact p2_c2 q (by omega)
  · rw [zpg_I7 τ rfl]
    show _ = zJ σ 139 (4 * q + 3)
    by_cases hz : q = zN σ 1595 0
    · rw [if_pos hz, hz]
      exact (ct 3 (by decide)).symm
    · rw [if_neg hz]
      exact p2_c3 q (by omega)
  · show zb_a τ 2 i = (decide (i / 4 < zN σ 1595 0 + 1) && decide (i % 4 < zN σ 132 (i / 4)))
    rw [p3_a i]
    by_cases hz : i / 4 = zN σ 1595 0
    · rw [hz, hc0.1, decide_eq_false (by omega : ¬ i % 4 < 0), Bool.and_false, Bool.and_false]
    · congr 1
      exact decide_eq_decide.mpr (by omega)
  · have hk : k < zN σ 132 q := hk
    have hq : q < zN σ 1595 0 := by
      rw [s1] at hq
      by_cases hz : q = zN σ 1595 0
      · rw [hz, hc0.1] at hk
        omega
      · omega
    show zb_R (zb_new (zb_new τ 7 (zN σ 1595 0) 0) 401 (zN σ 1595 0) 4) 401 q k = _
    rw [zb_R_new, if_neg (by omega)]
    exact p3_r q k hq hk
  · have hk : k < zN σ 132 q := hk
    have hq : q < zN σ 1595 0 := by
      rw [s1] at hq
      by_cases hz : q = zN σ 1595 0
      · rw [hz, hc0.1] at hk
        omega
      · omega
    exact p3_id q k hq hk
  · have hk : k < zN σ 132 q := hk
    have hq : q < zN σ 1595 0 := by
      rw [s1] at hq
      by_cases hz : q = zN σ 1595 0
      · rw [hz, hc0.1] at hk
        omega
      · omega
    exact p3_ga q k hq hk
  · have hk : k < zN σ 132 q := hk
    have hq : q < zN σ 1595 0 := by
      rw [s1] at hq
      by_cases hz : q = zN σ 1595 0
      · rw [hz, hc0.1] at hk
        omega
      · omega
    exact p3_la q k hq hk
  · show zb_R (zb_new (zb_sI (zb_sR (zb_new (zb_new τ 7 (zN σ 1595 0) 0) 401 (zN σ 1595 0) 4) 1384 (zN σ 1595 0) 0 (some (zN σ 1595 0))) 1385 (zN σ 1595 0) 0 0) 407 (zN σ 1595 0) 10) 407 q k = _
    rw [zb_R_new, if_neg (by omega)]
    exact p4_r q k (by omega) hk
  · show (if q = zN σ 1595 0 then 0 else o q) < 10
    by_cases hz : q = zN σ 1595 0
    · rw [if_pos hz]
      decide
    · rw [if_neg hz]
      exact p4_o q (by omega)
  · rw [zpg_I7 τ rfl]
    show _ = nI (if q = zN σ 1595 0 then 0 else o q)
    by_cases hz : q = zN σ 1595 0
    · rw [if_pos hz, if_pos hz]
      rfl
    · rw [if_neg hz, if_neg hz]
      exact p4_ol q (by omega)
  · rw [zpg_I7 τ rfl]
    show _ = nI (zN σ 133 q)
    by_cases hz : q = zN σ 1595 0
    · rw [if_pos hz, hz, hc0.2]
      rfl
    · rw [if_neg hz]
      exact p4_n q (by omega)
  · show zb_I _ 1448 (10 * q + ((if q = zN σ 1595 0 then 0 else o q) + k) % 10) 0 = _
    rw [ho q hq]
    exact p4_id q k hq hk
  · show zb_I _ 1449 (10 * q + ((if q = zN σ 1595 0 then 0 else o q) + k) % 10) 0 = _
    rw [ho q hq]
    exact p4_nu q k hq hk
  · show zb_I _ 1450 (10 * q + ((if q = zN σ 1595 0 then 0 else o q) + k) % 10) 0 = _
    rw [ho q hq]
    exact p4_mk q k hq hk
  · show zb_I _ 1452 (10 * q + ((if q = zN σ 1595 0 then 0 else o q) + k) % 10) 0 = _
    rw [ho q hq]
    exact p4_sn q k hq hk
  · show zb_I _ 104 (10 * q + ((if q = zN σ 1595 0 then 0 else o q) + k) % 10) s = _
    rw [ho q hq]
    exact p4_sg q k s hq hk hs
theorem zPQ_P {o : Nat → Nat} {p : Nat} (hp : zN σ 1595 0 = p + 1) (hc : zN σ 133 p = 0) (h : zPQ τ σ o p 10) : zP (zb_sI (zb_sR τ 406 0 p (some p)) 1515 0 0 (nI (p + 1))) σ := by
  obtain ⟨h0, h1, ⟨g1, g2, g3, g4, g5, g6, g7, g8, g9, g10, g11, g12, g13, g14⟩, h3, ⟨q1, q2, q3, q4, q5, q6, q7, q8, q9, q10, q11, q12, q13⟩, h5, h6, h7, h8⟩ := h
  have lt : ∀ q k, q < p + 1 → k < zN σ 133 q → q < p := by
    intro q k hq hk
    by_cases hz : q = p
    · rw [hz, hc] at hk
      omega
    · omega
  refine ⟨h0, h1, ?_, h3, ⟨o, ?_⟩, h5, h6, h7, h8⟩
  · unfold zP2
    rw [hp]
    refine ⟨rfl, g3, fun q hq => ?_, g4, g5, g6, g7, g8, g9, g10, g11, g12, g13, g14⟩
    show (if 406 = 406 ∧ 0 = 0 ∧ q = p then some p else zb_R τ 406 0 q) = _
    by_cases hz : q = p
    · rw [if_pos ⟨rfl, rfl, hz⟩, hz]
    · rw [if_neg (fun z => hz z.2.2)]
      exact g2 q (by omega)
  · unfold zP4
    rw [hp]
    exact ⟨q1, q2, q3, q4, fun q k hq hk => q5 q k hk (by omega), q6, q7, q8, fun q k a b => q9 q k (lt q k a b) b, fun q k a b => q10 q k (lt q k a b) b, fun q k a b => q11 q k (lt q k a b) b, fun q k a b => q12 q k (lt q k a b) b, fun q k s a b c => q13 q k s (lt q k a b) b c⟩
theorem zop_pager : zop x m (fun w => zf_WP_pager F w x) (fun w => zf_Mo_pager F w m) := by
  intro ac τ am σ w1 hx hC hI hP hB
  subst hx
  have hP' := hP
  obtain ⟨h0, h1, h2, h3, ⟨o, h4⟩, h5, h6, h7, h8⟩ := hP
  have i1 := zI_pgn hI
  show ∃ v w1' ac' τ' σ', zf_WP_pager F w1 (ac 9 0) = _ ∧ _
  by_cases h6p : zN σ 1595 0 = 6
  · refine ⟨-1, w1, ac, τ, σ, ?_, rfl, hC, hI, hP', fun w2 h => ⟨w2, ?_, h⟩⟩
    · unfold zf_WP_pager
      rw [zC_at hC 9 0 (zP0_a9 h0), zC_I hC 1515 9 0 rfl (zP0_a9 h0), zP2_n h2, h6p, if_neg (by decide)]
    · show zf_Mo_pager F w2 m = _
      unfold zf_Mo_pager
      rw [zM_at h, zM_fn h 1595 (by decide) (by decide), h6p, if_pos (by decide)]
  · obtain ⟨o', hQ⟩ := zpg_Q hI hP'
    obtain ⟨ac1, e1, e2, c1⟩ := zC_newE hC hB 7 (zN σ 1595 0) 0 (by decide) ((zP2_a h2 _).trans (decide_eq_false (Nat.lt_irrefl _)))
    have b1 := zo_b_new hB 7 0
    obtain ⟨ac2, τ2, w2, f1, c2, hQ2, e3⟩ := zc_pgi (F := F) c1 b1 hQ ((zP2_ha h2 _).trans (decide_eq_false (Nat.lt_irrefl _))) ((zP2_ga h2 _).trans (decide_eq_false (Nat.lt_irrefl _)))
    have k0 := hQ2.1
    have a7 : zb_a τ2 7 (zN σ 1595 0) = true := (hQ2.2.2.1.2.2.1 _).trans (decide_eq_true (by omega))
    have n1 : zb_I τ2 1515 0 0 = nI (zN σ 1595 0) := hQ2.2.2.1.1
    have c3 := zC_sR c2 406 406 7 0 rfl rfl (zP0_a406 k0) (zN σ 1595 0) (v := some (zN σ 1595 0)) (fun j hj => by cases hj; exact a7)
    have c3' : zC ac2 _ (zw_sR w2 406 (ac2 406 0) (zN σ 1595 0) (some (ac2 7 (zN σ 1595 0)))) := c3
    have c4 := zC_sI c3' 1515 9 0 rfl (zP0_a9 k0) 0 (nI (zN σ 1595 0 + 1))
    have x9 : ac2 9 0 = ac 9 0 := (e3 9 0 (by decide) (by decide) (by decide) (by decide)).trans (e2 9 0 (by omega))
    have x4 : ac2 406 0 = ac 406 0 := (e3 406 0 (by decide) (by decide) (by decide) (by decide)).trans (e2 406 0 (by omega))
    have x7 := e3 7 (zN σ 1595 0) (by decide) (by decide) (by decide) (by decide)
    have k3 : zw_I (zw_sR w2 406 (ac2 406 0) (zN σ 1595 0) (some (ac2 7 (zN σ 1595 0)))) 1515 (ac2 9 0) 0 = nI (zN σ 1595 0) := (zC_I c3' 1515 9 0 rfl (zP0_a9 k0) 0).trans n1
    have k4 := zC_I c4 1515 9 0 rfl (zP0_a9 k0) 0
    rw [zb_I_sI, if_pos ⟨rfl, rfl, rfl⟩] at k4
    refine ⟨nI (zN σ 1595 0), _, ac2, _, zN_s σ 1595 0 (zN σ 1595 0 + 1), ?_, x9, c4, ?_, zPQ_P rfl (zI_hc0 hI _ (Nat.le_refl _)).2 hQ2, fun w2 h => ?_⟩
    · unfold zf_WP_pager
      rw [zC_at hC 9 0 (zP0_a9 h0), zC_I hC 1515 9 0 rfl (zP0_a9 h0), zP2_n h2, if_pos (show nI (zN σ 1595 0) < (6 : Int32) from (nI_ltI (b := 6) (by omega) (by decide)).mpr (by omega)), zC_at hC 9 0 (zP0_a9 h0), zC_at hC 9 0 (zP0_a9 h0), zlt_s, ← e1, f1, zbv_s, ← x7, zC_at c2 7 _ a7, zC_R hC 1514 9 406 0 rfl rfl (zP0_a9 h0) (zP0_r1514 h0), zC_I hC 1515 9 0 rfl (zP0_a9 h0), zP2_n h2, ← x4, ← x9, zC_ix c2 406 0 (zP0_a406 k0) (by rw [zP0_l406 k0]; omega) (by omega), zlt_s, zC_at c3' 9 0 (zP0_a9 k0), zC_at c3' 9 0 (zP0_a9 k0), k3, zs1, zlt_s, zC_at c4 9 0 (zP0_a9 k0), k4, show nI (zN σ 1595 0 + 1) - (1 : Int32) = nI (zN σ 1595 0) from pk_sub (a := zN σ 1595 0 + 1) (b := 1) (by omega)]
    · obtain ⟨i_idn, i_msn, i_ldn, i_bts, i_pgn, i_b32, i_adr, i_res, i_inj, i_knd, i_cal, i_cal0, i_mto, i_mpr, i_mnu, i_mle, i_wts, i_wtn, i_ld, i_mk, i_air, i_hcn, i_hrs, i_hc0, i_ct0, i_mi0, i_dis, i_kpn, i_kmn, i_kof, i_knu, i_lat⟩ := hI
      exact ⟨i_idn, i_msn, i_ldn, i_bts, (show zN σ 1595 0 + 1 ≤ 6 by omega), i_b32, i_adr, i_res, i_inj, i_knd, i_cal, i_cal0, i_mto, i_mpr, i_mnu, i_mle, i_wts, i_wtn, i_ld, i_mk, i_air, i_hcn, i_hrs, fun p hp => i_hc0 p (Nat.le_of_succ_le hp), fun p c hp hc => i_ct0 p c (Nat.le_of_succ_le hp) hc, i_mi0, i_dis, i_kpn, i_kmn, i_kof, i_knu, i_lat⟩
    · have m1 := zM_sfn h 1595 (by decide) (by decide) (zN σ 1595 0 + 1)
      refine ⟨_, ?_, m1⟩
      show zf_Mo_pager F w2 m = _
      have k5 : zN (zN_s σ 1595 0 (zN σ 1595 0 + 1)) 1595 0 = zN σ 1595 0 + 1 := rfl
      unfold zf_Mo_pager
      rw [zM_at h, zM_fn h 1595 (by decide) (by decide), if_neg (show ¬ nI (zN σ 1595 0) = (6 : Int32) from fun q => h6p ((nI_eqI (b := 6) (by omega) (by decide)).mp q)), zM_at h, zM_at h, zM_fn h 1595 (by decide) (by decide), zs1, zlt_s, zM_at m1, zM_fn m1 1595 (by decide) (by decide), k5, show nI (zN σ 1595 0 + 1) - (1 : Int32) = nI (zN σ 1595 0) from pk_sub (a := zN σ 1595 0 + 1) (b := 1) (by omega)]
end ZPAG4
