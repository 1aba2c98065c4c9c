/-! call: both sides -/
section ZCALL12
variable {ac : Nat → Nat → Nat} {τ : zB} {am : Nat → Nat} {σ : zA} {w w2 : zw_T} {F m x : Nat}
theorem zc_als (hF : 2500 ≤ F) (hC : zC ac τ w) (hI : zI σ) (h0 : zP0 τ) (h1 : zP1 τ σ) (h6 : zP6 τ σ) {i : Nat} (hi : i < zN σ 1576 0) : zf_WP_areLoadedSignsOf F w (ac 9 0) (some (ac 3 i)) = some (zd (!zany (zbad σ i) 0 (zN σ 1588 0) && decide (0 < zN σ 1588 0)), w) := by
  have i1 := zI_ldn hI
  unfold zf_WP_areLoadedSignsOf
  rw [zlt_s]
  exact zc_alL hC hI h0 h1 h6 hi (zN σ 1588 0) F 0 (by omega) (by omega)
theorem zc_caT (hF : 2500 ≤ F) (hC : zC ac τ w) (hB : zo_b w) (hI : zI σ) (hP : zP τ σ) {i pr : Nat} (hi : i < zN σ 1576 0) (hp : pr < 4) (q1 : zN σ 1588 0 ≠ 0) (q2 : zwait (zN σ 200) 0 (zN σ 1580 0) ≠ 60) (q3 : zN σ 1580 0 ≠ 200) (q4 : zany (zbad σ i) 0 (zN σ 1588 0) = false) : ∃ ac' τ' w', zf_WP_call F w (ac 9 0) (nI i) (nI pr) = some (nI (zN σ 122 i % 64), w') ∧ ac' 9 0 = ac 9 0 ∧ zC ac' τ' w' ∧ zP τ' (zcaF σ i pr) := by
  have hP' := hP
  obtain ⟨h0, h1, h2, h3, ⟨o, h4⟩, h5, h6, h7, h8⟩ := hP
  have i1 := zI_ldn hI
  have i2 := zI_wtn hI
  have i3 := zI_msn hI
  have i4 := zI_knd hI i
  have i5 := zI_cal hI i
  have a3 := zp_a3 h1 hi
  obtain ⟨ac1, e1, e2, c1⟩ := zC_newE hC hB 6 (zN σ 1580 0) 0 (by decide) ((zP5_a h5 _).trans (decide_eq_false (Nat.lt_irrefl _)))
  have b1 := zo_b_new hB 6 0
  have a6 : zb_a (zb_new τ 6 (zN σ 1580 0) 0) 6 (zN σ 1580 0) = true := by rw [zb_a_new, if_pos ⟨rfl, rfl⟩]
  obtain ⟨ac2, w3, f, r1, c2, r3, b2, e3⟩ := zc_cpy (F := F) c1 b1 h0 (k := zN σ 1580 0) (n := zN σ 1588 0) i1 ((zP5_sa h5 _).trans (decide_eq_false (Nat.lt_irrefl _)))
  have a5 : zb_a (zb_new (zb_new τ 6 (zN σ 1580 0) 0) 105 (zN σ 1580 0) (zN σ 1588 0)) 105 (zN σ 1580 0) = true := by rw [zb_a_new, if_pos ⟨rfl, rfl⟩]
  have l5 : zb_l (zb_new (zb_new τ 6 (zN σ 1580 0) 0) 105 (zN σ 1580 0) (zN σ 1588 0)) 105 (zN σ 1580 0) = zN σ 1588 0 := by rw [zb_l_new, if_pos ⟨rfl, rfl⟩]
  have e5 : zb_I (zb_sF (zb_new (zb_new τ 6 (zN σ 1580 0) 0) 105 (zN σ 1580 0) (zN σ 1588 0)) 105 (zN σ 1580 0) f) 105 (zN σ 1580 0) = f := zb_I_sF _ 105 _ f
  have hL : znw (zcaF σ i pr) (zN σ 1580 0) = 1 + ((zN σ 1588 0 + (if zN σ 121 i = 0 then 2 else 1)) * zwide σ i + 19) / 20 := by
    have n3 : zN (zcaF σ i pr) 123 (zN σ 1580 0) = i := if_pos ⟨rfl, rfl⟩
    have n6 : zN (zcaF σ i pr) 126 (zN σ 1580 0) = zN σ 1588 0 := if_pos ⟨rfl, rfl⟩
    unfold znw
    rw [n3, n6]
    rfl
  obtain ⟨ac3, w4, f2, s1, c3, b3, e4, s5, s6⟩ := zc_msi (F := F) hF c2 b2 (i := i) (kd := zN σ 121 i) (k := zN σ 1580 0) (n := zN σ 1588 0) (num := zN σ 122 i % 64) (wd := zwide σ i) (L := znw (zcaF σ i pr) (zN σ 1580 0)) (pr := nI pr) i4 rfl i1 (Nat.mod_lt _ (by decide)) hL a6 a3 (zP1_tx h1 i hi) (zP1_fl h1 i hi) (zP1_sb h1 i hi) a5 l5 ((zP5_wa h5 _).trans (decide_eq_false (Nat.lt_irrefl _)))
  have c4 := zC_sR c3 405 405 6 0 rfl rfl (zP0_a405 h0) (zN σ 1580 0) (v := some (zN σ 1580 0)) (fun j hj => by cases hj; exact a6)
  have c4' : zC ac3 _ (zw_sR w4 405 (ac3 405 0) (zN σ 1580 0) (some (ac3 6 (zN σ 1580 0)))) := c4
  have c5 := zC_sI c4' 1517 9 0 rfl (zP0_a9 h0) 0 (nI (zN σ 1580 0 + 1))
  have c6 := zC_sI c5 1518 9 0 rfl (zP0_a9 h0) 0 (nI (zwait (zN σ 200) 0 (zN σ 1580 0) + 1))
  have c7 := zC_sI c6 1137 3 i rfl a3 0 (nI (zN σ 122 i + 1))
  have c8 := zC_sI c7 1520 9 0 rfl (zP0_a9 h0) 0 0
  have x9a := e2 9 0 (by omega)
  have x9b : ac3 9 0 = ac1 9 0 := (e4 9 0 (by decide)).trans (e3 9 0 (by decide))
  have x3a := e2 3 i (by omega)
  have x3b := e3 3 i (by decide)
  have x3c := e4 3 i (by decide)
  have x6b := e3 6 (zN σ 1580 0) (by decide)
  have x6c := e4 6 (zN σ 1580 0) (by decide)
  have x405 : ac3 405 0 = ac 405 0 := (e4 405 0 (by decide)).trans ((e3 405 0 (by decide)).trans (e2 405 0 (by omega)))
  have g1 : zw_R (zw_new w 6 0) 1519 (ac1 9 0) 0 = some (ac1 100 0) := zC_R c1 1519 9 100 0 rfl rfl (zP0_a9 h0) (zP0_r1519 h0)
  have g2 : zw_I (zw_new w 6 0) 1520 (ac1 9 0) 0 = nI (zN σ 1588 0) := (zC_I c1 1520 9 0 rfl (zP0_a9 h0) 0).trans (zP6_n h6 :)
  have g3 : zw_I (zw_sR w4 405 (ac3 405 0) (zN σ 1580 0) (some (ac3 6 (zN σ 1580 0)))) 1517 (ac3 9 0) 0 = nI (zN σ 1580 0) := (zC_I c4' 1517 9 0 rfl (zP0_a9 h0) 0).trans (zP5_n h5 :)
  have g4 : zw_I _ 1518 (ac3 9 0) 0 = nI (zwait (zN σ 200) 0 (zN σ 1580 0)) := (zC_I c5 1518 9 0 rfl (zP0_a9 h0) 0).trans (zP5_wt h5 :)
  have g5 : zw_I _ 1137 (ac3 3 i) 0 = nI (zN σ 122 i) := (zC_I c6 1137 3 i rfl a3 0).trans (zP1_ca h1 i hi :)
  rw [e5] at s6
  refine ⟨ac3, _, _, ?_, x9b.trans x9a, c8, zca_P hI hP' hi rfl (fun s hs => r3 s hs) s5 s6⟩
  unfold zf_WP_call
  rw [zC_at hC 9 0 (zP0_a9 h0), zc_id1 hC hI h0 h1 hi, zbd_s, zlt_s, if_neg (by simp), if_neg (nI_pos (by omega)), if_neg (show ¬ (3 : Int32) < nI pr from zn_lt (a := 3) (by decide) (by omega) (by omega)), zC_at hC 9 0 (zP0_a9 h0), zc_als hF hC hI h0 h1 h6 hi, q4, decide_eq_true (by omega : 0 < zN σ 1588 0), zbd_s, if_neg (by decide), zC_at hC 9 0 (zP0_a9 h0), zC_I hC 1518 9 0 rfl (zP0_a9 h0), zP5_wt h5, if_neg (show ¬ (60 : Int32) ≤ nI (zwait (zN σ 200) 0 (zN σ 1580 0)) from zn_le (a := 60) (by decide) (by omega) (by omega)), zC_at hC 9 0 (zP0_a9 h0), zC_I hC 1517 9 0 rfl (zP0_a9 h0), zP5_n h5, if_pos (show nI (zN σ 1580 0) < (200 : Int32) from (nI_ltI (b := 200) (by omega) (by decide)).mpr (by omega)), zC_at hC 3 i a3, zC_I hC 1137 3 i rfl a3, zP1_ca h1 i hi, show (64 : Int32) = nI 64 from rfl, zq_rem (by omega) (by decide) (by decide), zlt_s, zC_at hC 9 0 (zP0_a9 h0), zC_at hC 9 0 (zP0_a9 h0), zC_R hC 1516 9 405 0 rfl rfl (zP0_a9 h0) (zP0_r1516 h0), zC_I hC 1517 9 0 rfl (zP0_a9 h0), zP5_n h5, zlt_s, ← e1, ← x9a, ← x3a, ← x405, zC_at c1 9 0 (zP0_a9 h0), zC_at c1 9 0 (zP0_a9 h0), g1, g2, r1, zbd_s, ← x6b, ← x3b, s1, zbv_s, ← x6c, ← x3c, ← x9b, zC_at c3 6 _ a6, zC_ix c3 405 0 (zP0_a405 h0) (show zN σ 1580 0 < zb_l τ 405 0 by rw [zP0_l405 h0]; omega) (by omega), zlt_s, zC_at c4' 9 0 (zP0_a9 h0), zC_at c4' 9 0 (zP0_a9 h0), g3, zs1, zlt_s, zC_at c5 9 0 (zP0_a9 h0), zC_at c5 9 0 (zP0_a9 h0), g4, zs1, zlt_s, zC_at c6 3 i a3, zC_at c6 3 i a3, g5, zs1, zlt_s, zC_at c7 9 0 (zP0_a9 h0), zlt_s]
end ZCALL12
