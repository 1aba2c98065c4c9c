/-! identity, whole -/
theorem zidT_1137 (τ : zB) (q : Nat) (x1 : Int32) (a b j : Nat) : zb_I (zidT τ q x1 a b) 1137 j 0 = if j = q then 0 else zb_I τ 1137 j 0 := by
  unfold zidT
  simp only [zb_I_sI, Nat.reduceEqDiff, false_and, if_false, true_and, and_true]
theorem zidT_1128 (τ : zB) (q : Nat) (x1 : Int32) (a b j : Nat) : zb_I (zidT τ q x1 a b) 1128 j 0 = if j = q then x1 else zb_I τ 1128 j 0 := by
  unfold zidT
  simp only [zb_I_sI, Nat.reduceEqDiff, false_and, if_false, true_and, and_true]
theorem zidT_1129 (τ : zB) (q : Nat) (x1 : Int32) (a b j : Nat) : zb_I (zidT τ q x1 a b) 1129 j 0 = if j = q then nI a else zb_I τ 1129 j 0 := by
  unfold zidT
  simp only [zb_I_sI, Nat.reduceEqDiff, false_and, if_false, true_and, and_true]
theorem zidT_1130 (τ : zB) (q : Nat) (x1 : Int32) (a b j : Nat) : zb_I (zidT τ q x1 a b) 1130 j 0 = if j = q then nI b else zb_I τ 1130 j 0 := by
  unfold zidT
  simp only [zb_I_sI, Nat.reduceEqDiff, false_and, if_false, true_and, and_true]
theorem zidT_1131 (τ : zB) (q : Nat) (x1 : Int32) (a b j : Nat) : zb_I (zidT τ q x1 a b) 1131 j 0 = if j = q then nI (a % 8) else zb_I τ 1131 j 0 := by
  unfold zidT
  simp only [zb_I_sI, Nat.reduceEqDiff, false_and, if_false, true_and, and_true]
theorem zidT_1132 (τ : zB) (q : Nat) (x1 : Int32) (a b j : Nat) : zb_I (zidT τ q x1 a b) 1132 j 0 = if j = q then zn_cw (nI (4 * (a / 8) + (if b = 0 then 0 else 3))) else zb_I τ 1132 j 0 := by
  unfold zidT
  simp only [zb_I_sI, Nat.reduceEqDiff, false_and, if_false, true_and, and_true]
theorem zidT_1133 (τ : zB) (q : Nat) (x1 : Int32) (a b j : Nat) : zb_I (zidT τ q x1 a b) 1133 j 0 = if j = q then nI (if b = 0 then 0 else 32) else zb_I τ 1133 j 0 := by
  unfold zidT
  simp only [zb_I_sI, Nat.reduceEqDiff, false_and, if_false, true_and, and_true]
theorem zidT_1134 (τ : zB) (q : Nat) (x1 : Int32) (a b j : Nat) : zb_I (zidT τ q x1 a b) 1134 j 0 = if j = q then nI (if b = 0 then 11 else 126) else zb_I τ 1134 j 0 := by
  unfold zidT
  simp only [zb_I_sI, Nat.reduceEqDiff, false_and, if_false, true_and, and_true]
theorem zidT_1135 (τ : zB) (q : Nat) (x1 : Int32) (a b j : Nat) : zb_I (zidT τ q x1 a b) 1135 j 0 = if j = q then nI (if b = 0 then 4 else 7) else zb_I τ 1135 j 0 := by
  unfold zidT
  simp only [zb_I_sI, Nat.reduceEqDiff, false_and, if_false, true_and, and_true]
theorem zidT_1136 (τ : zB) (q : Nat) (x1 : Int32) (a b j : Nat) : zb_I (zidT τ q x1 a b) 1136 j 0 = if j = q then nI (if b = 0 then 12 else 0) else zb_I τ 1136 j 0 := by
  unfold zidT
  simp only [zb_I_sI, Nat.reduceEqDiff, false_and, if_false, true_and, and_true]
section ZIDEN2
variable {ac : Nat → Nat → Nat} {τ : zB} {am : Nat → Nat} {σ : zA} {w w2 : zw_T} {F m x : Nat}
theorem zid_I (hI : zI σ) {a b : Nat} (ha : a < 2097152) (hb : b < 2) (hl : zN σ 1576 0 < 12) (hr : a / 8 ≠ 250958) (hu : ∀ j, j < zN σ 1576 0 → zN σ 120 j ≠ a) : zI (zidS σ a b) := by
  have s0 : ∀ j, zN (zidS σ a b) 120 j = if j = zN σ 1576 0 then a else zN σ 120 j := fun j => by
    show (if 120 = 120 ∧ j = zN σ 1576 0 then a else zN σ 120 j) = _
    by_cases hq : j = zN σ 1576 0
    · rw [if_pos ⟨rfl, hq⟩, if_pos hq]
    · rw [if_neg (fun z => hq z.2), if_neg hq]
  have s1 : ∀ j, zN (zidS σ a b) 121 j = if j = zN σ 1576 0 then b else zN σ 121 j := fun j => by
    show (if 121 = 121 ∧ j = zN σ 1576 0 then b else zN σ 121 j) = _
    by_cases hq : j = zN σ 1576 0
    · rw [if_pos ⟨rfl, hq⟩, if_pos hq]
    · rw [if_neg (fun z => hq z.2), if_neg hq]
  have s2 : zN (zidS σ a b) 1576 0 = zN σ 1576 0 + 1 := rfl
  obtain ⟨i_idn, i_msn, i_ldn, i_bts, i_pgn, i_b32, i_adr, i_res, i_inj, i_knd, i_cal, i_cal0, i_mto, i_mpr, i_mnu, i_mle, i_wts, i_wtn, i_ld, i_mk, i_air, i_hcn, i_hrs, i_hc0, i_ct0, i_mi0, i_dis, i_kpn, i_kmn, i_kof, i_knu, i_lat⟩ := hI
  refine ⟨hl, i_msn, i_ldn, i_bts, i_pgn, i_b32, fun i => ?_, fun i hi => ?_, fun i j hi hj e => ?_, fun i => ?_, i_cal, fun i hi => ?_, fun k hk => Nat.lt_succ_of_lt (i_mto k hk), i_mpr, i_mnu, i_mle, i_wts, i_wtn, i_ld, i_mk, i_air, i_hcn, fun p h hp hh => Nat.lt_succ_of_lt (i_hrs p h hp hh), i_hc0, i_ct0, i_mi0, i_dis, i_kpn, i_kmn, i_kof, i_knu, i_lat⟩
  · rw [s0]
    split
    · exact ha
    · exact i_adr i
  · rw [s0]
    rw [s2] at hi
    by_cases hq : i = zN σ 1576 0
    · rw [if_pos hq]
      exact hr
    · rw [if_neg hq]
      exact i_res i (by omega)
  · rw [s2] at hi hj
    rw [s0, s0] at e
    by_cases hq : i = zN σ 1576 0
    · by_cases hq2 : j = zN σ 1576 0
      · omega
      · rw [if_pos hq, if_neg hq2] at e
        exact absurd e.symm (hu j (by omega))
    · by_cases hq2 : j = zN σ 1576 0
      · rw [if_neg hq, if_pos hq2] at e
        exact absurd e (hu i (by omega))
      · rw [if_neg hq, if_neg hq2] at e
        exact i_inj i j (by omega) (by omega) e
  · rw [s1]
    split
    · exact hb
    · exact i_knd i
  · rw [s2] at hi
    exact i_cal0 i (by omega)
theorem zid_P (hI : zI σ) (hP : zP τ σ) {a b : Nat} : zP (zb_sI (zb_sR (zidT (zb_new τ 3 (zN σ 1576 0) 0) (zN σ 1576 0) (nI (zN σ 1576 0)) a b) 402 0 (zN σ 1576 0) (some (zN σ 1576 0))) 1513 0 0 (nI (zN σ 1576 0 + 1))) (zidS σ a b) := by
  have s0 : ∀ j, zN (zidS σ a b) 120 j = if j = zN σ 1576 0 then a else zN σ 120 j := fun j => by
    show (if 120 = 120 ∧ j = zN σ 1576 0 then a else zN σ 120 j) = _
    by_cases hq : j = zN σ 1576 0
    · rw [if_pos ⟨rfl, hq⟩, if_pos hq]
    · rw [if_neg (fun z => hq z.2), if_neg hq]
  have s1 : ∀ j, zN (zidS σ a b) 121 j = if j = zN σ 1576 0 then b else zN σ 121 j := fun j => by
    show (if 121 = 121 ∧ j = zN σ 1576 0 then b else zN σ 121 j) = _
    by_cases hq : j = zN σ 1576 0
    · rw [if_pos ⟨rfl, hq⟩, if_pos hq]
    · rw [if_neg (fun z => hq z.2), if_neg hq]
  have s2 : zN (zidS σ a b) 1576 0 = zN σ 1576 0 + 1 := rfl
  have s3 : ∀ j, zN (zidS σ a b) 122 j = zN σ 122 j := fun j => rfl
  obtain ⟨h0, h1, h2, h3, ⟨o, h4⟩, h5, h6, h7, h8⟩ := hP
  refine ⟨h0, ?_, h2, h3, ⟨o, h4⟩, ?_, h6, h7, h8⟩
  · obtain ⟨p1_n, p1_a, p1_r, p1_ix, p1_ad, p1_tx, p1_fr, p1_aw, p1_lo, p1_hi, p1_sb, p1_fl, p1_ca⟩ := h1
    refine ⟨rfl, fun j => ?_, fun j hj => ?_, fun j hj => ?_, fun j hj => ?_, fun j hj => ?_, fun j hj => ?_, fun j hj => ?_, fun j hj => ?_, fun j hj => ?_, fun j hj => ?_, fun j hj => ?_, fun j hj => ?_⟩
    · rw [s2]
      show (if 3 = 3 ∧ j = zN σ 1576 0 then (true, 0) else τ.1 3 j).1 = _
      by_cases hq : j = zN σ 1576 0
      · rw [if_pos ⟨rfl, hq⟩]
        exact (decide_eq_true (by omega)).symm
      · rw [if_neg (fun z => hq z.2)]
        refine (p1_a j).trans (decide_eq_decide.mpr ?_)
        omega
    · rw [s2] at hj
      show (if 402 = 402 ∧ 0 = 0 ∧ j = zN σ 1576 0 then some (zN σ 1576 0) else zb_R τ 402 0 j) = _
      by_cases hq : j = zN σ 1576 0
      · rw [if_pos ⟨rfl, rfl, hq⟩, hq]
      · rw [if_neg (fun z => hq z.2.2)]
        exact p1_r j (by omega)
    · rw [s2] at hj
      rw [zb_I_ne _ (by decide)]
      show zb_I (zidT (zb_new τ 3 (zN σ 1576 0) 0) (zN σ 1576 0) (nI (zN σ 1576 0)) a b) 1128 j 0 = _
      rw [zidT_1128]
      by_cases hq : j = zN σ 1576 0
      · rw [if_pos hq, hq]
      · simp only [if_neg hq]
        show (if zrw 1128 = 3 ∧ j = zN σ 1576 0 then fun _ => 0 else τ.2.1 1128 j) 0 = _
        rw [if_neg (fun z => hq z.2)]
        exact p1_ix j (by omega)
    · rw [s2] at hj
      rw [zb_I_ne _ (by decide)]
      show zb_I (zidT (zb_new τ 3 (zN σ 1576 0) 0) (zN σ 1576 0) (nI (zN σ 1576 0)) a b) 1129 j 0 = _
      rw [zidT_1129, s0]
      by_cases hq : j = zN σ 1576 0
      · simp only [if_pos hq]
      · simp only [if_neg hq]
        show (if zrw 1129 = 3 ∧ j = zN σ 1576 0 then fun _ => 0 else τ.2.1 1129 j) 0 = _
        rw [if_neg (fun z => hq z.2)]
        exact p1_ad j (by omega)
    · rw [s2] at hj
      rw [zb_I_ne _ (by decide)]
      show zb_I (zidT (zb_new τ 3 (zN σ 1576 0) 0) (zN σ 1576 0) (nI (zN σ 1576 0)) a b) 1130 j 0 = _
      rw [zidT_1130, s1]
      by_cases hq : j = zN σ 1576 0
      · simp only [if_pos hq]
      · simp only [if_neg hq]
        show (if zrw 1130 = 3 ∧ j = zN σ 1576 0 then fun _ => 0 else τ.2.1 1130 j) 0 = _
        rw [if_neg (fun z => hq z.2)]
        exact p1_tx j (by omega)
    · rw [s2] at hj
      rw [zb_I_ne _ (by decide)]
      show zb_I (zidT (zb_new τ 3 (zN σ 1576 0) 0) (zN σ 1576 0) (nI (zN σ 1576 0)) a b) 1131 j 0 = _
      rw [zidT_1131, s0]
      by_cases hq : j = zN σ 1576 0
      · simp only [if_pos hq]
      · simp only [if_neg hq]
        show (if zrw 1131 = 3 ∧ j = zN σ 1576 0 then fun _ => 0 else τ.2.1 1131 j) 0 = _
        rw [if_neg (fun z => hq z.2)]
        exact p1_fr j (by omega)
    · rw [s2] at hj
      rw [zb_I_ne _ (by decide)]
      show zb_I (zidT (zb_new τ 3 (zN σ 1576 0) 0) (zN σ 1576 0) (nI (zN σ 1576 0)) a b) 1132 j 0 = _
      unfold zaddr
      rw [zidT_1132, s0, s1]
      by_cases hq : j = zN σ 1576 0
      · simp only [if_pos hq]
      · simp only [if_neg hq]
        show (if zrw 1132 = 3 ∧ j = zN σ 1576 0 then fun _ => 0 else τ.2.1 1132 j) 0 = _
        rw [if_neg (fun z => hq z.2)]
        exact p1_aw j (by omega)
    · rw [s2] at hj
      rw [zb_I_ne _ (by decide)]
      show zb_I (zidT (zb_new τ 3 (zN σ 1576 0) 0) (zN σ 1576 0) (nI (zN σ 1576 0)) a b) 1133 j 0 = _
      rw [zidT_1133, s1]
      by_cases hq : j = zN σ 1576 0
      · simp only [if_pos hq]
      · simp only [if_neg hq]
        show (if zrw 1133 = 3 ∧ j = zN σ 1576 0 then fun _ => 0 else τ.2.1 1133 j) 0 = _
        rw [if_neg (fun z => hq z.2)]
        exact p1_lo j (by omega)
    · rw [s2] at hj
      rw [zb_I_ne _ (by decide)]
      show zb_I (zidT (zb_new τ 3 (zN σ 1576 0) 0) (zN σ 1576 0) (nI (zN σ 1576 0)) a b) 1134 j 0 = _
      rw [zidT_1134, s1]
      by_cases hq : j = zN σ 1576 0
      · simp only [if_pos hq]
      · simp only [if_neg hq]
        show (if zrw 1134 = 3 ∧ j = zN σ 1576 0 then fun _ => 0 else τ.2.1 1134 j) 0 = _
        rw [if_neg (fun z => hq z.2)]
        exact p1_hi j (by omega)
    · rw [s2] at hj
      rw [zb_I_ne _ (by decide)]
      show zb_I (zidT (zb_new τ 3 (zN σ 1576 0) 0) (zN σ 1576 0) (nI (zN σ 1576 0)) a b) 1135 j 0 = _
      unfold zwide
      rw [zidT_1135, s1]
      by_cases hq : j = zN σ 1576 0
      · simp only [if_pos hq]
      · simp only [if_neg hq]
        show (if zrw 1135 = 3 ∧ j = zN σ 1576 0 then fun _ => 0 else τ.2.1 1135 j) 0 = _
        rw [if_neg (fun z => hq z.2)]
        exact p1_sb j (by omega)
    · rw [s2] at hj
      rw [zb_I_ne _ (by decide)]
      show zb_I (zidT (zb_new τ 3 (zN σ 1576 0) 0) (zN σ 1576 0) (nI (zN σ 1576 0)) a b) 1136 j 0 = _
      rw [zidT_1136, s1]
      by_cases hq : j = zN σ 1576 0
      · simp only [if_pos hq]
      · simp only [if_neg hq]
        show (if zrw 1136 = 3 ∧ j = zN σ 1576 0 then fun _ => 0 else τ.2.1 1136 j) 0 = _
        rw [if_neg (fun z => hq z.2)]
        exact p1_fl j (by omega)
    · rw [s2] at hj
      rw [zb_I_ne _ (by decide)]
      show zb_I (zidT (zb_new τ 3 (zN σ 1576 0) 0) (zN σ 1576 0) (nI (zN σ 1576 0)) a b) 1137 j 0 = _
      rw [zidT_1137, s3]
      by_cases hq : j = zN σ 1576 0
      · rw [if_pos hq, zI_cal0 hI j (by omega)]
        rfl
      · rw [if_neg hq]
        show (if zrw 1137 = 3 ∧ j = zN σ 1576 0 then fun _ => 0 else τ.2.1 1137 j) 0 = _
        rw [if_neg (fun z => hq z.2)]
        exact p1_ca j (by omega)
  · obtain ⟨p5_n, p5_wt, p5_a, p5_sa, p5_wa, p5_r, p5_to, p5_pr, p5_nu, p5_sr, p5_wr, p5_wz, p5_sl, p5_sg, p5_wl, p5_wd⟩ := h5
    have cg : ∀ k, k < zN σ 1580 0 → ∀ j, zword (zidS σ a b) k j = zword σ k j ∧ znw (zidS σ a b) k = znw σ k := by
      intro k hk j
      have := zI_mto hI k hk
      exact zword_cg (σ := σ) (σ' := zidS σ a b) rfl (by rw [s0, if_neg (by omega)]) (by rw [s1, if_neg (by omega)]) rfl rfl (fun _ _ => rfl) j
    refine ⟨p5_n, p5_wt, p5_a, p5_sa, p5_wa, p5_r, p5_to, p5_pr, p5_nu, p5_sr, p5_wr, p5_wz, p5_sl, p5_sg, fun k hk => ?_, fun k j hk hj => ?_⟩
    · rw [(cg k hk 0).2]
      exact p5_wl k hk
    · rw [(cg k hk j).2] at hj
      rw [(cg k hk j).1]
      exact p5_wd k j hk hj
theorem zop_identity (hF : 2500 ≤ F) (y z : Int32) : zop x m (fun w => zf_WP_identity F w x y z) (fun w => zf_Mo_identity F w m y z) := by
  intro ac τ am σ w1 hx hC hI hP hB
  subst hx
  have hP' := hP
  obtain ⟨h0, h1, h2, h3, ⟨o, h4⟩, h5, h6, h7, h8⟩ := hP
  have i1 := zI_idn hI
  show ∃ v w1' ac' τ' σ', zf_WP_identity F w1 (ac 9 0) y z = _ ∧ _
  have same : ∀ u, zf_WP_identity F w1 (ac 9 0) y z = some (u, w1) → (∀ w2, zM m am σ w2 → zf_Mo_identity F w2 m y z = some (u, w2)) → ∃ v' w1' ac' τ' σ', zf_WP_identity F w1 (ac 9 0) y z = some (v', w1') ∧ ac' 9 0 = ac 9 0 ∧ zC ac' τ' w1' ∧ zI σ' ∧ zP τ' σ' ∧ ∀ w2, zM m am σ w2 → ∃ w2', (fun w => zf_Mo_identity F w m y z) w2 = some (v', w2') ∧ zM m am σ' w2' := fun u e k => ⟨u, w1, ac, τ, σ, e, rfl, hC, hI, hP', fun w2 h => ⟨w2, k w2 h, h⟩⟩
  rcases zin y (n := 2097152) (by decide) with ⟨a, ha, rfl⟩ | hy
  · have n0 : ¬ nI a < 0 := nI_pos (by omega)
    have n1 : ¬ (2097152 : Int32) ≤ nI a := zn_le (a := 2097152) (by decide) (by omega) (by omega)
    rcases zin z (n := 2) (by decide) with ⟨b, hb, rfl⟩ | hz
    · have n2 : ¬ nI b < 0 := nI_pos (by omega)
      have n3 : ¬ (1 : Int32) < nI b := zn_lt (a := 1) (by decide) (by omega) (by omega)
      have wj : zf_WP_identity F w1 (ac 9 0) (nI a) (nI b) = zf_WP_identity_j21 F w1 (ac 9 0) (nI a) (nI b) := by
        unfold zf_WP_identity
        rw [if_neg n0, if_neg n1]
        rcases (show b = 0 ∨ b = 1 by omega) with rfl | rfl
        · rw [if_pos (by decide)]
        · rw [if_neg (by decide), if_pos (by decide)]
      have e8 : nI a / (8 : Int32) = nI (a / 8) := pk_div (d := 8) (by omega) (by decide) (by decide)
      by_cases hr : a / 8 = 250958
      · have g : nI (a / 8) = (250958 : Int32) := by rw [hr]; rfl
        refine same (-1) ?_ (fun w2 h => ?_)
        · rw [wj, zf_WP_identity_j21, e8, if_pos g]
        · unfold zf_Mo_identity
          rw [if_neg n0, if_neg n1, if_neg n2, if_neg n3, e8, if_pos g]
      · have g : ¬ nI (a / 8) = (250958 : Int32) := fun q => hr ((nI_eqI (b := 250958) (by omega) (by decide)).mp q)
        by_cases hl : zN σ 1576 0 = 12
        · refine same (-1) ?_ (fun w2 h => ?_)
          · rw [wj, zf_WP_identity_j21, e8, if_neg g, zC_at hC 9 0 (zP0_a9 h0), zC_I hC 1513 9 0 rfl (zP0_a9 h0), zP1_n h1, hl, if_pos (by decide)]
          · unfold zf_Mo_identity
            rw [if_neg n0, if_neg n1, if_neg n2, if_neg n3, e8, if_neg g, zM_at h, zM_fn h 1576 (by decide) (by decide), hl, if_pos (by decide)]
        · have g2 : ¬ (12 : Int32) ≤ nI (zN σ 1576 0) := zn_le (a := 12) (by decide) (by omega) (by omega)
          have g3 : ¬ nI (zN σ 1576 0) = (12 : Int32) := fun q => hl ((nI_eqI (b := 12) (by omega) (by decide)).mp q)
          have wu : zf_WP_isAddressUsed F w1 (ac 9 0) (nI a) = some (zd (zany (fun j => decide (zN σ 120 j = a)) 0 (zN σ 1576 0)), w1) := by
            unfold zf_WP_isAddressUsed
            rw [zlt_s]
            exact zc_auL hC hI h0 h1 ha (zN σ 1576 0) F 0 (by omega) (by omega)
          have ml : ∀ w2, zM m am σ w2 → zf_Mo_identity F w2 m (nI a) (nI b) = zf_Mo_identity_L41 F F w2 m (nI a) (nI b) (nI 0) := by
            intro w2 h
            unfold zf_Mo_identity
            rw [if_neg n0, if_neg n1, if_neg n2, if_neg n3, e8, if_neg g, zM_at h, zM_fn h 1576 (by decide) (by decide), if_neg g3, zlt_s]
            rfl
          cases hu : zany (fun j => decide (zN σ 120 j = a)) 0 (zN σ 1576 0) with
          | true =>
            refine same (-1) ?_ (fun w2 h => ?_)
            · rw [wj, zf_WP_identity_j21, e8, if_neg g, zC_at hC 9 0 (zP0_a9 h0), zC_I hC 1513 9 0 rfl (zP0_a9 h0), zP1_n h1, if_neg g2, zC_at hC 9 0 (zP0_a9 h0), wu, zbd_s, hu, if_neg (by decide)]
            · rw [ml w2 h]
              exact (zo_idL h hI (by omega) ha (zN σ 1576 0) F 0 (by omega) (by omega)).1 hu
          | false =>
            have hu' : ∀ j, j < zN σ 1576 0 → zN σ 120 j ≠ a := by
              intro j hj q
              have := (zany_iff (fun j => decide (zN σ 120 j = a)) (zN σ 1576 0) 0).mpr ⟨j, hj, by rw [Nat.zero_add]; exact decide_eq_true q⟩
              rw [hu] at this
              cases this
            have hal : zb_a τ 3 (zN σ 1576 0) = false := (zP1_a h1 _).trans (decide_eq_false (Nat.lt_irrefl _))
            obtain ⟨ac1, e1, e2, c1⟩ := zC_newE hC hB 3 (zN σ 1576 0) 0 (by decide) hal
            have b3 : zb_a (zb_new τ 3 (zN σ 1576 0) 0) 3 (zN σ 1576 0) = true := congrArg Prod.fst (if_pos ⟨rfl, rfl⟩ : (if 3 = 3 ∧ zN σ 1576 0 = zN σ 1576 0 then (true, 0) else τ.1 3 (zN σ 1576 0)) = (true, 0))
            obtain ⟨w3, f1, c2⟩ := zc_idi hF c1 b3 (nI (zN σ 1576 0)) ha hb
            have c3 := zC_sR c2 402 402 3 0 rfl rfl (zP0_a402 h0) (zN σ 1576 0) (v := some (zN σ 1576 0)) (fun j hj => by cases hj; exact b3)
            have c3' : zC ac1 _ (zw_sR w3 402 (ac1 402 0) (zN σ 1576 0) (some (ac1 3 (zN σ 1576 0)))) := c3
            have c4 := zC_sI c3' 1513 9 0 rfl (zP0_a9 h0) 0 (nI (zN σ 1576 0 + 1))
            have x9 := e2 9 0 (by omega)
            have x4 := e2 402 0 (by omega)
            have k1 : zw_I (zw_new w1 3 0) 1513 (ac1 9 0) 0 = nI (zN σ 1576 0) := (zC_I c1 1513 9 0 rfl (zP0_a9 h0) 0).trans (zP1_n h1 :)
            have k3 : zw_I (zw_sR w3 402 (ac1 402 0) (zN σ 1576 0) (some (ac1 3 (zN σ 1576 0)))) 1513 (ac1 9 0) 0 = nI (zN σ 1576 0) := (zC_I c3' 1513 9 0 rfl (zP0_a9 h0) 0).trans (zP1_n h1 :)
            have k4 := zC_I c4 1513 9 0 rfl (zP0_a9 h0) 0
            rw [zb_I_sI, if_pos ⟨rfl, rfl, rfl⟩] at k4
            refine ⟨nI (zN σ 1576 0), _, ac1, _, zidS σ a b, ?_, x9, c4, zid_I hI ha hb (by omega) hr hu', zid_P hI hP', fun w2 h => ?_⟩
            · rw [wj, zf_WP_identity_j21, e8, if_neg g, zC_at hC 9 0 (zP0_a9 h0), zC_I hC 1513 9 0 rfl (zP0_a9 h0), zP1_n h1, if_neg g2, zC_at hC 9 0 (zP0_a9 h0), wu, zbd_s, hu, if_pos (by decide), zC_at hC 9 0 (zP0_a9 h0), zC_at hC 9 0 (zP0_a9 h0), zC_R hC 1512 9 402 0 rfl rfl (zP0_a9 h0) (zP0_r1512 h0), zC_I hC 1513 9 0 rfl (zP0_a9 h0), zP1_n h1, zlt_s, ← e1, ← x9, ← x4, zC_at c1 9 0 (zP0_a9 h0), k1, f1, zbv_s, zC_at c2 3 _ b3, zC_ix c2 402 0 (zP0_a402 h0) (show zN σ 1576 0 < zb_l τ 402 0 by rw [zP0_l402 h0]; omega) (by omega), zlt_s, zC_at c3' 9 0 (zP0_a9 h0), zC_at c3' 9 0 (zP0_a9 h0), k3, zs1, zlt_s, zC_at c4 9 0 (zP0_a9 h0), k4, show nI (zN σ 1576 0 + 1) - (1 : Int32) = nI (zN σ 1576 0) from pk_sub (a := zN σ 1576 0 + 1) (b := 1) (by omega)]
            · obtain ⟨w', q1, q2⟩ := (zo_idL (F := F) (b := b) h hI (by omega) ha (zN σ 1576 0) F 0 (by omega) (by omega)).2 hu
              exact ⟨w', (ml w2 h).trans q1, q2⟩
    · refine same (-1) ?_ (fun w2 h => ?_)
      · unfold zf_WP_identity
        rw [if_neg n0, if_neg n1, if_neg (show ¬ z = (0 : Int32) from zout_ne (k := 0) (by decide) hz (by decide)), if_neg (show ¬ z = (1 : Int32) from zout_ne (k := 1) (by decide) hz (by decide))]
      · unfold zf_Mo_identity
        rw [if_neg n0, if_neg n1]
        rcases hz with hz | ⟨h3, h5⟩
        · rw [if_pos hz]
        · rw [if_neg h3, if_pos (show (1 : Int32) < z from zout_gt (n := 1) (by decide) h3 h5)]
  · refine same (-1) ?_ (fun w2 h => ?_)
    · unfold zf_WP_identity
      rcases hy with hy | ⟨h3, h5⟩
      · rw [if_pos hy]
      · rw [if_neg h3, if_pos (show (2097152 : Int32) ≤ y from h5)]
    · unfold zf_Mo_identity
      rcases hy with hy | ⟨h3, h5⟩
      · rw [if_pos hy]
      · rw [if_neg h3, if_pos (show (2097152 : Int32) ≤ y from h5)]
end ZIDEN2
