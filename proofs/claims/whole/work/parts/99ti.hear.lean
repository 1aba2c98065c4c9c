/-! hear: twenty bits come in -/
theorem zor7 : ∀ r, r < 7 → ∀ P, P < 64 → ∀ b, b < 2 → P < 2 ^ r → nI P ||| zi_shl (nI b) (nI r) = nI (P + b * 2 ^ r) := by decide +kernel
section ZH9
variable {ac : Nat → Nat → Nat} {τ : zB} {am : Nat → Nat} {σ : zA} {w w2 : zw_T} {F m p q : Nat}
theorem zh_run (hH : zH p q ac τ σ w) (hn : zb_R τ 1259 0 0 ≠ none) : ∃ h i wd, h < zN σ 132 p ∧ zb_R τ 1259 0 0 = some (4 * p + h) ∧ zN σ 131 (4 * p + h) = i ∧ i < zN σ 1576 0 ∧ zwide σ i = wd ∧ (wd = 4 ∨ wd = 7) ∧ zJ σ 1608 0 = nI i ∧ zgR q wd τ σ := by
  have hp6 := zH_p6 hH
  obtain ⟨hC, hI, hP, ⟨r1, r2, r3, r4, r5⟩, hp⟩ := hH
  rcases r5 with ⟨k1, k2⟩ | ⟨h, k1, k2, k3, kg⟩
  · exact absurd k1 hn
  · refine ⟨h, _, _, k1, k2, rfl, zI_hrs hI p h hp6 k1, rfl, ?_, k3, kg⟩
    unfold zwide
    split
    · exact Or.inl rfl
    · exact Or.inr rfl
theorem zh_bit (hH : zH p q ac τ σ w) (hn : zb_R τ 1259 0 0 ≠ none) (hq : q ≤ 5000) {x1 y1 : Int32} {c : Nat} (hc : c < 20) (hb : bt x1 c = bt y1 c) : ∃ τ' w' σ', (∀ n, zf_Ls_addContent_L3 F (n + 1) w (ac 5 0) x1 (nI c) = zf_Ls_addContent_L3 F n w' (ac 5 0) x1 (nI c + (-1))) ∧ zH p (q + 1) ac τ' σ' w' ∧ zb_R τ' 1259 0 0 ≠ none ∧ zN σ' 1592 0 = zN σ 1592 0 ∧ ∀ w2, zM m am σ w2 → ∃ w2', zM m am σ' w2' ∧ ∀ n, zf_Mo_add_L3 F (n + 1) w2 m y1 (nI c) = zf_Mo_add_L3 F n w2' m y1 (nI c + (-1)) := by
  obtain ⟨h, i, wd, k1, k2, k3, k4, k5, k6, k7, g0, gb, g1, g2, g3, g4⟩ := zh_run hH hn
  obtain ⟨hC, hI, ⟨h0, h1, h2, h3, h4, h5, h6, h7⟩, ⟨r1, r2, r3, r4, r5⟩, hp⟩ := hH
  clear r5
  have a5 := zP0_a5 h0
  have a103 := zP0_a103 h0
  have l103 := zP0_l103 h0
  have a3 := zp_a3 h1 k4
  have a2 := zp_b2 h3 hI hp k1
  obtain ⟨N, eN⟩ : ∃ N, zN σ 1610 0 = N := ⟨_, rfl⟩
  rw [eN] at g0 gb g1 g2 g3 g4
  obtain ⟨bn, ebn⟩ : ∃ bn, bn = if bt x1 c = true then 1 else 0 := ⟨_, rfl⟩
  have hbn : bn < 2 := by
    rw [ebn]
    split <;> decide
  have ebI : (if bt x1 c = true then (1 : Int32) else 0) = nI bn := by
    rw [ebn]
    split <;> rfl
  -- the model
  obtain ⟨σ1, s1, s2, s3, s4, s5⟩ : ∃ σ1 : zA, (∀ j, j ≠ N → zN σ1 140 j = zN σ 140 j) ∧ (N < 160 → zN σ1 140 N = bn) ∧ σ1.2 = σ.2 ∧ (∀ κ, κ ≠ 140 → zN σ1 κ = zN σ κ) ∧ ∀ w2, zM m am σ w2 → ∃ w2', zM m am σ1 w2' ∧ ∀ n, zf_Mo_add_L3 F (n + 1) w2 m y1 (nI c) = zf_Mo_add_j31 F (zf_Mo_add_L3 F n) w2' m y1 (nI c) := by
    by_cases hN : N < 160
    · refine ⟨zN_s σ 140 N bn, fun j hj => if_neg (fun z => hj z.2), fun _ => if_pos ⟨rfl, rfl⟩, rfl, fun κ hκ => ?_, fun w2 h => ⟨_, zM_sn h 140 (by decide) N bn, fun n => ?_⟩⟩
      · funext j
        exact if_neg (fun z => hκ z.1)
      · rw [zf_Mo_add_L3, if_neg (nI_pos (by omega)), zM_at h, zM_fn h 1610 (by decide) (by decide), eN, if_neg (show ¬ (160 : Int32) ≤ nI N from zn_le (a := 160) (by decide) (by omega) (by omega)), zM_at h, zM_at h, zM_R h 1609 140 160 (by decide), zM_fn h 1610 (by decide) (by decide), eN, zM_ix h 1609 140 160 (by decide) hN (by decide), zn_s1 _ (by omega), ← hb, ebI, zlt_s]
    · refine ⟨σ, fun j hj => rfl, fun z => absurd z hN, rfl, fun κ hκ => rfl, fun w2 h => ⟨w2, h, fun n => ?_⟩⟩
      rw [zf_Mo_add_L3, if_neg (nI_pos (by omega)), zM_at h, zM_fn h 1610 (by decide) (by decide), eN, if_pos (show (160 : Int32) ≤ nI N from (nI_leI (a := 160) (by decide) (by omega)).mpr (by omega))]
  have mo : ∀ w2, zM m am σ w2 → ∃ w2', zM m am (zN_s σ1 1610 0 (N + 1)) w2' ∧ ∀ n, zf_Mo_add_L3 F (n + 1) w2 m y1 (nI c) = zf_Mo_add_L3 F n w2' m y1 (nI c + (-1)) := by
    intro w2 h
    obtain ⟨w3, t1, t2⟩ := s5 w2 h
    have m1 := zM_sfn t1 1610 (by decide) (by decide) (N + 1)
    refine ⟨_, m1, fun n => ?_⟩
    have e : zN σ1 1610 0 = N := by
      rw [s4 1610 (by decide)]
      exact eN
    rw [t2 n]
    unfold zf_Mo_add_j31
    rw [zM_at t1, zM_at t1, zM_fn t1 1610 (by decide) (by decide), e, zs1, zlt_s, zlt_s]
  have fN : ∀ κ, κ ≠ 140 → κ ≠ 1610 → zN (zN_s σ1 1610 0 (N + 1)) κ = zN σ κ := by
    intro κ u1 u2
    rw [← s4 κ u1]
    funext j
    exact if_neg (fun z => u2 z.1)
  have f140 : zN (zN_s σ1 1610 0 (N + 1)) 140 = zN σ1 140 := rfl
  have f1610 : zN (zN_s σ1 1610 0 (N + 1)) 1610 0 = N + 1 := rfl
  have fJ : (zN_s σ1 1610 0 (N + 1)).2 = σ.2 := s3
  generalize zN_s σ1 1610 0 (N + 1) = σ' at mo fN f140 f1610 fJ
  -- all that does not speak of the bits
  obtain ⟨f, ef⟩ : ∃ f, zN σ1 140 = f := ⟨_, rfl⟩
  rw [ef] at s1 s2 f140
  have eσ : σ' = ((fun κ j => if κ = 140 then zN σ' 140 j else if κ = 1610 then zN σ' 1610 j else zN σ κ j), σ.2) := by
    refine Prod.ext ?_ fJ
    funext κ j
    show zN σ' κ j = (if κ = 140 then zN σ' 140 j else if κ = 1610 then zN σ' 1610 j else zN σ κ j)
    by_cases u1 : κ = 140
    · rw [if_pos u1, u1]
    · rw [if_neg u1]
      by_cases u2 : κ = 1610
      · rw [if_pos u2, u2]
      · rw [if_neg u2, fN κ u1 u2]
  have G : ∀ τ', (zP0 τ → zP0 τ') → (∀ s, zP1 τ s → zP1 τ' s) → (∀ s, zP2 τ s → zP2 τ' s) → (∀ s, zP3 τ s → zP3 τ' s) → (∀ s o, zP4 τ s o → zP4 τ' s o) → (∀ s, zP5 τ s → zP5 τ' s) → (∀ s, zP6 τ s → zP6 τ' s) → (∀ s, zP7 τ s → zP7 τ' s) → zI σ' ∧ zhP τ' σ' := by
    intro τ' j0 j1 j2 j3 j4 j5 j6 j7
    rw [eσ]
    obtain ⟨o, h4⟩ := h4
    exact ⟨hI, j0 h0, j1 _ h1, j2 _ h2, j3 _ h3, ⟨o, j4 _ _ h4⟩, j5 _ h5, j6 _ h6, j7 _ h7⟩
  have q1 : zN σ' 1595 0 = zN σ 1595 0 := by rw [fN 1595 (by decide) (by decide)]
  have q2 : zN σ' 132 p = zN σ 132 p := by rw [fN 132 (by decide) (by decide)]
  have q3 : zN σ' 131 (4 * p + h) = i := by rw [fN 131 (by decide) (by decide)]; exact k3
  have q4 : zwide σ' i = wd := by
    rw [← k5]
    unfold zwide
    rw [fN 121 (by decide) (by decide)]
  have q5 : zJ σ' 1608 0 = nI i := by
    rw [← k7]
    exact congrArg (fun z => z.1 1608 0) fJ
  have fin : ∀ τ' w', zC ac τ' w' → zI σ' ∧ zhP τ' σ' → zb_R τ' 1257 0 0 = some p → zb_R τ' 1256 0 0 = some 0 → zb_I τ' 1258 0 0 = nI (zN σ 1611 0) → zb_R τ' 1259 0 0 = some (4 * p + h) → zgR (q + 1) wd τ' σ' → zH p (q + 1) ac τ' σ' w' := by
    intro τ' w' z1 z2 z3 z4 z5 z6 z7
    refine ⟨z1, z2.1, z2.2, ⟨z3, z4, ?_, ?_, Or.inr ⟨h, ?_, z6, ?_, ?_⟩⟩, ?_⟩
    · rw [fN 1607 (by decide) (by decide)]
      exact r3
    · rw [fN 1611 (by decide) (by decide)]
      exact z5
    · rw [q2]
      exact k1
    · rw [q3]
      exact q5
    · rw [q3, q4]
      exact z7
    · rw [q1]
      exact hp
  -- the class
  obtain ⟨v, ev⟩ : ∃ v, v = zb_I τ 1262 0 0 ||| zi_shl (nI bn) (nI (N % wd)) := ⟨_, rfl⟩
  have hwN : N % wd < 7 ∧ wd * (N / wd) + N % wd = N ∧ N % wd < wd := by
    have := Nat.div_add_mod N wd
    rcases k6 with rfl | rfl <;> omega
  have old : ∀ b c, b + c ≤ N → zsv f b c = zsv (zN σ 140) b c := fun b c hbc => zsv_cg c b (fun j j1 j2 => s1 j (by omega))
  have hv : N < 22 * wd → v = nI (zsv f (wd * (N / wd)) (N % wd + 1)) := by
    intro hN
    have hN160 : N < 160 := by rcases k6 with rfl | rfl <;> omega
    have hP : zsv (zN σ 140) (wd * (N / wd)) (N % wd) < 2 ^ (N % wd) := zsv_lt _ _ (fun j j1 j2 => gb j (by omega) (by omega))
    have hP64 : zsv (zN σ 140) (wd * (N / wd)) (N % wd) < 64 := Nat.lt_of_lt_of_le hP (Nat.pow_le_pow_right (n := 2) (j := 6) (by decide) (by omega))
    rw [ev, g4 hN, zor7 (N % wd) hwN.1 _ hP64 bn hbn hP, zsv_s, old _ _ (by omega), hwN.2.1, s2 hN160]
  have c1 := zC_sI hC 1262 5 0 rfl a5 0 v
  have c2 := zC_sI c1 1263 5 0 rfl a5 0 (nI (N % wd + 1))
  have x1' : zw_I w 1262 (ac 5 0) 0 = zb_I τ 1262 0 0 := zC_I hC 1262 5 0 rfl a5 0
  have x2' : zw_I w 1263 (ac 5 0) 0 = nI (N % wd) := (zC_I hC 1263 5 0 rfl a5 0).trans g2
  have x3' : zw_I (zw_sI w 1262 (ac 5 0) 0 v) 1263 (ac 5 0) 0 = nI (N % wd) := (zC_I c1 1263 5 0 rfl a5 0).trans (by rw [zb_I_ne _ (by decide)]; exact g2)
  have y1' : zw_R (zw_sI (zw_sI w 1262 (ac 5 0) 0 v) 1263 (ac 5 0) 0 (nI (N % wd + 1))) 1259 (ac 5 0) 0 = some (ac 2 (4 * p + h)) := zC_R c2 1259 5 2 0 rfl rfl a5 k2
  have y2' : zw_R (zw_sI (zw_sI w 1262 (ac 5 0) 0 v) 1263 (ac 5 0) 0 (nI (N % wd + 1))) 1064 (ac 2 (4 * p + h)) 0 = some (ac 3 i) := zC_R c2 1064 2 3 (4 * p + h) rfl rfl a2 (by
    show zb_R τ 1064 (4 * p + h) 0 = some i
    rw [zP3_id h3 p h hp k1, k3])
  have y3' : zw_I (zw_sI (zw_sI w 1262 (ac 5 0) 0 v) 1263 (ac 5 0) 0 (nI (N % wd + 1))) 1263 (ac 5 0) 0 = nI (N % wd + 1) := (zC_I c2 1263 5 0 rfl a5 0).trans (by rw [zb_I_sI, if_pos ⟨rfl, rfl, rfl⟩])
  have y4' : zw_I (zw_sI (zw_sI w 1262 (ac 5 0) 0 v) 1263 (ac 5 0) 0 (nI (N % wd + 1))) 1135 (ac 3 i) 0 = nI wd := (zC_I c2 1135 3 i rfl a3 0).trans (by
    show zb_I τ 1135 i 0 = nI wd
    rw [zP1_sb h1 i k4, k5])
  have y5' : zw_I (zw_sI (zw_sI w 1262 (ac 5 0) 0 v) 1263 (ac 5 0) 0 (nI (N % wd + 1))) 1262 (ac 5 0) 0 = v := (zC_I c2 1262 5 0 rfl a5 0).trans (by rw [zb_I_ne _ (by decide), zb_I_sI, if_pos ⟨rfl, rfl, rfl⟩])
  have y6' : zw_I (zw_sI (zw_sI w 1262 (ac 5 0) 0 v) 1263 (ac 5 0) 0 (nI (N % wd + 1))) 1261 (ac 5 0) 0 = nI (min 22 (N / wd)) := (zC_I c2 1261 5 0 rfl a5 0).trans (by rw [zb_I_ne _ (by decide), zb_I_ne _ (by decide)]; exact g1)
  have gb' : ∀ j, j < N + 1 → j < 160 → zN σ' 140 j < 2 := by
    intro j j1 j2
    rw [f140]
    by_cases hj : j = N
    · rw [hj, s2 (by omega)]
      exact hbn
    · rw [s1 j hj]
      exact gb j (by omega) j2
  have pre : ∀ n, zf_Ls_addContent_L3 F (n + 1) w (ac 5 0) x1 (nI c) = (if nI (N % wd + 1) = nI wd then (zf_at (zw_sI (zw_sI w 1262 (ac 5 0) 0 v) 1263 (ac 5 0) 0 (nI (N % wd + 1))) 5 (some (ac 5 0)) fun a55 => zf_at (zw_sI (zw_sI w 1262 (ac 5 0) 0 v) 1263 (ac 5 0) 0 (nI (N % wd + 1))) 5 (some (ac 5 0)) fun a58 => zf_bv (zf_Ls_addSign F (zw_sI (zw_sI w 1262 (ac 5 0) 0 v) 1263 (ac 5 0) 0 (nI (N % wd + 1))) a58 (zw_I (zw_sI (zw_sI w 1262 (ac 5 0) 0 v) 1263 (ac 5 0) 0 (nI (N % wd + 1))) 1262 a55 0)) fun w58 => zf_at w58 5 (some (ac 5 0)) fun a63 => zf_let (zw_sI w58 1262 a63 0 (0 : Int32)) fun w63 => zf_at w63 5 (some (ac 5 0)) fun a68 => zf_let (zw_sI w63 1263 a68 0 (0 : Int32)) fun w68 => zf_Ls_addContent_j71 F (zf_Ls_addContent_L3 F n) w68 (ac 5 0) x1 (nI c)) else zf_Ls_addContent_j71 F (zf_Ls_addContent_L3 F n) (zw_sI (zw_sI w 1262 (ac 5 0) 0 v) 1263 (ac 5 0) 0 (nI (N % wd + 1))) (ac 5 0) x1 (nI c)) := by
    intro n
    rw [zf_Ls_addContent_L3, if_neg (nI_pos (by omega)), zC_at hC 5 0 a5, zC_at hC 5 0 a5, zC_at hC 5 0 a5, zn_u1 _ (by omega), ebI, x1', x2', ← ev, zlt_s, zC_at c1 5 0 a5, zC_at c1 5 0 a5, x3', zs1, zlt_s, zC_at c2 5 0 a5, zC_at c2 5 0 a5, y1', zC_at c2 2 _ a2, y2', zC_at c2 3 i a3, y3', y4']
  by_cases hfull : N % wd + 1 = wd
  · have dv : (N + 1) / wd = N / wd + 1 ∧ (N + 1) % wd = 0 := by
      rcases k6 with rfl | rfl <;> omega
    have c0 : ∀ (τ3 : zB) (w3 : zw_T), zC ac τ3 w3 → zb_a τ3 5 0 = true → zC ac (zb_sI (zb_sI τ3 1262 0 0 0) 1263 0 0 0) (zw_sI (zw_sI w3 1262 (ac 5 0) 0 0) 1263 (ac 5 0) 0 0) := fun τ3 w3 z1 z2 => zC_sI (zC_sI z1 1262 5 0 rfl z2 0 0) 1263 5 0 rfl z2 0 0
    by_cases h22 : N / wd < 22
    · have hN : N < 22 * wd := by rcases k6 with rfl | rfl <;> omega
      have c3 := zC_sI c2 103 103 0 rfl a103 (N / wd) v
      have c4 := zC_sI c3 1261 5 0 rfl a5 0 (nI (N / wd + 1))
      have c5 := c0 _ _ c4 a5
      refine ⟨_, _, σ', fun n => ?_, fin _ _ c5 (G _ id (fun _ z => z) (fun _ z => z) (fun _ z => z) (fun _ _ z => z) (fun _ z => z) (fun _ z => z) (fun _ z => z)) r1 r2 r4 k2 ⟨?_, ?_, ?_, ?_, fun s z1 z2 => ?_, fun _ => ?_⟩, ?_, ?_, mo⟩
      · have t1 : zw_I (zw_sI (zw_sI (zw_sI w 1262 (ac 5 0) 0 v) 1263 (ac 5 0) 0 (nI (N % wd + 1))) 103 (ac 103 0) (N / wd) v) 1261 (ac 5 0) 0 = nI (N / wd) := (zC_I c3 1261 5 0 rfl a5 0).trans (by
          rw [zb_I_ne _ (by decide), zb_I_ne _ (by decide), zb_I_ne _ (by decide), g1, show min 22 (N / wd) = N / wd by omega])
        rw [pre n, if_pos (by rw [hfull]), zC_at c2 5 0 a5, zC_at c2 5 0 a5, y5']
        unfold zf_Ls_addSign
        rw [zC_at c2 5 0 a5, y6', show min 22 (N / wd) = N / wd by omega, if_neg (show ¬ (22 : Int32) ≤ nI (N / wd) from zn_le (a := 22) (by decide) (by omega) (by omega)), zC_at c2 5 0 a5, zC_at c2 5 0 a5, zC_R c2 1260 5 103 0 rfl rfl a5 (zP0_r1260 h0), y6', show min 22 (N / wd) = N / wd by omega, zC_ix c2 103 0 a103 (show N / wd < zb_l τ 103 0 by omega) (by omega), zlt_s, zC_at c3 5 0 a5, zC_at c3 5 0 a5, t1, zs1, zlt_s, zbv_s, zC_at c4 5 0 a5, zlt_s, zC_at (zC_sI c4 1262 5 0 rfl a5 0 0) 5 0 a5, zlt_s]
        unfold zf_Ls_addContent_j71
        rw [zlt_s]
      · rw [f1610]
        omega
      · rw [f1610]
        exact gb'
      · rw [f1610, dv.1, zb_I_ne _ (by decide), zb_I_ne _ (by decide), zb_I_sI, if_pos ⟨rfl, rfl, rfl⟩, show min 22 (N / wd + 1) = N / wd + 1 by omega]
      · rw [f1610, dv.2, zb_I_sI, if_pos ⟨rfl, rfl, rfl⟩]
        rfl
      · rw [f1610, dv.1] at z2
        rw [zb_I_ne _ (by decide), zb_I_ne _ (by decide), zb_I_ne _ (by decide), zb_I_sI, f140]
        by_cases hs : s = N / wd
        · rw [if_pos ⟨rfl, rfl, hs⟩, hv hN, hs, hfull]
        · rw [if_neg (fun z => hs z.2.2), zb_I_ne _ (by decide), zb_I_ne _ (by decide), g3 s z1 (by omega), old _ _ (by
            have hs2 : s + 1 ≤ N / wd := by omega
            have := Nat.mul_le_mul_left wd hs2
            rw [Nat.mul_add, Nat.mul_one] at this
            omega)]
      · rw [f1610, dv.2, zb_I_ne _ (by decide), zb_I_sI, if_pos ⟨rfl, rfl, rfl⟩]
        rfl
      · show zb_R τ 1259 0 0 ≠ none
        exact hn
      · rw [fN 1592 (by decide) (by decide)]
    · have c5 := c0 _ _ c2 a5
      refine ⟨_, _, σ', fun n => ?_, fin _ _ c5 (G _ id (fun _ z => z) (fun _ z => z) (fun _ z => z) (fun _ _ z => z) (fun _ z => z) (fun _ z => z) (fun _ z => z)) r1 r2 r4 k2 ⟨?_, ?_, ?_, ?_, fun s z1 z2 => ?_, fun _ => ?_⟩, ?_, ?_, mo⟩
      · rw [pre n, if_pos (by rw [hfull]), zC_at c2 5 0 a5, zC_at c2 5 0 a5, y5']
        unfold zf_Ls_addSign
        rw [zC_at c2 5 0 a5, y6', show min 22 (N / wd) = 22 by omega, if_pos (by decide), zbv_s, zC_at c2 5 0 a5, zlt_s, zC_at (zC_sI c2 1262 5 0 rfl a5 0 0) 5 0 a5, zlt_s]
        unfold zf_Ls_addContent_j71
        rw [zlt_s]
      · rw [f1610]
        omega
      · rw [f1610]
        exact gb'
      · rw [f1610, dv.1, zb_I_ne _ (by decide), zb_I_ne _ (by decide), zb_I_ne _ (by decide), zb_I_ne _ (by decide), g1]
        congr 1
        omega
      · rw [f1610, dv.2, zb_I_sI, if_pos ⟨rfl, rfl, rfl⟩]
        rfl
      · rw [zb_I_ne _ (by decide), zb_I_ne _ (by decide), zb_I_ne _ (by decide), zb_I_ne _ (by decide), f140, g3 s z1 (by omega), old _ _ (by
          have hs2 : s + 1 ≤ N / wd := by omega
          have := Nat.mul_le_mul_left wd hs2
          rw [Nat.mul_add, Nat.mul_one] at this
          omega)]
      · rw [f1610, dv.2, zb_I_ne _ (by decide), zb_I_sI, if_pos ⟨rfl, rfl, rfl⟩]
        rfl
      · show zb_R τ 1259 0 0 ≠ none
        exact hn
      · rw [fN 1592 (by decide) (by decide)]
  · have dv : (N + 1) / wd = N / wd ∧ (N + 1) % wd = N % wd + 1 := by
      rcases k6 with rfl | rfl <;> omega
    refine ⟨_, _, σ', fun n => ?_, fin _ _ c2 (G _ id (fun _ z => z) (fun _ z => z) (fun _ z => z) (fun _ _ z => z) (fun _ z => z) (fun _ z => z) (fun _ z => z)) r1 r2 r4 k2 ⟨?_, ?_, ?_, ?_, fun s z1 z2 => ?_, fun z => ?_⟩, ?_, ?_, mo⟩
    · rw [pre n, if_neg (fun z => hfull ((nI_eqI (by omega) (by rcases k6 with rfl | rfl <;> decide)).mp z))]
      unfold zf_Ls_addContent_j71
      rw [zlt_s]
    · rw [f1610]
      omega
    · rw [f1610]
      exact gb'
    · rw [f1610, dv.1, zb_I_ne _ (by decide), zb_I_ne _ (by decide), g1]
    · rw [f1610, dv.2, zb_I_sI, if_pos ⟨rfl, rfl, rfl⟩]
    · rw [f1610, dv.1] at z2
      rw [zb_I_ne _ (by decide), zb_I_ne _ (by decide), f140, g3 s z1 z2, old _ _ (by
        have hs2 : s + 1 ≤ N / wd := by omega
        have := Nat.mul_le_mul_left wd hs2
        rw [Nat.mul_add, Nat.mul_one] at this
        omega)]
    · rw [f1610] at z
      rw [f1610, dv.1, dv.2, zb_I_ne _ (by decide), zb_I_sI, if_pos ⟨rfl, rfl, rfl⟩, f140]
      exact hv (by omega)
    · show zb_R τ 1259 0 0 ≠ none
      exact hn
    · rw [fN 1592 (by decide) (by decide)]
/-- all twenty -/
theorem zh_add {x1 y1 : Int32} (hb : ∀ c, c < 20 → bt x1 c = bt y1 c) : ∀ c q τ σ w, c ≤ 20 → q + c ≤ 5000 → zH p q ac τ σ w → zb_R τ 1259 0 0 ≠ none → ∃ τ' w' σ', (∀ n, c < n → zf_Ls_addContent_L3 F n w (ac 5 0) x1 (nI c + (-1)) = some w') ∧ zH p (q + c) ac τ' σ' w' ∧ zN σ' 1592 0 = zN σ 1592 0 ∧ ∀ w2, zM m am σ w2 → ∃ w2', zM m am σ' w2' ∧ ∀ n, c < n → zf_Mo_add_L3 F n w2 m y1 (nI c + (-1)) = some w2' := by
  intro c
  induction c with
  | zero =>
    intro q τ σ w e1 e2 hH hn
    refine ⟨τ, w, σ, fun n h => ?_, hH, rfl, fun w2 h => ⟨w2, h, fun n hn => ?_⟩⟩
    · obtain ⟨n, rfl⟩ : ∃ q, n = q + 1 := ⟨n - 1, by omega⟩
      rw [zf_Ls_addContent_L3, if_pos (by decide)]
    · obtain ⟨n, rfl⟩ : ∃ q, n = q + 1 := ⟨n - 1, by omega⟩
      rw [zf_Mo_add_L3, if_pos (by decide)]
  | succ c ih =>
    intro q τ σ w e1 e2 hH hn
    obtain ⟨τ1, w1, σ1, s1, s2, s3, s4, s5⟩ := zh_bit (F := F) (m := m) (am := am) hH hn (by omega) (c := c) (by omega) (hb c (by omega))
    obtain ⟨τ', w', σ', r1, r2, r3, r4⟩ := ih (q + 1) τ1 σ1 w1 (by omega) (by omega) s2 s3
    refine ⟨τ', w', σ', fun n h => ?_, by rw [show q + (c + 1) = q + 1 + c by omega]; exact r2, r3.trans s4, fun w2 h => ?_⟩
    · obtain ⟨n, rfl⟩ : ∃ q, n = q + 1 := ⟨n - 1, by omega⟩
      rw [pk_m1, s1 n, r1 n (by omega)]
    · obtain ⟨w3, t1, t2⟩ := s5 w2 h
      obtain ⟨w4, u1, u2⟩ := r4 w3 t1
      refine ⟨w4, u1, fun n hn => ?_⟩
      obtain ⟨n, rfl⟩ : ∃ q, n = q + 1 := ⟨n - 1, by omega⟩
      rw [pk_m1, t2 n, u2 n (by omega)]
end ZH9
