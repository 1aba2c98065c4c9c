/-! call: the relation after it -/
def zT2 (τ : zB) (k n : Nat) (f : Nat → Int32) : zB := zb_sF (zb_new (zb_new τ 6 k 0) 105 k n) 105 k f
def zT8 (τ : zB) (k n i L : Nat) (f f2 : Nat → Int32) (pr num : Int32) (wt cal : Nat) : zB := zb_sI (zb_sI (zb_sI (zb_sI (zb_sR (zb_sR (zb_sF (zb_new (zmsT (zT2 τ k n f) k i pr num) 106 k L) 106 k f2) 1324 k 0 (some k)) 405 0 k (some k)) 1517 0 0 (nI (k + 1))) 1518 0 0 (nI (wt + 1))) 1137 i 0 (nI (cal + 1))) 1520 0 0 0
section ZCALL10
variable {τ : zB} {σ : zA}
theorem zsC_eq (σ : zA) {k n kd num : Nat} {g : Nat → Int32} (e1 : zN σ 121 (zN σ 123 k) = kd) (e2 : zN σ 125 k = num) (e3 : zN σ 126 k = n) (e4 : ∀ s, s < n → g s = zJ σ 127 (20 * k + s)) (s : Nat) : zsC g kd n num s = zsent σ k s := by
  unfold zsC zsent
  rw [e1, e2, e3]
  by_cases h0 : kd = 0
  · rw [if_pos h0, if_pos h0]
    by_cases h1 : s = 0
    · rw [if_pos h1, if_pos h1]
    · rw [if_neg h1, if_neg h1]
      by_cases h2 : s = 1
      · rw [if_pos h2, if_pos h2]
      · rw [if_neg h2, if_neg h2]
        by_cases h3 : s < n + 2
        · rw [if_pos h3, if_pos h3, e4 _ (by omega), show 20 * k + (s - 2) = 20 * k + s - 2 by omega]
        · rw [if_neg h3, if_neg h3]
  · rw [if_neg h0, if_neg h0]
    by_cases h1 : s = 0
    · rw [if_pos h1, if_pos h1]
    · rw [if_neg h1, if_neg h1]
      by_cases h3 : s < n + 1
      · rw [if_pos h3, if_pos h3, e4 _ (by omega), show 20 * k + (s - 1) = 20 * k + s - 1 by omega]
      · rw [if_neg h3, if_neg h3]
theorem zca_P (hI : zI σ) (hP : zP τ σ) {i pr L : Nat} {f f2 : Nat → Int32} (hi : i < zN σ 1576 0) (hL : L = znw (zcaF σ i pr) (zN σ 1580 0)) (hf : ∀ s, s < zN σ 1588 0 → f s = zb_I τ 100 0 s) (hf0 : f2 0 = zb_I τ 1132 i 0) (hf2 : ∀ q, 1 ≤ q → q < L → f2 q = zn_cw (nI (zdat (fun q => bt (zsC f (zN σ 121 i) (zN σ 1588 0) (zN σ 122 i % 64) (q / zwide σ i)) (q % zwide σ i)) (20 * (q - 1)) 20 1))) : zP (zT8 τ (zN σ 1580 0) (zN σ 1588 0) i L f f2 (nI pr) (nI (zN σ 122 i % 64)) (zwait (zN σ 200) 0 (zN σ 1580 0)) (zN σ 122 i)) (zcaF σ i pr) := by
  have s5 : zN (zcaF σ i pr) 1580 0 = zN σ 1580 0 + 1 := rfl
  have n2 : ∀ q, zN (zcaF σ i pr) 122 q = if 122 = 122 ∧ q = i then zN σ 122 i + 1 else zN σ 122 q := fun q => rfl
  have n3 : ∀ q, zN (zcaF σ i pr) 123 q = if 123 = 123 ∧ q = zN σ 1580 0 then i else zN σ 123 q := fun q => rfl
  have n4 : ∀ q, zN (zcaF σ i pr) 124 q = if 124 = 124 ∧ q = zN σ 1580 0 then pr else zN σ 124 q := fun q => rfl
  have n5 : ∀ q, zN (zcaF σ i pr) 125 q = if 125 = 125 ∧ q = zN σ 1580 0 then zN σ 122 i % 64 else zN σ 125 q := fun q => rfl
  have n6 : ∀ q, zN (zcaF σ i pr) 126 q = if 126 = 126 ∧ q = zN σ 1580 0 then zN σ 1588 0 else zN σ 126 q := fun q => rfl
  have n0 : ∀ q, zN (zcaF σ i pr) 200 q = if 200 = 200 ∧ q = zN σ 1580 0 then 1 else zN σ 200 q := fun q => rfl
  have j7 : ∀ q, zJ (zcaF σ i pr) 127 q = if 127 = 127 ∧ 20 * zN σ 1580 0 + 0 ≤ q ∧ q < 20 * zN σ 1580 0 + 0 + zN σ 1588 0 then zJ σ 128 (q - 20 * zN σ 1580 0) else zJ σ 127 q := fun q => rfl
  have i20 := zI_ldn hI
  have mle := zI_mle hI
  have mto := zI_mto hI
  obtain ⟨h0, h1, h2, h3, ⟨o, h4⟩, h5, h6, h7, h8⟩ := hP
  have d6 := zP6_d h6
  have aw := zP1_aw h1 i hi
  have cg : ∀ q, q < zN σ 1580 0 → ∀ j, zword (zcaF σ i pr) q j = zword σ q j ∧ znw (zcaF σ i pr) q = znw σ q := by
    intro q hq j
    have h20 := mle q
    exact zword_cg (σ := σ) (σ' := zcaF σ i pr) (by rw [n3, if_neg (by omega)]) rfl rfl (by rw [n5, if_neg (by omega)]) (by rw [n6, if_neg (by omega)]) (fun s hs => by rw [j7, if_neg (by omega)]) j
  refine ⟨h0, ?_, h2, h3, ⟨o, h4⟩, ?_, ⟨rfl, fun j hj => absurd hj (Nat.not_lt_zero j)⟩, h7, h8⟩
  · obtain ⟨p1_n, p1_a, p1_r, p1_ix, p1_ad, p1_tx, p1_fr, p1_aw, p1_lo, p1_hi, p1_sb, p1_fl, p1_ca⟩ := h1
    refine ⟨p1_n, p1_a, p1_r, p1_ix, p1_ad, p1_tx, p1_fr, p1_aw, p1_lo, p1_hi, p1_sb, p1_fl, fun j hj => ?_⟩
    unfold zT8
    rw [zb_I_ne _ (by decide), zb_I_sI, n2]
    by_cases hz : j = i
    · rw [if_pos ⟨rfl, hz, rfl⟩, if_pos ⟨rfl, hz⟩]
    · rw [if_neg (fun z => hz z.2.1), if_neg (fun z => hz z.2)]
      exact p1_ca j hj
  · obtain ⟨p5_n, p5_wt, p5_a, p5_sa, p5_wa, p5_r, p5_to, p5_pr, p5_nu, p5_sr, p5_wr, p5_wz, p5_sl, p5_sg, p5_wl, p5_wd⟩ := h5
    refine ⟨rfl, ?_, fun q => ?_, fun q => ?_, fun q => ?_, fun q hq => ?_, fun q hq => ?_, fun q hq => ?_, fun q hq => ?_, fun q hq => ?_, fun q hq => ?_, fun q hq => ?_, fun q hq => ?_, fun q s hq hs => ?_, fun q hq => ?_, fun q j hq hj => ?_⟩
    · have e : zwait (zN (zcaF σ i pr) 200) 0 (zN σ 1580 0 + 1) = zwait (zN σ 200) 0 (zN σ 1580 0) + 1 := by
        have e1 : zN (zcaF σ i pr) 200 (0 + zN σ 1580 0) = 1 := by rw [n0, if_pos ⟨rfl, by omega⟩]
        rw [zwait_s, zwait_cg (f := zN (zcaF σ i pr) 200) (g := zN σ 200) (zN σ 1580 0) 0 (fun j _ h2 => by rw [n0, if_neg (by omega)]), e1, if_neg (by decide)]
      rw [s5, e]
      rfl
    · show zb_a (zb_new τ 6 (zN σ 1580 0) 0) 6 q = _
      rw [zb_a_new, s5]
      by_cases hz : q = zN σ 1580 0
      · rw [if_pos ⟨rfl, hz⟩, decide_eq_true (by omega)]
      · rw [if_neg (fun z => hz z.2), p5_a q]
        exact decide_eq_decide.mpr (by omega)
    · show zb_a (zb_new (zb_new τ 6 (zN σ 1580 0) 0) 105 (zN σ 1580 0) (zN σ 1588 0)) 105 q = _
      rw [zb_a_new, s5]
      by_cases hz : q = zN σ 1580 0
      · rw [if_pos ⟨rfl, hz⟩, decide_eq_true (by omega)]
      · rw [if_neg (fun z => hz z.2)]
        show zb_a τ 105 q = _
        rw [p5_sa q]
        exact decide_eq_decide.mpr (by omega)
    · show zb_a (zb_new (zmsT (zT2 τ (zN σ 1580 0) (zN σ 1588 0) f) (zN σ 1580 0) i (nI pr) (nI (zN σ 122 i % 64))) 106 (zN σ 1580 0) L) 106 q = _
      rw [zb_a_new, s5]
      by_cases hz : q = zN σ 1580 0
      · rw [if_pos ⟨rfl, hz⟩, decide_eq_true (by omega)]
      · rw [if_neg (fun z => hz z.2)]
        show zb_a τ 106 q = _
        rw [p5_wa q]
        exact decide_eq_decide.mpr (by omega)
    · rw [s5] at hq
      show (if 405 = 405 ∧ 0 = 0 ∧ q = zN σ 1580 0 then some (zN σ 1580 0) else zb_R τ 405 0 q) = _
      by_cases hz : q = zN σ 1580 0
      · rw [if_pos ⟨rfl, rfl, hz⟩, hz]
      · rw [if_neg (fun z => hz z.2.2)]
        exact p5_r q (by omega)
    · rw [s5] at hq
      rw [n3]
      show (if 1320 = 1320 ∧ q = zN σ 1580 0 ∧ 0 = 0 then some i else zb_R (zb_new τ 6 (zN σ 1580 0) 0) 1320 q 0) = _
      by_cases hz : q = zN σ 1580 0
      · rw [if_pos ⟨rfl, hz, rfl⟩, if_pos ⟨rfl, hz⟩]
      · rw [if_neg (fun z => hz z.2.1), if_neg (fun z => hz z.2), zb_R_new, if_neg (fun z => hz z.2)]
        exact p5_to q (by omega)
    · rw [s5] at hq
      rw [n4]
      show zb_I (zb_sI (zb_sR (zb_sI (zT2 τ (zN σ 1580 0) (zN σ 1588 0) f) 1325 (zN σ 1580 0) 0 1) 1320 (zN σ 1580 0) 0 (some i)) 1321 (zN σ 1580 0) 0 (nI pr)) 1321 q 0 = _
      rw [zb_I_sI]
      by_cases hz : q = zN σ 1580 0
      · rw [if_pos ⟨rfl, hz, rfl⟩, if_pos ⟨rfl, hz⟩]
      · rw [if_neg (fun z => hz z.2.1), if_neg (fun z => hz z.2)]
        show zb_I (zb_new τ 6 (zN σ 1580 0) 0) 1321 q 0 = _
        rw [zb_I_new, if_neg (fun z => hz z.2)]
        exact p5_pr q (by omega)
    · rw [s5] at hq
      rw [n5]
      show zb_I (zb_sI (zb_sI (zb_sR (zb_sI (zT2 τ (zN σ 1580 0) (zN σ 1588 0) f) 1325 (zN σ 1580 0) 0 1) 1320 (zN σ 1580 0) 0 (some i)) 1321 (zN σ 1580 0) 0 (nI pr)) 1322 (zN σ 1580 0) 0 (nI (zN σ 122 i % 64))) 1322 q 0 = _
      rw [zb_I_sI]
      by_cases hz : q = zN σ 1580 0
      · rw [if_pos ⟨rfl, hz, rfl⟩, if_pos ⟨rfl, hz⟩]
      · rw [if_neg (fun z => hz z.2.1), if_neg (fun z => hz z.2)]
        show zb_I (zb_new τ 6 (zN σ 1580 0) 0) 1322 q 0 = _
        rw [zb_I_new, if_neg (fun z => hz z.2)]
        exact p5_nu q (by omega)
    · rw [s5] at hq
      show (if 1323 = 1323 ∧ q = zN σ 1580 0 ∧ 0 = 0 then some (zN σ 1580 0) else zb_R (zb_new τ 6 (zN σ 1580 0) 0) 1323 q 0) = _
      by_cases hz : q = zN σ 1580 0
      · rw [if_pos ⟨rfl, hz, rfl⟩, hz]
      · rw [if_neg (fun z => hz z.2.1), zb_R_new, if_neg (fun z => hz z.2)]
        exact p5_sr q (by omega)
    · rw [s5] at hq
      show (if 1324 = 1324 ∧ q = zN σ 1580 0 ∧ 0 = 0 then some (zN σ 1580 0) else zb_R (zb_new τ 6 (zN σ 1580 0) 0) 1324 q 0) = _
      by_cases hz : q = zN σ 1580 0
      · rw [if_pos ⟨rfl, hz, rfl⟩, hz]
      · rw [if_neg (fun z => hz z.2.1), zb_R_new, if_neg (fun z => hz z.2)]
        exact p5_wr q (by omega)
    · rw [s5] at hq
      rw [n0]
      show zb_I (zb_sI (zT2 τ (zN σ 1580 0) (zN σ 1588 0) f) 1325 (zN σ 1580 0) 0 1) 1325 q 0 = _
      rw [zb_I_sI]
      by_cases hz : q = zN σ 1580 0
      · rw [if_pos ⟨rfl, hz, rfl⟩, if_pos ⟨rfl, hz⟩]
        rfl
      · rw [if_neg (fun z => hz z.2.1), if_neg (fun z => hz z.2)]
        show zb_I (zb_new τ 6 (zN σ 1580 0) 0) 1325 q 0 = _
        rw [zb_I_new, if_neg (fun z => hz z.2)]
        exact p5_wz q (by omega)
    · rw [s5] at hq
      rw [n6]
      show zb_l (zb_new (zb_new τ 6 (zN σ 1580 0) 0) 105 (zN σ 1580 0) (zN σ 1588 0)) 105 q = _
      rw [zb_l_new]
      by_cases hz : q = zN σ 1580 0
      · rw [if_pos ⟨rfl, hz⟩, if_pos ⟨rfl, hz⟩]
      · rw [if_neg (fun z => hz z.2), if_neg (fun z => hz z.2)]
        exact p5_sl q (by omega)
    · rw [s5] at hq
      rw [n6] at hs
      rw [j7]
      show (if 105 = 105 ∧ q = zN σ 1580 0 then f else zb_I (zb_new (zb_new τ 6 (zN σ 1580 0) 0) 105 (zN σ 1580 0) (zN σ 1588 0)) 105 q) s = _
      by_cases hz : q = zN σ 1580 0
      · rw [if_pos ⟨rfl, hz⟩] at hs
        rw [if_pos ⟨rfl, hz⟩, if_pos ⟨rfl, by omega, by omega⟩, hf s hs, d6 s hs, hz, show 20 * zN σ 1580 0 + s - 20 * zN σ 1580 0 = s by omega]
      · rw [if_neg (fun z => hz z.2)] at hs
        have := mle q
        rw [if_neg (fun z => hz z.2), if_neg (by omega), zb_I_new, if_neg (fun z => hz z.2)]
        exact p5_sg q s (by omega) hs
    · rw [s5] at hq
      show zb_l (zb_new (zmsT (zT2 τ (zN σ 1580 0) (zN σ 1588 0) f) (zN σ 1580 0) i (nI pr) (nI (zN σ 122 i % 64))) 106 (zN σ 1580 0) L) 106 q = _
      rw [zb_l_new]
      by_cases hz : q = zN σ 1580 0
      · rw [if_pos ⟨rfl, hz⟩, hL, hz]
      · rw [if_neg (fun z => hz z.2), (cg q (by omega) 0).2]
        exact p5_wl q (by omega)
    · rw [s5] at hq
      show (if 106 = 106 ∧ q = zN σ 1580 0 then f2 else zb_I (zb_new (zmsT (zT2 τ (zN σ 1580 0) (zN σ 1588 0) f) (zN σ 1580 0) i (nI pr) (nI (zN σ 122 i % 64))) 106 (zN σ 1580 0) L) 106 q) j = _
      by_cases hz : q = zN σ 1580 0
      · subst hz
        have e3 : zN (zcaF σ i pr) 123 (zN σ 1580 0) = i := by rw [n3, if_pos ⟨rfl, rfl⟩]
        rw [if_pos ⟨rfl, rfl⟩]
        unfold zword
        by_cases hj0 : j = 0
        · rw [if_pos hj0, hj0, hf0, aw, e3]
          rfl
        · rw [if_neg hj0, hf2 j (by omega) (by rw [hL]; exact hj)]
          have eb : (fun q => bt (zsC f (zN σ 121 i) (zN σ 1588 0) (zN σ 122 i % 64) (q / zwide σ i)) (q % zwide σ i)) = zobit (zcaF σ i pr) (zN σ 1580 0) := by
            funext q
            unfold zobit
            rw [e3, zsC_eq (zcaF σ i pr) (k := zN σ 1580 0) (by rw [e3]; rfl) (by rw [n5, if_pos ⟨rfl, rfl⟩]) (by rw [n6, if_pos ⟨rfl, rfl⟩]) (fun s hs => by rw [j7, if_pos ⟨rfl, by omega, by omega⟩, hf s hs, d6 s hs, show 20 * zN σ 1580 0 + s - 20 * zN σ 1580 0 = s by omega])]
            rfl
          rw [eb]
      · rw [(cg q (by omega) j).2] at hj
        rw [if_neg (fun z => hz z.2), (cg q (by omega) j).1, zb_I_new, if_neg (fun z => hz z.2)]
        exact p5_wd q j (by omega) hj
end ZCALL10
