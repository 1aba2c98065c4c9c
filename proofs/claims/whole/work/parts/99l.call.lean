/-! call: the call itself -/
section ZCALL13
variable {ac : Nat → Nat → Nat} {τ : zB} {am : Nat → Nat} {σ : zA} {w w2 : zw_T} {F m x : Nat}
theorem zop_call (hF : 2500 ≤ F) (y z : Int32) : zop x m (fun w => zf_WP_call F w x y z) (fun w => zf_Mo_call F w m y z) := by
  intro ac τ am σ w1 hx hC hI hP hB
  subst hx
  have hP' := hP
  obtain ⟨h0, h1, h2, h3, ⟨o, h4⟩, h5, h6, h7, h8⟩ := hP
  have i1 := zI_ldn hI
  have i2 := zI_idn hI
  have i3 := zI_msn hI
  have i4 := zI_wtn hI
  show ∃ v w1' ac' τ' σ', zf_WP_call F w1 (ac 9 0) y z = _ ∧ _
  have same : ∀ v, zf_WP_call F w1 (ac 9 0) y z = some (v, w1) → (∀ w2, zM m am σ w2 → zf_Mo_call F w2 m y z = some (v, w2)) → ∃ v w1' ac' τ' σ', zf_WP_call F w1 (ac 9 0) y z = some (v, w1') ∧ ac' 9 0 = ac 9 0 ∧ zC ac' τ' w1' ∧ zI σ' ∧ zP τ' σ' ∧ ∀ w2, zM m am σ w2 → ∃ w2', (fun w => zf_Mo_call F w m y z) w2 = some (v, w2') ∧ zM m am σ' w2' := fun v e k => ⟨v, w1, ac, τ, σ, e, rfl, hC, hI, hP', fun w2 h => ⟨w2, k w2 h, h⟩⟩
  rcases zin y (n := zN σ 1576 0) (by omega) with ⟨i, hi, rfl⟩ | hy
  · rcases zin z (n := 4) (by omega) with ⟨pr, hp, rfl⟩ | hz
    · by_cases hq : zN σ 1588 0 = 0 ∨ zwait (zN σ 200) 0 (zN σ 1580 0) = 60 ∨ zN σ 1580 0 = 200 ∨ zany (zbad σ i) 0 (zN σ 1588 0) = true
      · refine same (-1) ?_ (fun w2 h => zo_caF hF h hI hi hp hq)
        unfold zf_WP_call
        rw [zC_at hC 9 0 (zP0_a9 h0), zc_id1 hC hI h0 h1 hi, zbd_s, zlt_s, if_neg (by simp), if_neg (nI_pos (by omega)), if_neg (show ¬ (3 : Int32) < nI pr from zn_lt (a := 3) (by decide) (by omega) (by omega)), zC_at hC 9 0 (zP0_a9 h0), zc_als hF hC hI h0 h1 h6 hi, zbd_s]
        by_cases k1 : (!zany (zbad σ i) 0 (zN σ 1588 0) && decide (0 < zN σ 1588 0)) = true
        · rw [k1, if_neg (by decide), zC_at hC 9 0 (zP0_a9 h0), zC_I hC 1518 9 0 rfl (zP0_a9 h0), zP5_wt h5]
          by_cases k2 : zwait (zN σ 200) 0 (zN σ 1580 0) = 60
          · rw [k2, if_pos (by decide)]
          · rw [if_neg (show ¬ (60 : Int32) ≤ nI (zwait (zN σ 200) 0 (zN σ 1580 0)) from zn_le (a := 60) (by decide) (by omega) (by omega)), zC_at hC 9 0 (zP0_a9 h0), zC_I hC 1517 9 0 rfl (zP0_a9 h0), zP5_n h5]
            have k3 : zN σ 1580 0 = 200 := by
              rw [Bool.and_eq_true] at k1
              have k4 := of_decide_eq_true k1.2
              rcases hq with hq | hq | hq | hq
              · omega
              · exact absurd hq k2
              · exact hq
              · rw [hq] at k1
                exact absurd k1.1 (by decide)
            rw [k3, if_neg (by decide)]
        · rw [Bool.eq_false_iff.mpr k1, if_pos (by decide)]
      · have q1 : zN σ 1588 0 ≠ 0 := fun e => hq (Or.inl e)
        have q2 : zwait (zN σ 200) 0 (zN σ 1580 0) ≠ 60 := fun e => hq (Or.inr (Or.inl e))
        have q3 : zN σ 1580 0 ≠ 200 := fun e => hq (Or.inr (Or.inr (Or.inl e)))
        have q4 : zany (zbad σ i) 0 (zN σ 1588 0) = false := Bool.eq_false_iff.mpr (fun e => hq (Or.inr (Or.inr (Or.inr e))))
        obtain ⟨ac', τ', w', r1, r2, r3, r4⟩ := zc_caT hF hC hB hI hP' hi hp q1 q2 q3 q4
        exact ⟨_, w', ac', τ', zcaF σ i pr, r1, r2, r3, zca_I hI hi hp (by omega) (by omega), r4, fun w2 h => zo_caT hF h hI hi hp q1 q2 q3 q4⟩
    · refine same (-1) ?_ (fun w2 h => ?_)
      · unfold zf_WP_call
        rw [zC_at hC 9 0 (zP0_a9 h0), zc_id1 hC hI h0 h1 hi, zbd_s, zlt_s, if_neg (by simp)]
        rcases hz with hz | ⟨k1, k2⟩
        · rw [if_pos hz]
        · rw [if_neg k1, if_pos (show (3 : Int32) < z from zout_gt (n := 3) (by omega) k1 k2)]
      · unfold zf_Mo_call
        rw [zM_at h, zo_isI1 h hI hi, zbd_s, if_neg (by decide)]
        rcases hz with hz | ⟨k1, k2⟩
        · rw [if_pos hz]
        · rw [if_neg k1, if_pos (show (3 : Int32) < z from zout_gt (n := 3) (by omega) k1 k2)]
  · refine same (-1) ?_ (fun w2 h => ?_)
    · unfold zf_WP_call
      rw [zC_at hC 9 0 (zP0_a9 h0), zc_id0 hC h0 h1 hy, zbd_s, zlt_s, if_pos rfl]
    · unfold zf_Mo_call
      rw [zM_at h, zo_isI0 h hy, zbd_s, if_pos rfl]
end ZCALL13
