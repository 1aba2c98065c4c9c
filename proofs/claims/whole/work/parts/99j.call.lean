/-! call -/
section ZCALL11
variable {ac : Nat → Nat → Nat} {τ : zB} {am : Nat → Nat} {σ : zA} {w w2 : zw_T} {F m x : Nat}
theorem zo_caF (hF : 2500 ≤ F) (h : zM m am σ w) (hI : zI σ) {i pr : Nat} (hi : i < zN σ 1576 0) (hp : pr < 4) (hq : zN σ 1588 0 = 0 ∨ zwait (zN σ 200) 0 (zN σ 1580 0) = 60 ∨ zN σ 1580 0 = 200 ∨ zany (zbad σ i) 0 (zN σ 1588 0) = true) : zf_Mo_call F w m (nI i) (nI pr) = some (-1, w) := by
  have i1 := zI_ldn hI
  have i2 := zI_wtn hI
  have i3 := zI_msn hI
  unfold zf_Mo_call
  rw [zM_at h, zo_isI1 h hI hi, zbd_s, if_neg (by decide), if_neg (nI_pos (by omega)), if_neg (show ¬ (3 : Int32) < nI pr from zn_lt (a := 3) (by decide) (by omega) (by omega)), zM_at h, zM_fn h 1588 (by decide) (by decide)]
  by_cases q1 : zN σ 1588 0 = 0
  · rw [if_pos (by rw [q1]; rfl)]
  rw [if_neg (fun z => q1 ((zn_z (by omega)).mp z)), zM_at h, zo_waiting hF h hI, zbd_s]
  by_cases q2 : zwait (zN σ 200) 0 (zN σ 1580 0) = 60
  · rw [if_pos (by rw [q2]; rfl)]
  rw [if_neg (show ¬ nI (zwait (zN σ 200) 0 (zN σ 1580 0)) = (60 : Int32) from fun z => q2 ((nI_eqI (b := 60) (by omega) (by decide)).mp z)), zM_at h, zM_fn h 1580 (by decide) (by decide)]
  by_cases q3 : zN σ 1580 0 = 200
  · rw [if_pos (by rw [q3]; rfl)]
  rw [if_neg (show ¬ nI (zN σ 1580 0) = (200 : Int32) from fun z => q3 ((nI_eqI (b := 200) (by omega) (by decide)).mp z)), zlt_s]
  rcases hq with hq | hq | hq | hq
  · exact absurd hq q1
  · exact absurd hq q2
  · exact absurd hq q3
  · exact (zo_caL hF h hI hi (by omega) (zN σ 1588 0) F 0 (by omega) (by omega)).1 hq
theorem zo_caT (hF : 2500 ≤ F) (h : zM m am σ w) (hI : zI σ) {i pr : Nat} (hi : i < zN σ 1576 0) (hp : pr < 4) (q1 : zN σ 1588 0 ≠ 0) (q2 : zwait (zN σ 200) 0 (zN σ 1580 0) ≠ 60) (q3 : zN σ 1580 0 ≠ 200) (q4 : zany (zbad σ i) 0 (zN σ 1588 0) = false) : ∃ w', zf_Mo_call F w m (nI i) (nI pr) = some (nI (zN σ 122 i % 64), w') ∧ zM m am (zcaF σ i pr) w' := by
  have i1 := zI_ldn hI
  have i2 := zI_wtn hI
  have i3 := zI_msn hI
  obtain ⟨w', r1, r2⟩ := (zo_caL (pr := pr) hF h hI hi (by omega) (zN σ 1588 0) F 0 (by omega) (by omega)).2 q4
  rw [zca_eq] at r2
  refine ⟨w', ?_, r2⟩
  unfold zf_Mo_call
  rw [zM_at h, zo_isI1 h hI hi, zbd_s, if_neg (by decide), if_neg (nI_pos (by omega)), if_neg (show ¬ (3 : Int32) < nI pr from zn_lt (a := 3) (by decide) (by omega) (by omega)), zM_at h, zM_fn h 1588 (by decide) (by decide), if_neg (fun z => q1 ((zn_z (by omega)).mp z)), zM_at h, zo_waiting hF h hI, zbd_s, if_neg (show ¬ nI (zwait (zN σ 200) 0 (zN σ 1580 0)) = (60 : Int32) from fun z => q2 ((nI_eqI (b := 60) (by omega) (by decide)).mp z)), zM_at h, zM_fn h 1580 (by decide) (by decide), if_neg (show ¬ nI (zN σ 1580 0) = (200 : Int32) from fun z => q3 ((nI_eqI (b := 200) (by omega) (by decide)).mp z)), zlt_s]
  exact r1
end ZCALL11
