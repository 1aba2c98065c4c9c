/-! call: the model, whole -/
section ZCALL2
variable {ac : Nat → Nat → Nat} {τ : zB} {am : Nat → Nat} {σ : zA} {w w2 : zw_T} {F m x : Nat}
theorem zo_caL (hF : 2500 ≤ F) (h : zM m am σ w) (hI : zI σ) {i pr : Nat} (hi : i < zN σ 1576 0) (hm : zN σ 1580 0 < 200) : ∀ c n k, k + c = zN σ 1588 0 → c < n → (zany (zbad σ i) k c = true → zf_Mo_call_L47 F n w m (nI i) (nI pr) (nI k) = some (-1, w)) ∧ (zany (zbad σ i) k c = false → ∃ w', zf_Mo_call_L47 F n w m (nI i) (nI pr) (nI k) = some (nI (zN σ 122 i % 64), w') ∧ zM m am (zcaS σ i pr) w') := by
  have i1 := zI_ldn hI
  have i2 := zI_idn hI
  have i3 := zI_cal hI i
  intro c
  induction c with
  | zero =>
    intro n k e1 e2
    obtain ⟨n, rfl⟩ : ∃ q, n = q + 1 := ⟨n - 1, by omega⟩
    refine ⟨fun q => (by cases q), fun _ => ?_⟩
    have m1 := zM_sfn h 1580 (by decide) (by decide) (zN σ 1580 0 + 1)
    have m2 := zM_sn m1 123 (by decide) (zN σ 1580 0) i
    have m3 := zM_sn m2 124 (by decide) (zN σ 1580 0) pr
    have m4 := zM_sn m3 125 (by decide) (zN σ 1580 0) (zN σ 122 i % 64)
    have m5 := zM_sn m4 122 (by decide) i (zN σ 122 i + 1)
    have m6 := zM_sn m5 126 (by decide) (zN σ 1580 0) (zN σ 1588 0)
    obtain ⟨w', r1, r2⟩ := zo_cpL (F := F) (m := m) (am := am) (zN σ 1580 0) hm (zN σ 1588 0) F 0 (zca1 σ i pr) _ (show 0 + zN σ 1588 0 = zN σ 1588 0 by omega) i1 (by omega) m6
    refine ⟨w', ?_, r2⟩
    have k3 : zw_I _ 122 (am 122) i = nI (zN σ 122 i) := zM_n m3 122 (by decide) i
    have k4 : zw_I _ 122 (am 122) i = nI (zN σ 122 i) := zM_n m4 122 (by decide) i
    have k5 : zw_I _ 1588 m 0 = nI (zN σ 1588 0) := zM_fn m5 1588 (by decide) (by decide)
    have k6 : zN (zca1 σ i pr) 125 (zN σ 1580 0) = zN σ 122 i % 64 := if_pos ⟨rfl, rfl⟩
    rw [k6] at r1
    unfold zf_Mo_call_L47
    rw [zM_at h, zM_fn h 1588 (by decide) (by decide), if_pos ((nI_leI (by omega) (by omega)).mpr (by omega)), zM_at h, zlt_s, zM_at h, zM_at h, zM_fn h 1580 (by decide) (by decide), zs1, zlt_s, zM_at m1, zM_R m1 1581 123 200 (by decide), zM_ix m1 1581 123 200 (by decide) hm (by decide), zlt_s, zM_at m2, zM_R m2 1582 124 200 (by decide), zM_ix m2 1582 124 200 (by decide) hm (by decide), zlt_s, zM_at m3, zM_at m3, zM_R m3 1579 122 12 (by decide), zM_ix m3 1579 122 12 (by decide) (by omega) (by decide), zM_R m3 1583 125 200 (by decide), zM_ix m3 1583 125 200 (by decide) hm (by decide), k3, show (64 : Int32) = nI 64 from rfl, zq_rem (by omega) (by decide) (by decide), zlt_s, zM_at m4, zM_R m4 1579 122 12 (by decide), zM_ix m4 1579 122 12 (by decide) (by omega) (by decide), zM_ix m4 1579 122 12 (by decide) (by omega) (by decide), k4, zs1, zlt_s, zM_at m5, zM_at m5, zM_R m5 1584 126 200 (by decide), zM_ix m5 1584 126 200 (by decide) hm (by decide), k5, zlt_s, zlt_s]
    exact r1
  | succ c ih =>
    intro n k e1 e2
    obtain ⟨n, rfl⟩ : ∃ q, n = q + 1 := ⟨n - 1, by omega⟩
    have nx := ih n (k + 1) (by omega) (by omega)
    have st : zf_Mo_call_L47 F (n + 1) w m (nI i) (nI pr) (nI k) = if zbad σ i k = true then some ((-1 : Int32), w) else zf_Mo_call_L47 F n w m (nI i) (nI pr) (nI (k + 1)) := by
      have hkd := zI_knd hI i
      rw [zf_Mo_call_L47, zM_at h, zM_fn h 1588 (by decide) (by decide), if_neg (zn_le (by omega) (by omega) (by omega)), zM_at h, zM_R h 1578 121 12 (by decide), zM_ix h 1578 121 12 (by decide) (by omega) (by decide), zM_n h 121 (by decide)]
      unfold zbad
      by_cases hz : zN σ 121 i = 0
      · rw [if_pos ((zn_z (by omega)).mpr hz), if_pos hz, zM_at h, zM_R h 1587 128 20 (by decide), zM_ix h 1587 128 20 (by decide) (by omega) (by decide), zM_j h 128 (by decide)]
        by_cases hb : zJ σ 128 k ≤ 11
        · rw [if_pos hb, if_neg (by rw [decide_eq_false (not_not_intro hb)]; decide), zf_Mo_call_j91, zlt_s, zs1]
        · rw [if_neg hb, if_pos (decide_eq_true hb)]
      · rw [if_neg (fun q => hz ((zn_z (by omega)).mp q)), if_neg hz, zM_at h, zM_R h 1587 128 20 (by decide), zM_ix h 1587 128 20 (by decide) (by omega) (by decide), zM_j h 128 (by decide)]
        by_cases hb : (32 : Int32) ≤ zJ σ 128 k
        · rw [if_pos hb, if_neg (by rw [decide_eq_false (not_not_intro hb)]; decide), zf_Mo_call_j91, zlt_s, zs1]
        · rw [if_neg hb, if_pos (decide_eq_true hb)]
    rw [st]
    unfold zany
    cases hb : zbad σ i k with
    | true =>
      rw [if_pos rfl, Bool.true_or]
      exact ⟨fun _ => rfl, fun z => by cases z⟩
    | false =>
      rw [if_neg (by decide), Bool.false_or]
      exact nx
end ZCALL2
