/-! transmit: the call itself -/
def zairF (σ : zA) (A : Nat → Nat) (B : Nat) : zA := ((fun κ j => if κ = 130 then A j else if κ = 1592 ∧ j = 0 then B else zN σ κ j), zJ σ, zQ σ)
theorem zair_eq {g : Nat → Int32} {σ0 σ : zA} {r : Nat} (h : zTR g σ0 r σ) : σ = zairF σ0 (zN σ 130) (32 * r) := by
  obtain ⟨t1, t2, t3, t4, t5, t6⟩ := h
  refine Prod.ext ?_ (Prod.ext t5 t6)
  funext κ j
  show zN σ κ j = (if κ = 130 then zN σ 130 j else if κ = 1592 ∧ j = 0 then 32 * r else zN σ0 κ j)
  by_cases h1 : κ = 130
  · rw [if_pos h1, h1]
  · rw [if_neg h1]
    by_cases h2 : κ = 1592 ∧ j = 0
    · rw [if_pos h2, h2.1, h2.2, t1]
    · rw [if_neg h2, t4 κ j h1 h2]
section ZTR7
variable {ac : Nat → Nat → Nat} {τ : zB} {am : Nat → Nat} {σ : zA} {w w2 : zw_T} {F m x : Nat}
theorem zair_I (hI : zI σ) {A : Nat → Nat} {r : Nat} (hr : r ≤ 70) (hA : ∀ i, A i < 2) : zI (zairF σ A (32 * r)) := by
  obtain ⟨i_idn, i_msn, i_ldn, i_bts, i_pgn, i_b32, i_adr, i_res, i_inj, i_knd, i_cal, i_cal0, i_mto, i_mpr, i_mnu, i_mle, i_wts, i_wtn, i_ld, i_mk, i_air, i_hcn, i_hrs, i_hc0, i_ct0, i_mi0, i_dis, i_kpn, i_kmn, i_kof, i_knu, i_lat⟩ := hI
  exact ⟨i_idn, i_msn, i_ldn, (show 32 * r ≤ 2240 by omega), i_pgn, (show 32 * r % 32 = 0 by omega), i_adr, i_res, i_inj, i_knd, i_cal, i_cal0, i_mto, i_mpr, i_mnu, i_mle, i_wts, i_wtn, i_ld, i_mk, hA, i_hcn, i_hrs, i_hc0, i_ct0, i_mi0, i_dis, i_kpn, i_kmn, i_kof, i_knu, i_lat⟩
theorem zair_P (hP : zP τ σ) {A : Nat → Nat} {r : Nat} {f : Nat → Int32} (hf : ∀ i, i < 32 * r → bt (f (i / 32)) (31 - i % 32) = decide (A i = 1)) : zP (zb_sI (zb_sF τ 102 0 f) 1001 0 0 (nI (32 * r))) (zairF σ A (32 * r)) := by
  obtain ⟨h0, h1, h2, h3, ⟨o, h4⟩, h5, h6, h7, h8⟩ := hP
  refine ⟨h0, h1, h2, h3, ⟨o, h4⟩, h5, h6, ⟨?_, fun i hi => ?_⟩, h8⟩
  · rw [zb_I_sI, if_pos ⟨rfl, rfl, rfl⟩]
    rfl
  · have hi : i < 32 * r := hi
    rw [zb_I_ne _ (by decide), zb_I_sF]
    exact hf i hi
theorem zop_transmit (hF : 2500 ≤ F) (y : Int32) : zop x m (fun w => zf_WP_transmit F w x y) (fun w => zf_Mo_transmit F w m y) := by
  intro ac τ am σ w1 hx hC hI hP hB
  subst hx
  show ∃ v w1' ac' τ' σ', zf_WP_transmit F w1 (ac 9 0) y = _ ∧ _
  have same : ∀ v, zf_WP_transmit F w1 (ac 9 0) y = some (v, w1) → (∀ w2, zM m am σ w2 → zf_Mo_transmit F w2 m y = some (v, w2)) → ∃ v w1' ac' τ' σ', zf_WP_transmit F w1 (ac 9 0) y = some (v, w1') ∧ ac' 9 0 = ac 9 0 ∧ zC ac' τ' w1' ∧ zI σ' ∧ zP τ' σ' ∧ ∀ w2, zM m am σ w2 → ∃ w2', (fun w => zf_Mo_transmit F w m y) w2 = some (v, w2') ∧ zM m am σ' w2' := fun v e k => ⟨v, w1, ac, τ, σ, e, rfl, hC, hI, hP, fun w2 h => ⟨w2, k w2 h, h⟩⟩
  have bad : (y < 1 ∨ (¬ y < 1 ∧ ¬ y ≤ 4)) → ∃ v w1' ac' τ' σ', zf_WP_transmit F w1 (ac 9 0) y = some (v, w1') ∧ ac' 9 0 = ac 9 0 ∧ zC ac' τ' w1' ∧ zI σ' ∧ zP τ' σ' ∧ ∀ w2, zM m am σ w2 → ∃ w2', (fun w => zf_Mo_transmit F w m y) w2 = some (v, w2') ∧ zM m am σ' w2' := by
    intro hy
    refine same (-1) ?_ (fun w2 h => ?_)
    · unfold zf_WP_transmit
      rcases hy with hy | ⟨k1, k2⟩
      · rw [if_pos hy]
      · rw [if_neg k1, if_neg k2]
    · unfold zf_Mo_transmit
      rcases hy with hy | ⟨k1, k2⟩
      · rw [if_pos hy]
      · rw [if_neg k1, if_neg k2]
  rcases zin y (n := 5) (by omega) with ⟨b, hb, rfl⟩ | hy
  · by_cases hb0 : b = 0
    · subst hb0
      exact bad (Or.inl (by decide))
    clear bad same
    have k1 : ¬ nI b < (1 : Int32) := zn_lt (b := 1) (by omega) (by decide) (by omega)
    have k2 : nI b ≤ (4 : Int32) := (nI_leI (b := 4) (by omega) (by decide)).mpr (by omega)
    obtain ⟨τ1, w3, σ1, r1, r2, r3, r4, r5, r6⟩ := zt_lay (am := am) (m := m) hF hC hI hP (b := b) (by omega)
    have h0 := r4.1
    obtain ⟨w4, f, s1, s2, s3⟩ := zc_snd hF r2 h0 (b := b) (by omega) (zJ σ1 129) r5.2.1
    have hT0 : zTR (zJ σ1 129) σ1 0 (zN_s σ1 1592 0 0) := by
      refine ⟨rfl, fun i hi => absurd hi (by omega), fun i => zI_air r3 i, fun κ j k1 k2 => ?_, rfl, rfl⟩
      exact if_neg k2
    obtain ⟨σ2, t1, t2⟩ := zo_snd (m := m) (am := am) hF hT0 (by omega) (v := -1431655766) (if_pos (by decide)).symm
    obtain ⟨σ3, t3, t4⟩ := zo_snd (m := m) (am := am) hF t1 (by omega) (v := -1431655766) (if_pos (by decide)).symm
    obtain ⟨σ4, t5, t6⟩ := zo_s173 (m := m) (am := am) hF (b := b) (by omega) (fun j hj => rfl) (16 * b) 0 σ3 (by omega) t3
    have e4 := zair_eq t5
    have hA : ∀ i, zN σ4 130 i < 2 := t5.2.2.1
    have hI4 := zair_I r3 (A := zN σ4 130) (r := 2 + 17 * b) (by omega) hA
    have hP4 := zair_P r4 (A := zN σ4 130) (r := 2 + 17 * b) (f := f) (fun i hi => by rw [s3 _ (by omega), t5.2.1 i hi])
    rw [← e4] at hI4 hP4
    refine ⟨nI (32 * (2 + 17 * b)), w4, ac, _, σ4, ?_, rfl, s2, hI4, hP4, fun w2 h => ?_⟩
    · have g1 : zw_I w4 1001 (ac 1 0) 0 = nI (32 * (2 + 17 * b)) := (zC_I s2 1001 1 0 rfl (zP0_a1 h0) 0).trans (by rw [zb_I_sI, if_pos ⟨rfl, rfl, rfl⟩])
      unfold zf_WP_transmit
      rw [if_neg k1, if_pos k2, zC_at hC 9 0 (zP0_a9 hP.1), r1, zbv_s, zC_at r2 9 0 (zP0_a9 h0), zC_at r2 9 0 (zP0_a9 h0), zC_R r2 1521 9 4 0 rfl rfl (zP0_a9 h0) (zP0_r1521 h0), zC_at r2 4 0 (zP0_a4 h0), zC_R r2 1522 9 1 0 rfl rfl (zP0_a9 h0) (zP0_r1522 h0), zC_at r2 1 0 (zP0_a1 h0), zC_R r2 1192 4 101 0 rfl rfl (zP0_a4 h0) (zP0_r1192 h0), s1, zbv_s, zC_at s2 9 0 (zP0_a9 h0), zC_R s2 1522 9 1 0 rfl rfl (zP0_a9 h0) (zP0_r1522 h0), zC_at s2 1 0 (zP0_a1 h0), g1]
    · obtain ⟨w5, u1, n', u2⟩ := r6 w2 h
      have m1 := zM_sfn u1 1592 (by decide) (by decide) 0
      obtain ⟨w6, v1, v2⟩ := t2 _ m1
      obtain ⟨w7, v3, v4⟩ := t4 _ v1
      obtain ⟨w8, v5, v6⟩ := t6 _ v3
      refine ⟨w8, ?_, v5⟩
      have v6' := v6 F (by omega)
      have v6' : zf_Mo_transmit_L173 F F w7 m (nI b) (0 : Int32) = _ := v6'
      show zf_Mo_transmit F w2 m (nI b) = _
      unfold zf_Mo_transmit
      rw [if_neg k1, if_pos k2, zlt_s, u2, zf_Mo_transmit_L64, if_pos (by decide), zM_at u1, zlt_s, show (0 : Int32) = nI 0 from rfl, zM_at m1, v2, zbv_s, zM_at v1, v4, zbv_s, zlt_s]
      exact v6'
  · refine bad ?_
    rcases hy with hy | ⟨k1, k2⟩
    · exact Or.inl (Int32.lt_trans hy (by decide))
    · obtain ⟨j, hj, rfl⟩ := zn_nn k1
      have := (nI_leI (by omega) hj).mp k2
      exact Or.inr ⟨zn_lt (b := 1) hj (by decide) (by omega), zn_le (b := 4) hj (by decide) (by omega)⟩
end ZTR7
