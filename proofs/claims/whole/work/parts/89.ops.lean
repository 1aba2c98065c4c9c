/-! desk, load -/
def zfnd (f : Nat → Bool) : Nat → Option Nat
  | 0 => none
  | c + 1 => if f c = true then some c else zfnd f c
theorem zfnd_s (f : Nat → Bool) (c : Nat) : zfnd f (c + 1) = if f c = true then some c else zfnd f c := rfl
theorem zfnd_lt (f : Nat → Bool) : ∀ c j, zfnd f c = some j → j < c
  | 0, _, h => by cases h
  | c + 1, j, h => by
    unfold zfnd at h
    by_cases hq : f c = true
    · rw [if_pos hq] at h
      cases h
      omega
    · rw [if_neg hq] at h
      have := zfnd_lt f c j h
      omega
def zoi : Option Nat → Int32
  | none => -1
  | some j => nI j
/-- what the desk answers -/
def zdesk (σ : zA) (y : Int32) (fnd : Option Nat) : Int32 := match fnd with
  | none => -1
  | some k => if y < 0 then -1 else if nI (zN σ 126 k) ≤ y then -1 else zJ σ 127 (20 * k + y.toNatClampNeg)
section ZOPS5
variable {ac : Nat → Nat → Nat} {τ : zB} {am : Nat → Nat} {σ : zA} {w w2 : zw_T} {F m x : Nat}
theorem zp_a6 (h5 : zP5 τ σ) {k : Nat} (hk : k < zN σ 1580 0) : zb_a τ 6 k = true := (zP5_a h5 k).trans (decide_eq_true hk)
theorem zp_a105 (h5 : zP5 τ σ) {k : Nat} (hk : k < zN σ 1580 0) : zb_a τ 105 k = true := (zP5_sa h5 k).trans (decide_eq_true hk)
theorem zp_a106 (h5 : zP5 τ σ) {k : Nat} (hk : k < zN σ 1580 0) : zb_a τ 106 k = true := (zP5_wa h5 k).trans (decide_eq_true hk)
theorem zc_dkL (hC : zC ac τ w) (hI : zI σ) (h0 : zP0 τ) (h1 : zP1 τ σ) (h5 : zP5 τ σ) {i : Nat} (hi : i < zN σ 1576 0) (u y : Int32) : ∀ c n, c ≤ zN σ 1580 0 → c < n → zf_WP_desk_L22 F n w (ac 9 0) u y (some (ac 3 i)) (nI c - 1) = some (zdesk σ y (zfnd (fun k => decide (zN σ 123 k = i) && decide (nI (zN σ 125 k) = u)) c), w) := by
  have i1 := zI_msn hI
  intro c
  induction c with
  | zero =>
    intro n e1 e2
    obtain ⟨n, rfl⟩ : ∃ q, n = q + 1 := ⟨n - 1, by omega⟩
    unfold zf_WP_desk_L22
    rw [if_pos (by decide)]
    rfl
  | succ c ih =>
    intro n e1 e2
    obtain ⟨n, rfl⟩ : ∃ q, n = q + 1 := ⟨n - 1, by omega⟩
    have hc : c < zN σ 1580 0 := e1
    have a6 := zp_a6 h5 hc
    have a105 := zp_a105 h5 hc
    have ht := zI_mto hI c hc
    have hl := zI_mle hI c
    have e : nI (c + 1) - 1 = nI c := pk_sub (a := c + 1) (b := 1) (by omega)
    have nxt : zf_WP_desk_j88 F (zf_WP_desk_L22 F n) w (ac 9 0) u y (some (ac 3 i)) (nI c) = some (zdesk σ y (zfnd (fun k => decide (zN σ 123 k = i) && decide (nI (zN σ 125 k) = u)) c), w) := by
      unfold zf_WP_desk_j88
      rw [zlt_s, show nI c + (-1 : Int32) = nI c - 1 from (Int32.sub_eq_add_neg (nI c) 1).symm]
      exact ih n (by omega) (by omega)
    rw [e]
    unfold zf_WP_desk_L22
    rw [if_neg (nI_pos (by omega)), zC_at hC 9 0 (zP0_a9 h0), zC_R hC 1516 9 405 0 rfl rfl (zP0_a9 h0) (zP0_r1516 h0), zC_ix hC 405 0 (zP0_a405 h0) (by rw [zP0_l405 h0]; omega) (by omega), zC_R hC 405 405 6 0 rfl rfl (zP0_a405 h0) (zP5_r h5 c hc), zC_at hC 6 c a6, zC_R hC 1320 6 3 c rfl rfl a6 (zP5_to h5 c hc)]
    unfold zfnd
    by_cases q1 : zN σ 123 c = i
    · rw [if_pos (by rw [q1]), zC_at hC 9 0 (zP0_a9 h0), zC_R hC 1516 9 405 0 rfl rfl (zP0_a9 h0) (zP0_r1516 h0), zC_ix hC 405 0 (zP0_a405 h0) (by rw [zP0_l405 h0]; omega) (by omega), zC_R hC 405 405 6 0 rfl rfl (zP0_a405 h0) (zP5_r h5 c hc), zC_at hC 6 c a6, zC_I hC 1322 6 c rfl a6, zP5_nu h5 c hc]
      by_cases q2 : nI (zN σ 125 c) = u
      · rw [if_pos q2, zC_at hC 9 0 (zP0_a9 h0), zC_R hC 1516 9 405 0 rfl rfl (zP0_a9 h0) (zP0_r1516 h0), zC_ix hC 405 0 (zP0_a405 h0) (by rw [zP0_l405 h0]; omega) (by omega), zC_R hC 405 405 6 0 rfl rfl (zP0_a405 h0) (zP5_r h5 c hc), zC_at hC 6 c a6, zlt_s, zC_R hC 1323 6 105 c rfl rfl a6 (zP5_sr h5 c hc), if_pos (show (decide (zN σ 123 c = i) && decide (nI (zN σ 125 c) = u)) = true by rw [decide_eq_true q1, decide_eq_true q2]; rfl)]
        show _ = some (if y < 0 then -1 else if nI (zN σ 126 c) ≤ y then -1 else zJ σ 127 (20 * c + y.toNatClampNeg), w)
        by_cases q3 : y < 0
        · rw [if_pos q3, if_pos q3]
        · obtain ⟨s, hs, rfl⟩ := zn_nn q3
          have et : (zw_ty w (ac 105 c)).2 = zN σ 126 c := by rw [(hC.1 105 c a105).1, ← zP5_sl h5 c hc]
          rw [if_neg q3, if_neg q3, zC_at hC 105 c a105, et]
          by_cases q4 : nI (zN σ 126 c) ≤ nI s
          · rw [if_pos q4, if_pos q4]
          · have q5 : s < zN σ 126 c := by
              have := mt (nI_leI (a := zN σ 126 c) (b := s) (by omega) hs).mpr q4
              omega
            rw [if_neg q4, if_neg q4, zC_ix hC 105 c a105 (by rw [zP5_sl h5 c hc]; exact q5) hs, zC_I hC 105 105 c rfl a105, zP5_sg h5 c s hc q5, nI_clamp hs]
      · rw [if_neg q2, nxt, if_neg (show ¬ (decide (zN σ 123 c = i) && decide (nI (zN σ 125 c) = u)) = true by rw [decide_eq_false q2, Bool.and_false]; decide)]
    · rw [if_neg (fun z => q1 (hC.2.1 3 _ _ (zp_a3 h1 ht) (zp_a3 h1 hi) (Option.some.inj z))), nxt, if_neg (show ¬ (decide (zN σ 123 c = i) && decide (nI (zN σ 125 c) = u)) = true by rw [decide_eq_false q1, Bool.false_and]; decide)]
theorem zo_dkL (h : zM m am σ w) (hI : zI σ) (z u y : Int32) : ∀ c n k, k + c = zN σ 1580 0 → c < n → zf_Mo_desk_L6 F n w m z u y (zoi (zfnd (fun k => decide (nI (zN σ 123 k) = z) && decide (nI (zN σ 125 k) = u)) k)) (nI k) = some (zdesk σ y (zfnd (fun k => decide (nI (zN σ 123 k) = z) && decide (nI (zN σ 125 k) = u)) (zN σ 1580 0)), w) := by
  have i1 := zI_msn hI
  intro c
  induction c with
  | zero =>
    intro n k e1 e2
    obtain ⟨n, rfl⟩ : ∃ q, n = q + 1 := ⟨n - 1, by omega⟩
    have hk : k = zN σ 1580 0 := by omega
    unfold zf_Mo_desk_L6
    rw [zM_at h, zM_fn h 1580 (by decide) (by decide), if_pos ((nI_leI (by omega) (by omega)).mpr (by omega)), hk]
    cases hf : zfnd (fun k => decide (nI (zN σ 123 k) = z) && decide (nI (zN σ 125 k) = u)) (zN σ 1580 0) with
    | none =>
      show (if (-1 : Int32) < 0 then _ else _) = some (-1, w)
      rw [if_pos (by decide)]
    | some j =>
      have hj := zfnd_lt _ _ _ hf
      have hl := zI_mle hI j
      show (if nI j < 0 then _ else _) = some (if y < 0 then -1 else if nI (zN σ 126 j) ≤ y then -1 else zJ σ 127 (20 * j + y.toNatClampNeg), w)
      rw [if_neg (nI_pos (by omega))]
      by_cases q3 : y < 0
      · rw [if_pos q3, if_pos q3]
      · obtain ⟨s, hs, rfl⟩ := zn_nn q3
        rw [if_neg q3, if_neg q3, zM_at h, zM_R h 1584 126 200 (by decide), show (zoi (some j)) = nI j from rfl, zM_ix h 1584 126 200 (by decide) (by omega) (by decide), zM_n h 126 (by decide)]
        by_cases q4 : s < zN σ 126 j
        · rw [if_pos ((nI_ltI hs (by omega)).mpr q4), if_neg (zn_le (by omega) hs (by omega)), zM_at h, zM_R h 1585 127 4000 (by decide), show (20 : Int32) = nI 20 from rfl, zmd, zM_ix h 1585 127 4000 (by decide) (by omega) (by decide), zM_j h 127 (by decide), nI_clamp hs]
        · rw [if_neg (zn_lt hs (by omega) q4), if_pos ((nI_leI (by omega) hs).mpr (by omega))]
  | succ c ih =>
    intro n k e1 e2
    obtain ⟨n, rfl⟩ : ∃ q, n = q + 1 := ⟨n - 1, by omega⟩
    have := ih n (k + 1) (by omega) (by omega)
    rw [zfnd_s] at this
    unfold zf_Mo_desk_L6
    rw [zM_at h, zM_fn h 1580 (by decide) (by decide), if_neg (zn_le (by omega) (by omega) (by omega)), zM_at h, zM_R h 1581 123 200 (by decide), zM_ix h 1581 123 200 (by decide) (by omega) (by decide), zM_n h 123 (by decide)]
    by_cases q1 : nI (zN σ 123 k) = z
    · rw [if_pos q1, zM_at h, zM_R h 1583 125 200 (by decide), zM_ix h 1583 125 200 (by decide) (by omega) (by decide), zM_n h 125 (by decide)]
      by_cases q2 : nI (zN σ 125 k) = u
      · rw [if_pos (show (decide (nI (zN σ 123 k) = z) && decide (nI (zN σ 125 k) = u)) = true by rw [decide_eq_true q1, decide_eq_true q2]; rfl)] at this
        rw [if_pos q2, zf_Mo_desk_j44, zlt_s, zlt_s, zs1]
        exact this
      · rw [if_neg (show ¬ (decide (nI (zN σ 123 k) = z) && decide (nI (zN σ 125 k) = u)) = true by rw [decide_eq_false q2, Bool.and_false]; decide)] at this
        rw [if_neg q2, zf_Mo_desk_j42, zf_Mo_desk_j44, zlt_s, zlt_s, zs1]
        exact this
    · rw [if_neg (show ¬ (decide (nI (zN σ 123 k) = z) && decide (nI (zN σ 125 k) = u)) = true by rw [decide_eq_false q1, Bool.false_and]; decide)] at this
      rw [if_neg q1, zf_Mo_desk_j42, zf_Mo_desk_j44, zlt_s, zlt_s, zs1]
      exact this
theorem zfnd_no (f : Nat → Bool) : ∀ c, (∀ k, k < c → f k = false) → zfnd f c = none
  | 0, _ => rfl
  | c + 1, h => by
    unfold zfnd
    rw [if_neg (by rw [h c (by omega)]; decide)]
    exact zfnd_no f c (fun k hk => h k (by omega))
theorem zfnd_cg {f g : Nat → Bool} : ∀ c, (∀ k, k < c → f k = g k) → zfnd f c = zfnd g c
  | 0, _ => rfl
  | c + 1, h => by
    unfold zfnd
    rw [h c (by omega), zfnd_cg c (fun k hk => h k (by omega))]
theorem zop_desk (hF : 2500 ≤ F) (z u y : Int32) : zop x m (fun w => zf_WP_desk F w x z u y) (fun w => zf_Mo_desk F w m z u y) := zop_ro fun ac τ am σ w1 hx hC hI hP => by
  subst hx
  obtain ⟨h0, h1, h2, h3, ⟨o, h4⟩, h5, h6, h7, h8⟩ := hP
  have i1 := zI_msn hI
  have i2 := zI_idn hI
  have mo : ∀ w2, zM m am σ w2 → zf_Mo_desk F w2 m z u y = some (zdesk σ y (zfnd (fun k => decide (nI (zN σ 123 k) = z) && decide (nI (zN σ 125 k) = u)) (zN σ 1580 0)), w2) := by
    intro w2 h
    unfold zf_Mo_desk
    rw [zlt_s, zlt_s]
    exact zo_dkL h hI z u y (zN σ 1580 0) F 0 (by omega) (by omega)
  refine ⟨_, ?_, mo⟩
  show zf_WP_desk F w1 (ac 9 0) z u y = _
  unfold zf_WP_desk
  rcases zin z (n := zN σ 1576 0) (by omega) with ⟨i, hi, rfl⟩ | hz
  · rw [zC_at hC 9 0 (zP0_a9 h0), zc_id1 hC hI h0 h1 hi, zbd_s, zlt_s, if_neg (by simp), zC_at hC 9 0 (zP0_a9 h0), zC_I hC 1517 9 0 rfl (zP0_a9 h0), zP5_n h5, zlt_s, zc_dkL hC hI h0 h1 h5 hi u y (zN σ 1580 0) F (Nat.le_refl _) (by omega)]
    rw [zfnd_cg (zN σ 1580 0) (g := fun k => decide (nI (zN σ 123 k) = nI i) && decide (nI (zN σ 125 k) = u)) (fun k hk => ?_)]
    have := zI_mto hI k hk
    show (decide (zN σ 123 k = i) && decide (nI (zN σ 125 k) = u)) = (decide (nI (zN σ 123 k) = nI i) && decide (nI (zN σ 125 k) = u))
    rw [decide_eq_decide.mpr (nI_eqI (a := zN σ 123 k) (b := i) (by omega) (by omega))]
  · rw [zC_at hC 9 0 (zP0_a9 h0), zc_id0 hC h0 h1 hz, zbd_s, zlt_s, if_pos rfl, zfnd_no _ _ (fun k hk => ?_)]
    · rfl
    · have := zI_mto hI k hk
      show (decide (nI (zN σ 123 k) = z) && _) = false
      rw [decide_eq_false (fun q => zout_ne (by omega) hz this q.symm), Bool.false_and]
end ZOPS5
