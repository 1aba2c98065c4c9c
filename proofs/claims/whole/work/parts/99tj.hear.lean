/-! hear: frames, and who is called -/
def zaw (σ : zA) (fr j : Nat) : Bool := decide (zN σ 120 (zN σ 131 j) % 8 = fr)
def zmt (σ : zA) (fr D j : Nat) : Bool := decide (zN σ 120 (zN σ 131 j) % 8 = fr) && decide (zaddr σ (zN σ 131 j) = D)
theorem zplace_f {f : Nat → Bool} : ∀ c s, zplace f s c = none → ∀ j, s ≤ j → j < s + c → f j = false
  | 0, _, _, j, h1, h2 => by omega
  | c + 1, s, h, j, h1, h2 => by
    unfold zplace at h
    by_cases hf : f s = true
    · rw [if_pos hf] at h
      cases h
    · rw [if_neg hf] at h
      by_cases e : j = s
      · rw [e]
        exact Bool.eq_false_iff.mpr hf
      · exact zplace_f c (s + 1) h j (by omega) (by omega)
section ZH10
variable {ac : Nat → Nat → Nat} {τ : zB} {am : Nat → Nat} {σ : zA} {w w2 : zw_T} {F m p q : Nat}
theorem zc_hfL (hH : zH p q ac τ σ w) {fr : Nat} (hf : fr < 8) : ∀ c n k, k + c = zN σ 132 p → c < n → zf_Pg_hasFrame_L2 F n w (ac 7 p) (nI fr) (nI k) = some (zd (zany (zaw σ fr) (4 * p + k) c), w) := by
  have hp6 := zH_p6 hH
  obtain ⟨hC, hI, ⟨h0, h1, h2, h3, h4, h5, h6, h7⟩, hR, hp⟩ := hH
  have i1 := zI_hcn hI p
  have a7 := zp_a7 h2 hp
  have a401 := zp_a401 h2 hp
  have l401 := zP2_hl h2 p hp
  intro c
  induction c with
  | zero =>
    intro n k e1 e2
    obtain ⟨n, rfl⟩ : ∃ q, n = q + 1 := ⟨n - 1, by omega⟩
    rw [zf_Pg_hasFrame_L2, zC_at hC 7 p a7, zC_I hC 1385 7 p rfl a7, zP2_hn h2 p hp, if_pos ((nI_leI (by omega) (by omega)).mpr (by omega)), zb_0]
    rfl
  | succ c ih =>
    intro n k e1 e2
    obtain ⟨n, rfl⟩ : ∃ q, n = q + 1 := ⟨n - 1, by omega⟩
    have hk : k < zN σ 132 p := by omega
    have i2 := zI_hrs hI p k hp6 hk
    have a2 := zp_b2 h3 hI hp hk
    have a3 := zp_a3 h1 i2
    rw [zf_Pg_hasFrame_L2, zC_at hC 7 p a7, zC_I hC 1385 7 p rfl a7, zP2_hn h2 p hp, if_neg (zn_le (by omega) (by omega) (by omega)), zC_at hC 7 p a7, zC_R hC 1384 7 401 p rfl rfl a7 (zP2_hr h2 p hp), zC_ix hC 401 p a401 (by omega) (by omega), zC_R hC 401 401 2 p rfl rfl a401 (zP3_r h3 p k hp hk), zC_at hC 2 _ a2, zC_R hC 1064 2 3 _ rfl rfl a2 (zP3_id h3 p k hp hk), zC_at hC 3 _ a3, zC_I hC 1131 3 _ rfl a3, zP1_fr h1 _ i2]
    unfold zany
    by_cases hz : zN σ 120 (zN σ 131 (4 * p + k)) % 8 = fr
    · rw [if_pos (by rw [hz]), zb_1, show zaw σ fr (4 * p + k) = true from decide_eq_true hz, Bool.true_or]
      rfl
    · rw [if_neg (fun z => hz ((nI_eqI (by omega) (by omega)).mp z)), show zaw σ fr (4 * p + k) = false from decide_eq_false hz, Bool.false_or, zs1, zlt_s, ih n (k + 1) (by omega) (by omega), show 4 * p + (k + 1) = 4 * p + k + 1 by omega]
theorem zc_hf (hF : 2500 ≤ F) (hH : zH p q ac τ σ w) {fr : Nat} (hf : fr < 8) : zf_Pg_hasFrame F w (ac 7 p) (nI fr) = some (zd (zany (zaw σ fr) (4 * p) (zN σ 132 p)), w) := by
  have i1 := zI_hcn hH.2.1 p
  unfold zf_Pg_hasFrame
  rw [zlt_s]
  exact zc_hfL hH hf (zN σ 132 p) F 0 (by omega) (by omega)
theorem zo_awL (hH : zH p q ac τ σ w) (h : zM m am σ w2) {fr : Nat} (hf : fr < 8) : ∀ c n k b, k + c = 4 * p + zN σ 132 p → 4 * p ≤ k → c < n → zf_Mo_isAwake_L20 F n w2 m (nI fr) (zd b) (nI k) = some (zd (b || zany (zaw σ fr) k c), w2) := by
  have hp6 := zH_p6 hH
  have g7 := zH_mp hH h
  obtain ⟨hC, hI, hP, hR, hp⟩ := hH
  have i1 := zI_hcn hI p
  have i3 := zI_idn hI
  intro c
  induction c with
  | zero =>
    intro n k b e1 e0 e2
    obtain ⟨n, rfl⟩ : ∃ q, n = q + 1 := ⟨n - 1, by omega⟩
    rw [zf_Mo_isAwake_L20, zM_at h, zM_at h, zM_at h, zM_R h 1597 132 6 (by decide), g7, zM_ix h 1597 132 6 (by decide) hp6 (by decide), zM_n h 132 (by decide), show (4 : Int32) * nI p + nI (zN σ 132 p) = nI (4 * p + zN σ 132 p) from zmd 4 _ _, if_pos ((nI_leI (by omega) (by omega)).mpr (by omega)), zd_b]
    unfold zany
    rw [Bool.or_false]
  | succ c ih =>
    intro n k b e1 e0 e2
    obtain ⟨n, rfl⟩ : ∃ q, n = q + 1 := ⟨n - 1, by omega⟩
    have i2 := zI_hrs hI p (k - 4 * p) hp6 (by omega)
    rw [show 4 * p + (k - 4 * p) = k by omega] at i2
    rw [zf_Mo_isAwake_L20, zM_at h, zM_at h, zM_at h, zM_R h 1597 132 6 (by decide), g7, zM_ix h 1597 132 6 (by decide) hp6 (by decide), zM_n h 132 (by decide), show (4 : Int32) * nI p + nI (zN σ 132 p) = nI (4 * p + zN σ 132 p) from zmd 4 _ _, if_neg (zn_le (by omega) (by omega) (by omega))]
    unfold zany
    cases b with
    | true =>
      rw [if_neg (by decide)]
      unfold zf_Mo_isAwake_j62 zf_Mo_isAwake_j67
      rw [zlt_s, zlt_s, zs1]
      have := ih n (k + 1) true (by omega) (by omega) (by omega)
      rw [Bool.true_or] at this ⊢
      exact this
    | false =>
      rw [if_pos (by decide), zM_at h, zM_at h, zM_R h 1596 131 24 (by decide), zM_ix h 1596 131 24 (by decide) (by omega) (by decide), zM_n h 131 (by decide), zM_R h 1577 120 12 (by decide), zM_ix h 1577 120 12 (by decide) (by omega) (by decide), zM_n h 120 (by decide), show zi_rem (nI (zN σ 120 (zN σ 131 k))) (8 : Int32) = nI (zN σ 120 (zN σ 131 k) % 8) from zq_rem (by have := zI_adr hI (zN σ 131 k); omega) (by decide) (by decide), Bool.false_or]
      by_cases hz : zN σ 120 (zN σ 131 k) % 8 = fr
      · rw [if_pos (by rw [hz]), show zaw σ fr k = true from decide_eq_true hz, Bool.true_or]
        unfold zf_Mo_isAwake_j62 zf_Mo_isAwake_j67
        rw [zlt_s, zlt_s, zs1]
        have := ih n (k + 1) true (by omega) (by omega) (by omega)
        rw [Bool.true_or] at this
        exact this
      · rw [if_neg (fun z => hz ((nI_eqI (by omega) (by omega)).mp z)), show zaw σ fr k = false from decide_eq_false hz, Bool.false_or]
        unfold zf_Mo_isAwake_j67
        rw [zlt_s, zlt_s, zs1]
        have := ih n (k + 1) false (by omega) (by omega) (by omega)
        rw [Bool.false_or] at this
        exact this
theorem zo_aw (hF : 2500 ≤ F) (hH : zH p q ac τ σ w) (h : zM m am σ w2) {fr : Nat} (hf : fr < 8) : (zb_R τ 1259 0 0 = none → zf_Mo_isAwake F w2 m (nI fr) = some (zd (zany (zaw σ fr) (4 * p) (zN σ 132 p)), w2)) ∧ (zb_R τ 1259 0 0 ≠ none → zf_Mo_isAwake F w2 m (nI fr) = some (1, w2)) := by
  have hp6 := zH_p6 hH
  have i1 := zI_hcn hH.2.1 p
  have g7 := zH_mp hH h
  have e4 : (4 : Int32) * nI p = nI (4 * p) := pk_mul 4 p
  refine ⟨fun hz => ?_, fun hz => ?_⟩
  · have hr : zJ σ 1608 0 = -1 := by
      rcases hH.2.2.2.1.2.2.2.2 with ⟨_, k2⟩ | ⟨k, _, k2, _⟩
      · exact k2
      · rw [hz] at k2
        cases k2
    have l := zo_awL (F := F) hH h hf (zN σ 132 p) F (4 * p) false (by omega) (by omega) (by omega)
    rw [Bool.false_or] at l
    unfold zf_Mo_isAwake
    rw [zM_at h, zM_fj h 1608 (by decide) (by decide), hr, if_pos (by decide)]
    unfold zf_Mo_isAwake_j12
    rw [zlt_s, zM_at h, g7, e4, zlt_s]
    exact l
  · obtain ⟨k, i, wd, k1, k2, k3, k4, k5, k6, k7, kg⟩ := zh_run hH hz
    have i3 := zI_idn hH.2.1
    have l := zo_awL (F := F) hH h hf (zN σ 132 p) F (4 * p) true (by omega) (by omega) (by omega)
    rw [Bool.true_or] at l
    unfold zf_Mo_isAwake
    rw [zM_at h, zM_fj h 1608 (by decide) (by decide), k7, if_neg (nI_pos (by omega))]
    unfold zf_Mo_isAwake_j12
    rw [zlt_s, zM_at h, g7, e4, zlt_s]
    exact l
theorem zaddr_lt (hI : zI σ) (j : Nat) : zaddr σ j < 2097152 := by
  have := zI_adr hI j
  unfold zaddr
  split <;> omega
/-- the class's answer -/
theorem zc_cbL (hH : zH p q ac τ σ w) {fr D : Nat} (hf : fr < 8) (hD : D < 2097152) : ∀ c n k, k + c = zN σ 132 p → c < n → zf_Pg_calledBy_L2 F n w (ac 7 p) (zn_cw (nI D)) (nI fr) (nI k) = some ((zplace (fun k => zmt σ fr D (4 * p + k)) k c).map (fun k => ac 2 (4 * p + k)), w) := by
  have hp6 := zH_p6 hH
  obtain ⟨hC, hI, ⟨h0, h1, h2, h3, h4, h5, h6, h7⟩, hR, hp⟩ := hH
  have i1 := zI_hcn hI p
  have a7 := zp_a7 h2 hp
  have a401 := zp_a401 h2 hp
  have l401 := zP2_hl h2 p hp
  intro c
  induction c with
  | zero =>
    intro n k e1 e2
    obtain ⟨n, rfl⟩ : ∃ q, n = q + 1 := ⟨n - 1, by omega⟩
    rw [zf_Pg_calledBy_L2, zC_at hC 7 p a7, zC_I hC 1385 7 p rfl a7, zP2_hn h2 p hp, if_pos ((nI_leI (by omega) (by omega)).mpr (by omega))]
    rfl
  | succ c ih =>
    intro n k e1 e2
    obtain ⟨n, rfl⟩ : ∃ q, n = q + 1 := ⟨n - 1, by omega⟩
    have ih' := ih n (k + 1) (by omega) (by omega)
    have hk : k < zN σ 132 p := by omega
    have i2 := zI_hrs hI p k hp6 hk
    have a2 := zp_b2 h3 hI hp hk
    have a3 := zp_a3 h1 i2
    have la := zaddr_lt hI (zN σ 131 (4 * p + k))
    rw [zf_Pg_calledBy_L2, zC_at hC 7 p a7, zC_I hC 1385 7 p rfl a7, zP2_hn h2 p hp, if_neg (zn_le (by omega) (by omega) (by omega)), zC_at hC 7 p a7, zC_R hC 1384 7 401 p rfl rfl a7 (zP2_hr h2 p hp), zC_ix hC 401 p a401 (by omega) (by omega), zC_R hC 401 401 2 p rfl rfl a401 (zP3_r h3 p k hp hk), zC_at hC 2 _ a2, zC_R hC 1064 2 3 _ rfl rfl a2 (zP3_id h3 p k hp hk), zlt_s, zC_at hC 3 _ a3, zC_I hC 1131 3 _ rfl a3, zP1_fr h1 _ i2]
    have zp : zplace (fun k => zmt σ fr D (4 * p + k)) k (c + 1) = if zmt σ fr D (4 * p + k) = true then some k else zplace (fun k => zmt σ fr D (4 * p + k)) (k + 1) c := rfl
    rw [zp]
    by_cases hz : zN σ 120 (zN σ 131 (4 * p + k)) % 8 = fr
    · rw [if_pos (by rw [hz]), zC_at hC 3 _ a3, zC_I hC 1132 3 _ rfl a3, zP1_aw h1 _ i2]
      by_cases hy : zaddr σ (zN σ 131 (4 * p + k)) = D
      · have e : zmt σ fr D (4 * p + k) = true := by
          unfold zmt
          rw [decide_eq_true hz, decide_eq_true hy]
          rfl
        rw [if_pos (by rw [hy]), e, if_pos rfl, zC_at hC 7 p a7, zC_R hC 1384 7 401 p rfl rfl a7 (zP2_hr h2 p hp), zC_ix hC 401 p a401 (by omega) (by omega), zC_R hC 401 401 2 p rfl rfl a401 (zP3_r h3 p k hp hk)]
        rfl
      · have e : zmt σ fr D (4 * p + k) = false := by
          unfold zmt
          rw [decide_eq_false hy, Bool.and_false]
        rw [if_neg (fun z => hy (by
          have z2 := congrArg (fun v => zi_ushr v 11) z
          have z2 : zi_ushr (zn_cw (nI (zaddr σ (zN σ 131 (4 * p + k))))) 11 = zi_ushr (zn_cw (nI D)) 11 := z2
          rw [zn_cwu la, zn_cwu hD] at z2
          exact (nI_eqI (by omega) (by omega)).mp z2)), e, if_neg (by decide)]
        unfold zf_Pg_calledBy_j46
        rw [zlt_s, zs1, ih']
    · have e : zmt σ fr D (4 * p + k) = false := by
        unfold zmt
        rw [decide_eq_false hz, Bool.false_and]
      rw [if_neg (fun z => hz ((nI_eqI (by omega) (by omega)).mp z)), e, if_neg (by decide)]
      unfold zf_Pg_calledBy_j46
      rw [zlt_s, zs1, ih']
/-- no two of a pager's identities answer to one call -/
theorem zmt_u (hI : zI σ) (hp : p < 6) {fr D j k : Nat} (h1 : 4 * p ≤ j) (h2 : j < 4 * p + zN σ 132 p) (h3 : 4 * p ≤ k) (h4 : k < 4 * p + zN σ 132 p) (h5 : zmt σ fr D j = true) (h6 : zmt σ fr D k = true) : j = k := by
  unfold zmt at h5 h6
  rw [Bool.and_eq_true] at h5 h6
  have e1 := of_decide_eq_true h5.1
  have e2 := of_decide_eq_true h5.2
  have e3 := of_decide_eq_true h6.1
  have e4 := of_decide_eq_true h6.2
  have e5 : zN σ 120 (zN σ 131 j) = zN σ 120 (zN σ 131 k) := by
    unfold zaddr at e2 e4
    revert e2 e4
    split <;> split <;> omega
  have j1 := zI_hrs hI p (j - 4 * p) hp (by omega)
  have j2 := zI_hrs hI p (k - 4 * p) hp (by omega)
  rw [show 4 * p + (j - 4 * p) = j by omega] at j1
  rw [show 4 * p + (k - 4 * p) = k by omega] at j2
  have e6 := zI_inj hI _ _ j1 j2 e5
  have := zI_dis hI p (j - 4 * p) (k - 4 * p) hp (by omega) (by omega) (by rw [show 4 * p + (j - 4 * p) = j by omega, show 4 * p + (k - 4 * p) = k by omega]; exact e6)
  omega
/-- the model's answer -/
theorem zo_ioL (hH : zH p q ac τ σ w) (h : zM m am σ w2) {fr D : Nat} (hf : fr < 8) (hD : D < 2097152) : ∀ c n k x3, k + c = 4 * p + zN σ 132 p → 4 * p ≤ k → c < n → ((∀ j, k ≤ j → j < k + c → zmt σ fr D j = false) → zf_Mo_identityOf_L10 F n w2 m (nI D) (nI fr) x3 (nI k) = some (x3, w2)) ∧ ∀ j, k ≤ j → j < k + c → zmt σ fr D j = true → zf_Mo_identityOf_L10 F n w2 m (nI D) (nI fr) x3 (nI k) = some (nI (zN σ 131 j), w2) := by
  have hp6 := zH_p6 hH
  have g7 := zH_mp hH h
  obtain ⟨hC, hI, hP, hR, hp⟩ := hH
  have i1 := zI_hcn hI p
  have i3 := zI_idn hI
  intro c
  induction c with
  | zero =>
    intro n k x3 e1 e0 e2
    obtain ⟨n, rfl⟩ : ∃ q, n = q + 1 := ⟨n - 1, by omega⟩
    refine ⟨fun _ => ?_, fun j j1 j2 => by omega⟩
    rw [zf_Mo_identityOf_L10, zM_at h, zM_at h, zM_at h, zM_R h 1597 132 6 (by decide), g7, zM_ix h 1597 132 6 (by decide) hp6 (by decide), zM_n h 132 (by decide), show (4 : Int32) * nI p + nI (zN σ 132 p) = nI (4 * p + zN σ 132 p) from zmd 4 _ _, if_pos ((nI_leI (by omega) (by omega)).mpr (by omega))]
  | succ c ih =>
    intro n k x3 e1 e0 e2
    obtain ⟨n, rfl⟩ : ∃ q, n = q + 1 := ⟨n - 1, by omega⟩
    have i2 := zI_hrs hI p (k - 4 * p) hp6 (by omega)
    rw [show 4 * p + (k - 4 * p) = k by omega] at i2
    have la := zaddr_lt hI (zN σ 131 k)
    have st : zf_Mo_identityOf_L10 F (n + 1) w2 m (nI D) (nI fr) x3 (nI k) = zf_Mo_identityOf_L10 F n w2 m (nI D) (nI fr) (if zmt σ fr D k = true then nI (zN σ 131 k) else x3) (nI (k + 1)) := by
      rw [zf_Mo_identityOf_L10, zM_at h, zM_at h, zM_at h, zM_R h 1597 132 6 (by decide), g7, zM_ix h 1597 132 6 (by decide) hp6 (by decide), zM_n h 132 (by decide), show (4 : Int32) * nI p + nI (zN σ 132 p) = nI (4 * p + zN σ 132 p) from zmd 4 _ _, if_neg (zn_le (by omega) (by omega) (by omega)), zM_at h, zM_R h 1596 131 24 (by decide), zM_ix h 1596 131 24 (by decide) (by omega) (by decide), zM_n h 131 (by decide), zM_at h, zo_ad h hI (by omega), zbd_s]
      unfold zmt
      by_cases hy : zaddr σ (zN σ 131 k) = D
      · rw [if_pos (by rw [hy]), zM_at h, zM_at h, zM_R h 1596 131 24 (by decide), zM_ix h 1596 131 24 (by decide) (by omega) (by decide), zM_n h 131 (by decide), zM_R h 1577 120 12 (by decide), zM_ix h 1577 120 12 (by decide) (by omega) (by decide), zM_n h 120 (by decide), show zi_rem (nI (zN σ 120 (zN σ 131 k))) (8 : Int32) = nI (zN σ 120 (zN σ 131 k) % 8) from zq_rem (by have := zI_adr hI (zN σ 131 k); omega) (by decide) (by decide), decide_eq_true hy, Bool.and_true]
        by_cases hz : zN σ 120 (zN σ 131 k) % 8 = fr
        · rw [if_pos (by rw [hz]), decide_eq_true hz, if_pos rfl, zM_at h, zM_R h 1596 131 24 (by decide), zM_ix h 1596 131 24 (by decide) (by omega) (by decide), zM_n h 131 (by decide)]
          unfold zf_Mo_identityOf_j76
          rw [zlt_s, zlt_s, zs1]
        · rw [if_neg (fun z => hz ((nI_eqI (by omega) (by omega)).mp z)), decide_eq_false hz, if_neg (by decide)]
          unfold zf_Mo_identityOf_j75 zf_Mo_identityOf_j76
          rw [zlt_s, zlt_s, zs1]
      · rw [if_neg (fun z => hy ((nI_eqI (by omega) (by omega)).mp z)), decide_eq_false hy, Bool.and_false, if_neg (by decide)]
        unfold zf_Mo_identityOf_j75 zf_Mo_identityOf_j76
        rw [zlt_s, zlt_s, zs1]
    refine ⟨fun hn => ?_, fun j j1 j2 hj => ?_⟩
    · rw [st, hn k (by omega) (by omega), if_neg (by decide)]
      exact (ih n (k + 1) x3 (by omega) (by omega) (by omega)).1 (fun j j1 j2 => hn j (by omega) (by omega))
    · rw [st]
      by_cases e : j = k
      · subst e
        rw [hj, if_pos rfl]
        refine (ih n (j + 1) _ (by omega) (by omega) (by omega)).1 (fun k k1 k2 => ?_)
        cases hk : zmt σ fr D k with
        | false => rfl
        | true =>
          have := zmt_u hI hp6 (by omega) (by omega) (by omega) (by omega) hj hk
          omega
      · exact (ih n (k + 1) _ (by omega) (by omega) (by omega)).2 j (by omega) (by omega) hj
/-- both take up whom they find -/
theorem zh_call (hF : 2500 ≤ F) (hH : zH p q ac τ σ w) {fr D : Nat} (hf : fr < 8) (hD : D < 2097152) : ∃ τ' w' σ', (zf_bd (zf_Pg_calledBy F w (ac 7 p) (zn_cw (nI D)) (nI fr)) fun v106 w106 => zf_at w106 5 (some (ac 5 0)) fun a109 => zf_bv (zf_Ls_beginMessage F w106 a109 v106) fun w109 => some w109) = some w' ∧ zH p q ac τ' σ' w' ∧ zN σ' 1592 0 = zN σ 1592 0 ∧ ∀ w2, zM m am σ w2 → ∃ w2', (zf_bd (zf_Mo_identityOf F w2 m (nI D) (nI fr)) fun v97 w97 => zf_at w97 10 (some m) fun a100 => zf_let (zw_sI w97 1608 a100 0 v97) fun w100 => zf_at w100 10 (some m) fun a105 => zf_let (zw_sI w100 1610 a105 0 (0 : Int32)) fun w105 => some w105) = some w2' ∧ zM m am σ' w2' := by
  have hp6 := zH_p6 hH
  have i1 := zI_hcn hH.2.1 p
  have cb := zc_cbL (F := F) hH hf hD (zN σ 132 p) F 0 (by omega) (by omega)
  have hH' := hH
  obtain ⟨hC, hI, ⟨h0, h1, h2, h3, h4, h5, h6, h7⟩, ⟨r1, r2, r3, r4, r5⟩, hp⟩ := hH
  clear r5
  have a5 := zP0_a5 h0
  have mo : ∀ w2, zM m am σ w2 → ∀ v, zf_Mo_identityOf_L10 F F w2 m (nI D) (nI fr) (-1) (nI (4 * p)) = some (v, w2) → zf_Mo_identityOf F w2 m (nI D) (nI fr) = some (v, w2) := by
    intro w2 h v e
    unfold zf_Mo_identityOf
    rw [zlt_s, zM_at h, zH_mp hH' h, show (4 : Int32) * nI p = nI (4 * p) from pk_mul 4 p, zlt_s, e]
  have big : ∀ res : Option Nat, (∀ k, res = some k → k < zN σ 132 p) → (zplace (fun k => zmt σ fr D (4 * p + k)) 0 (zN σ 132 p)) = res → ∃ τ' w', zf_Ls_beginMessage F w (ac 5 0) (res.map (fun k => ac 2 (4 * p + k))) = some w' ∧ zC ac (zb_sI (zb_sI (zb_sI (zb_sR τ 1259 0 0 (res.map (fun k => 4 * p + k))) 1261 0 0 0) 1262 0 0 0) 1263 0 0 0) w' ∧ τ' = τ := by
    intro res hres _
    have c1 := zC_sR hC 1259 5 2 0 rfl rfl a5 0 (v := res.map (fun k => 4 * p + k)) (fun j hj => by
      cases res with
      | none => cases hj
      | some k =>
        cases hj
        exact zp_b2 h3 hI hp (hres k rfl))
    have c1' : zC ac (zb_sR τ 1259 0 0 (res.map (fun k => 4 * p + k))) (zw_sR w 1259 (ac 5 0) 0 (res.map (fun k => ac 2 (4 * p + k)))) := by
      cases res with
      | none => exact c1
      | some k => exact c1
    have c2 := zC_sI c1' 1261 5 0 rfl a5 0 0
    have c3 := zC_sI c2 1262 5 0 rfl a5 0 0
    have c4 := zC_sI c3 1263 5 0 rfl a5 0 0
    refine ⟨τ, _, ?_, c4, rfl⟩
    unfold zf_Ls_beginMessage
    rw [zC_at hC 5 0 a5, zlt_s, zC_at c1' 5 0 a5, zlt_s, zC_at c2 5 0 a5, zlt_s, zC_at c3 5 0 a5, zlt_s]
  cases hz : zplace (fun k => zmt σ fr D (4 * p + k)) 0 (zN σ 132 p) with
  | none =>
    rw [hz] at cb
    obtain ⟨_, w', b1, b2, -⟩ := big none (fun k hk => by cases hk) hz
    refine ⟨_, w', zN_s (zJ_s σ 1608 0 (-1)) 1610 0 0, ?_, ⟨b2, hI, ⟨h0, h1, h2, h3, h4, h5, h6, h7⟩, ⟨r1, r2, r3, r4, Or.inl ⟨rfl, rfl⟩⟩, hp⟩, rfl, fun w2 h => ?_⟩
    · unfold zf_Pg_calledBy
      rw [zlt_s]
      have cb : zf_Pg_calledBy_L2 F F w (ac 7 p) (zn_cw (nI D)) (nI fr) (0 : Int32) = some (none, w) := cb
      have b1 : zf_Ls_beginMessage F w (ac 5 0) none = some w' := b1
      rw [cb, zbd_s, zC_at hC 5 0 a5, b1, zbv_s]
    · have m1 := zM_sfj h 1608 (by decide) (by decide) (-1)
      have m2 := zM_sfn m1 1610 (by decide) (by decide) 0
      refine ⟨_, ?_, m2⟩
      have nm := zplace_f _ _ hz
      have l := (zo_ioL (F := F) hH' h hf hD (zN σ 132 p) F (4 * p) (-1) (by omega) (by omega) (by omega)).1 (fun j j1 j2 => by
        have := nm (j - 4 * p) (by omega) (by omega)
        rw [show 4 * p + (j - 4 * p) = j by omega] at this
        exact this)
      rw [mo w2 h _ l, zbd_s, zM_at h, zlt_s, zM_at m1, zlt_s]
      rfl
  | some k =>
    rw [hz] at cb
    obtain ⟨s1, s2, s3⟩ := zplace_s _ _ _ hz
    have hk : k < zN σ 132 p := by omega
    obtain ⟨_, w', b1, b2, -⟩ := big (some k) (fun j hj => by cases hj; exact hk) hz
    refine ⟨_, w', zN_s (zJ_s σ 1608 0 (nI (zN σ 131 (4 * p + k)))) 1610 0 0, ?_, ⟨b2, hI, ⟨h0, h1, h2, h3, h4, h5, h6, h7⟩, ⟨r1, r2, r3, r4, Or.inr ⟨k, hk, rfl, rfl, ?_⟩⟩, hp⟩, rfl, fun w2 h => ?_⟩
    · unfold zf_Pg_calledBy
      rw [zlt_s]
      have cb : zf_Pg_calledBy_L2 F F w (ac 7 p) (zn_cw (nI D)) (nI fr) (0 : Int32) = some (some (ac 2 (4 * p + k)), w) := cb
      have b1 : zf_Ls_beginMessage F w (ac 5 0) (some (ac 2 (4 * p + k))) = some w' := b1
      rw [cb, zbd_s, zC_at hC 5 0 a5, b1, zbv_s]
    · show zgR q (zwide σ (zN σ 131 (4 * p + k))) _ _
      refine ⟨Nat.zero_le _, fun j hj => absurd hj (Nat.not_lt_zero j), ?_, ?_, fun s _ hs => ?_, fun _ => ?_⟩
      · show zb_I (zb_sI (zb_sI (zb_sI (zb_sR τ 1259 0 0 _) 1261 0 0 0) 1262 0 0 0) 1263 0 0 0) 1261 0 0 = nI (min 22 (0 / zwide σ (zN σ 131 (4 * p + k))))
        rw [zb_I_ne _ (by decide), zb_I_ne _ (by decide), zb_I_sI, if_pos ⟨rfl, rfl, rfl⟩, Nat.zero_div]
        rfl
      · show zb_I (zb_sI (zb_sI (zb_sI (zb_sR τ 1259 0 0 _) 1261 0 0 0) 1262 0 0 0) 1263 0 0 0) 1263 0 0 = nI (0 % zwide σ (zN σ 131 (4 * p + k)))
        rw [zb_I_sI, if_pos ⟨rfl, rfl, rfl⟩, Nat.zero_mod]
        rfl
      · have hs : s < 0 / zwide σ (zN σ 131 (4 * p + k)) := hs
        rw [Nat.zero_div] at hs
        exact absurd hs (Nat.not_lt_zero s)
      · show zb_I (zb_sI (zb_sI (zb_sI (zb_sR τ 1259 0 0 _) 1261 0 0 0) 1262 0 0 0) 1263 0 0 0) 1262 0 0 = nI (zsv _ _ (0 % zwide σ (zN σ 131 (4 * p + k))))
        rw [zb_I_ne _ (by decide), zb_I_sI, if_pos ⟨rfl, rfl, rfl⟩, Nat.zero_mod]
        rfl
    · have m1 := zM_sfj h 1608 (by decide) (by decide) (nI (zN σ 131 (4 * p + k)))
      have m2 := zM_sfn m1 1610 (by decide) (by decide) 0
      refine ⟨_, ?_, m2⟩
      have l := (zo_ioL (F := F) hH' h hf hD (zN σ 132 p) F (4 * p) (-1) (by omega) (by omega) (by omega)).2 (4 * p + k) (by omega) (by omega) s3
      rw [mo w2 h _ l, zbd_s, zM_at h, zlt_s, zM_at m1, zlt_s]
      rfl
end ZH10
