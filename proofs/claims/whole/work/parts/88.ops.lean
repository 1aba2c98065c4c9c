/-! code, missed, join -/
theorem zn_h21 {n : Nat} (hn : n < 2097152) : zi_ushr (zi_shl (nI n) 11) 1 = zi_shl (nI n) 10 := by
  apply b_ext
  intro i hi
  show bt (zi_ushr (zi_shl (nI n) (nI 11)) (nI 1)) i = bt (zi_shl (nI n) (nI 10)) i
  unfold zi_ushr zi_shl
  rw [b_ushr 1 (by decide), b_shl 10 (by decide) _ hi]
  by_cases h : i = 31
  · subst h
    rw [b_big (by decide), zn_bt n _ (by decide)]
    have : n / 2 ^ (31 - 10) = 0 := Nat.div_eq_of_lt (by omega)
    rw [this]
    rfl
  · rw [b_shl 11 (by decide) _ (by omega), show 1 + i - 11 = i - 10 by omega]
    congr 1
    exact decide_eq_decide.mpr (by omega)
theorem zb_I_sI (τ : zB) (κ i j : Nat) (v : Int32) (k a b : Nat) : zb_I (zb_sI τ κ i j v) k a b = if k = κ ∧ a = i ∧ b = j then v else zb_I τ k a b := by
  show (if k = κ ∧ a = i then upd (zb_I τ κ i) j v else τ.2.1 k a) b = _
  by_cases h : k = κ ∧ a = i
  · rw [if_pos h]
    obtain ⟨rfl, rfl⟩ := h
    unfold upd
    by_cases hb : b = j
    · rw [if_pos hb, if_pos ⟨rfl, rfl, hb⟩]
    · rw [if_neg hb, if_neg (fun q => hb q.2.2)]
  · rw [if_neg h, if_neg (fun q => h ⟨q.1, q.2.1⟩)]
    rfl
theorem zb_L_sL (τ : zB) (κ i j : Nat) (v : Int64) (k a b : Nat) : zb_L (zb_sL τ κ i j v) k a b = if k = κ ∧ a = i ∧ b = j then v else zb_L τ k a b := by
  show (if k = κ ∧ a = i then vp_updL (τ.2.2.2 k a) j v else τ.2.2.2 k a) b = _
  by_cases h : k = κ ∧ a = i
  · rw [if_pos h]
    unfold vp_updL
    by_cases hb : b = j
    · rw [if_pos hb, if_pos ⟨h.1, h.2, hb⟩]
    · rw [if_neg hb, if_neg (fun q => hb q.2.2)]
      rfl
  · rw [if_neg h, if_neg (fun q => h ⟨q.1, q.2.1⟩)]
    rfl
theorem zC_newE {ac : Nat → Nat → Nat} {τ : zB} {w : zw_T} (h : zC ac τ w) (hB : zo_b w) (r i n : Nat) (h0 : r ≠ 0) (hn : zb_a τ r i = false) : ∃ ac', ac' r i = zw_n w ∧ (∀ a b, ¬ (a = r ∧ b = i) → ac' a b = ac a b) ∧ zC ac' (zb_new τ r i n) (zw_new w r n) := ⟨zac ac r i (zw_n w), if_pos ⟨rfl, rfl⟩, fun _ _ q => if_neg q, zC_new h hB r i n h0 hn⟩
theorem zo_b_new {w : zw_T} (h : zo_b w) (r n : Nat) : zo_b (zw_new w r n) := by
  intro a ha
  show a < zw_n w + 1
  by_cases hq : a = zw_n w
  · omega
  · have e : zw_ty (zw_new w r n) a = zw_ty w a := va_up_ne _ _ hq
    rw [e] at ha
    have := h a ha
    omega
section ZOPS4
variable {ac : Nat → Nat → Nat} {τ : zB} {am : Nat → Nat} {σ : zA} {w w2 : zw_T} {F m x : Nat}
theorem zop_code (hF : 2500 ≤ F) (y : Int32) : zop x m (fun w => zf_WP_code F w x y) (fun w => zf_Mo_code F w m y) := zop_ro fun ac τ am σ w1 hx hC hI hP => by
  rcases zin y (n := 2097152) (by decide) with ⟨n, hn, rfl⟩ | hy
  · refine ⟨zn_cw (nI n), ?_, fun w2 h => ?_⟩
    · show zf_WP_code F w1 x (nI n) = _
      unfold zf_WP_code
      simp only [if_neg (nI_pos (show n < 2 ^ 31 by omega)), if_neg (show ¬ (2097152 : Int32) ≤ nI n from zn_le (a := 2097152) (by decide) (by omega) (by omega)), if_pos (show nI n < (2097152 : Int32) from (nI_ltI (b := 2097152) (by omega) (by decide)).mpr hn), zn_cwW hF, zbd_s]
    · show zf_Mo_code F w2 m (nI n) = _
      unfold zf_Mo_code
      simp only [if_neg (nI_pos (show n < 2 ^ 31 by omega)), if_neg (show ¬ (2097152 : Int32) ≤ nI n from zn_le (a := 2097152) (by decide) (by omega) (by omega)), if_pos (show nI n < (2097152 : Int32) from (nI_ltI (b := 2097152) (by omega) (by decide)).mpr hn), zn_cwM hF _ _ (zn_h21 hn), zbd_s]
  · refine ⟨0, ?_, fun w2 h => ?_⟩
    · show zf_WP_code F w1 x y = _
      unfold zf_WP_code
      rcases hy with hy | ⟨h3, h5⟩
      · simp only [if_pos hy]
      · simp only [if_neg h3, if_pos (show (2097152 : Int32) ≤ y from h5), if_neg (show ¬ y < (2097152 : Int32) from zout_nlt (n := 2097152) (by decide) h3 h5)]
    · show zf_Mo_code F w2 m y = _
      unfold zf_Mo_code
      rcases hy with hy | ⟨h3, h5⟩
      · simp only [if_pos hy]
      · simp only [if_neg h3, if_pos (show (2097152 : Int32) ≤ y from h5), if_neg (show ¬ y < (2097152 : Int32) from zout_nlt (n := 2097152) (by decide) h3 h5)]
theorem zop_missed (hF : 2500 ≤ F) (z y : Int32) : zop x m (fun w => zf_WP_missed F w x z y) (fun w => zf_Mo_missed F w m z y) := zop_ro fun ac τ am σ w1 hx hC hI hP => by
  subst hx
  obtain ⟨h0, h1, h2, h3, ⟨o, h4⟩, h5, h6, h7, h8⟩ := hP
  have i1 := zI_pgn hI
  have i2 := zI_idn hI
  show ∃ v, zf_WP_missed F w1 (ac 9 0) z y = _ ∧ _
  unfold zf_WP_missed
  rcases zin z (n := zN σ 1595 0) (by omega) with ⟨p, hp, rfl⟩ | hz
  · obtain ⟨res, r1, r2⟩ := zc_ho hF hC hI h1 h2 h3 hp y
    rw [zC_at hC 9 0 (zP0_a9 h0), zc_pg1 hC hI h0 h2 hp, zbd_s, zlt_s, if_neg (by simp), zC_at hC 7 p (zp_a7 h2 hp), r1, zbd_s]
    unfold zf_WP_missed_j19
    rw [zlt_s]
    rcases zin y (n := zN σ 1576 0) (by omega) with ⟨i, hi, rfl⟩ | hy
    · rcases r2 with ⟨k, k1, k2, rfl⟩ | ⟨r2, rfl⟩
      · have hk := zI_hrs hI p k (by omega) k1
        have k2 : zN σ 131 (4 * p + k) = i := (nI_eqI (by omega) (by omega)).mp k2
        refine ⟨zQ σ (12 * p + i), ?_, fun w2 h => ?_⟩
        · rw [if_neg (by simp), zC_at hC 2 _ (zp_a2 hI h3 hp k1), zC_L hC 1065 2 _ rfl (zp_a2 hI h3 hp k1), zP3_ga h3 p k hp k1, k2]
        · show zf_Mo_missed F w2 m (nI p) (nI i) = _
          unfold zf_Mo_missed
          rw [zM_at h, zo_isP1 h hI hp, zbd_s, if_neg (by decide), zM_at h, zo_isI1 h hI hi, zbd_s, if_neg (by decide), zM_at h, zo_ls hF h hI (by omega) (by omega), (zhears_iff σ p i).mpr ⟨k, k1, k2⟩, zbd_s, if_neg (by decide), zM_at h, zM_R h 1604 300 72 (by decide), show (12 : Int32) = nI 12 from rfl, zmd, zM_ix h 1604 300 72 (by decide) (by omega) (by decide), zM_l h]
      · refine ⟨0, ?_, fun w2 h => ?_⟩
        · rw [if_pos rfl]
        · have hf : zhears σ p i = false := Bool.eq_false_iff.mpr fun q => by
            obtain ⟨k, k1, k2⟩ := (zhears_iff σ p i).mp q
            exact r2 k k1 (by rw [k2])
          show zf_Mo_missed F w2 m (nI p) (nI i) = _
          unfold zf_Mo_missed
          rw [zM_at h, zo_isP1 h hI hp, zbd_s, if_neg (by decide), zM_at h, zo_isI1 h hI hi, zbd_s, if_neg (by decide), zM_at h, zo_ls hF h hI (by omega) (by omega), hf, zbd_s, if_pos (by decide)]
    · rcases r2 with ⟨k, k1, k2, rfl⟩ | ⟨r2, rfl⟩
      · exact absurd k2.symm (zout_ne (by omega) hy (zI_hrs hI p k (by omega) k1))
      · refine ⟨0, ?_, fun w2 h => ?_⟩
        · rw [if_pos rfl]
        · show zf_Mo_missed F w2 m (nI p) y = _
          unfold zf_Mo_missed
          rw [zM_at h, zo_isP1 h hI hp, zbd_s, if_neg (by decide), zM_at h, zo_isI0 h hy, zbd_s, if_pos rfl]
  · refine ⟨0, ?_, fun w2 h => ?_⟩
    · rw [zC_at hC 9 0 (zP0_a9 h0), zc_pg0 hC h0 h2 hz, zbd_s, zlt_s, if_pos rfl]
      rfl
    · show zf_Mo_missed F w2 m z y = _
      unfold zf_Mo_missed
      rw [zM_at h, zo_isP0 h hz, zbd_s, if_pos rfl]
theorem zc_hdi (hC : zC ac τ w) {q i : Nat} (a2 : zb_a τ 2 q = true) (a3 : zb_a τ 3 i = true) : ∃ w', zf_Hd_init F w (ac 2 q) (some (ac 3 i)) = some w' ∧ zC ac (zb_sR (zb_sI (zb_sL τ 1065 q 0 0) 1066 q 0 (-1)) 1064 q 0 (some i)) w' ∧ zw_ty w' = zw_ty w ∧ zw_n w' = zw_n w := by
  have c1 := zC_sL hC 1065 2 q rfl a2 0 0
  have c2 := zC_sI c1 1066 2 q rfl a2 0 (-1)
  have c3 := zC_sR c2 1064 2 3 q rfl rfl a2 0 (v := some i) (fun j hj => by cases hj; exact a3)
  refine ⟨_, ?_, c3, rfl, rfl⟩
  unfold zf_Hd_init
  rw [zC_at hC 2 q a2, zlt_s, zC_at c1 2 q a2, zlt_s, zC_at c2 2 q a2, zlt_s]
  rfl
theorem zop_join (hF : 2500 ≤ F) (z y : Int32) : zop x m (fun w => zf_WP_join F w x z y) (fun w => zf_Mo_join F w m z y) := by
  intro ac τ am σ w1 hx hC hI hP hB
  subst hx
  have hP' := hP
  obtain ⟨h0, h1, h2, h3, ⟨o, h4⟩, h5, h6, h7, h8⟩ := hP
  have i1 := zI_pgn hI
  have i2 := zI_idn hI
  show ∃ v w1' ac' τ' σ', zf_WP_join F w1 (ac 9 0) z y = _ ∧ _
  have same : ∀ v, zf_WP_join F w1 (ac 9 0) z y = some (v, w1) → (∀ w2, zM m am σ w2 → zf_Mo_join F w2 m z y = some (v, w2)) → ∃ v w1' ac' τ' σ', zf_WP_join F w1 (ac 9 0) z y = some (v, w1') ∧ ac' 9 0 = ac 9 0 ∧ zC ac' τ' w1' ∧ zI σ' ∧ zP τ' σ' ∧ ∀ w2, zM m am σ w2 → ∃ w2', (fun w => zf_Mo_join F w m z y) w2 = some (v, w2') ∧ zM m am σ' w2' := fun v e k => ⟨v, w1, ac, τ, σ, e, rfl, hC, hI, hP', fun w2 h => ⟨w2, k w2 h, h⟩⟩
  rcases zin z (n := zN σ 1595 0) (by omega) with ⟨p, hp, rfl⟩ | hz
  · rcases zin y (n := zN σ 1576 0) (by omega) with ⟨i, hi, rfl⟩ | hy
    · have a7 := zp_a7 h2 hp
      have a3 := zp_a3 h1 hi
      have i3 := zI_hcn hI p
      by_cases h4h : zN σ 132 p = 4
      · refine same (-1) ?_ (fun w2 h => ?_)
        · unfold zf_WP_join
          rw [zC_at hC 9 0 (zP0_a9 h0), zc_pg1 hC hI h0 h2 hp, zbd_s, zlt_s, zC_at hC 9 0 (zP0_a9 h0), zc_id1 hC hI h0 h1 hi, zbd_s, zlt_s, if_neg (by simp), if_neg (by simp), zC_at hC 7 p a7]
          unfold zf_Pg_addHeard
          rw [zC_at hC 7 p a7, zC_I hC 1385 7 p rfl a7, zP2_hn h2 p hp, h4h, if_pos (by decide), zb_0, zbd_s, if_pos rfl]
        · unfold zf_Mo_join
          rw [zM_at h, zo_isP1 h hI hp, zbd_s, if_neg (by decide), zM_at h, zo_isI1 h hI hi, zbd_s, if_neg (by decide), zM_at h, zM_R h 1597 132 6 (by decide), zM_ix h 1597 132 6 (by decide) (by omega) (by decide), zM_n h 132 (by decide), h4h, if_pos (by decide)]
      · obtain ⟨res, r1, r2⟩ := zc_ho hF hC hI h1 h2 h3 hp (nI i)
        by_cases hh : zhears σ p i = true
        · obtain ⟨k, k1, k2⟩ := (zhears_iff σ p i).mp hh
          have hr : res ≠ none := by
            rcases r2 with ⟨j, j1, j2, rfl⟩ | ⟨r2, rfl⟩
            · simp
            · exact absurd (by rw [k2]) (r2 k k1)
          refine same (-1) ?_ (fun w2 h => ?_)
          · unfold zf_WP_join
            rw [zC_at hC 9 0 (zP0_a9 h0), zc_pg1 hC hI h0 h2 hp, zbd_s, zlt_s, zC_at hC 9 0 (zP0_a9 h0), zc_id1 hC hI h0 h1 hi, zbd_s, zlt_s, if_neg (by simp), if_neg (by simp), zC_at hC 7 p a7]
            unfold zf_Pg_addHeard
            rw [zC_at hC 7 p a7, zC_I hC 1385 7 p rfl a7, zP2_hn h2 p hp, if_neg (show ¬ (4 : Int32) ≤ nI (zN σ 132 p) from zn_le (a := 4) (by decide) (by omega) (by omega)), zC_at hC 3 i a3, zC_at hC 7 p a7, zC_I hC 1128 3 i rfl a3, zP1_ix h1 i hi, r1, zbd_s, if_neg hr, zb_0, zbd_s, if_pos rfl]
          · unfold zf_Mo_join
            rw [zM_at h, zo_isP1 h hI hp, zbd_s, if_neg (by decide), zM_at h, zo_isI1 h hI hi, zbd_s, if_neg (by decide), zM_at h, zM_R h 1597 132 6 (by decide), zM_ix h 1597 132 6 (by decide) (by omega) (by decide), zM_n h 132 (by decide), if_neg (show ¬ nI (zN σ 132 p) = (4 : Int32) from fun q => h4h ((nI_eqI (b := 4) (by omega) (by decide)).mp q)), zM_at h, zo_ls hF h hI (by omega) (by omega), hh, zbd_s, if_neg (by decide)]
        · have hr : res = none := by
            rcases r2 with ⟨j, j1, j2, rfl⟩ | ⟨r2, rfl⟩
            · have := zI_hrs hI p j (by omega) j1
              exact absurd ((zhears_iff σ p i).mpr ⟨j, j1, (nI_eqI (by omega) (by omega)).mp j2⟩) hh
            · rfl
          subst hr
          have nh : ∀ k, k < zN σ 132 p → zN σ 131 (4 * p + k) ≠ i := fun k k1 k2 => hh ((zhears_iff σ p i).mpr ⟨k, k1, k2⟩)
          have hal : zb_a τ 2 (4 * p + zN σ 132 p) = false := by
            rw [zP3_a h3, show (4 * p + zN σ 132 p) / 4 = p by omega, show (4 * p + zN σ 132 p) % 4 = zN σ 132 p by omega, decide_eq_false (Nat.lt_irrefl _), Bool.and_false]
          obtain ⟨ac1, e1, e2, c1⟩ := zC_newE hC hB 2 (4 * p + zN σ 132 p) 0 (by decide) hal
          have b2 : zb_a (zb_new τ 2 (4 * p + zN σ 132 p) 0) 2 (4 * p + zN σ 132 p) = true := congrArg Prod.fst (if_pos ⟨rfl, rfl⟩ : (if 2 = 2 ∧ 4 * p + zN σ 132 p = 4 * p + zN σ 132 p then (true, 0) else τ.1 2 (4 * p + zN σ 132 p)) = (true, 0))
          obtain ⟨w3, f1, c2, -, -⟩ := zc_hdi (F := F) c1 b2 (i := i) a3
          have c3 := zC_sR c2 401 401 2 p rfl rfl (zp_a401 h2 hp) (zN σ 132 p) (v := some (4 * p + zN σ 132 p)) (fun j hj => by cases hj; exact b2)
          have c4 := zC_sI c3 1385 7 p rfl a7 0 (nI (zN σ 132 p + 1))
          have x3 := e2 3 i (by omega)
          have x7 := e2 7 p (by omega)
          have x4 := e2 401 p (by omega)
          refine ⟨nI (zN σ 132 p + 1), _, ac1, _, zN_s (zJ_s (zN_s σ 131 (4 * p + zN σ 132 p) i) 138 (12 * p + i) (-1)) 132 p (zN σ 132 p + 1), ?_, e2 9 0 (by omega), c4, ?_, ?_, fun w2 h => ?_⟩
          · unfold zf_WP_join
            rw [zC_at hC 9 0 (zP0_a9 h0), zc_pg1 hC hI h0 h2 hp, zbd_s, zlt_s, zC_at hC 9 0 (zP0_a9 h0), zc_id1 hC hI h0 h1 hi, zbd_s, zlt_s, if_neg (by simp), if_neg (by simp), zC_at hC 7 p a7]
            unfold zf_Pg_addHeard
            rw [zC_at hC 7 p a7, zC_I hC 1385 7 p rfl a7, zP2_hn h2 p hp, if_neg (show ¬ (4 : Int32) ≤ nI (zN σ 132 p) from zn_le (a := 4) (by decide) (by omega) (by omega)), zC_at hC 3 i a3, zC_at hC 7 p a7, zC_I hC 1128 3 i rfl a3, zP1_ix h1 i hi, r1, zbd_s, if_pos rfl, zC_at hC 7 p a7, zC_at hC 7 p a7, zC_R hC 1384 7 401 p rfl rfl a7 (zP2_hr h2 p hp), zC_I hC 1385 7 p rfl a7, zP2_hn h2 p hp, zlt_s, ← e1, ← x3, ← x7, ← x4, f1, zbv_s, zC_at c2 2 _ b2, zC_ix c2 401 p (zp_a401 h2 hp) (show zN σ 132 p < zb_l τ 401 p by rw [zP2_hl h2 p hp]; omega) (by omega), zlt_s]
            have k3 : zb_I (zb_sR (zb_sR (zb_sI (zb_sL (zb_new τ 2 (4 * p + zN σ 132 p) 0) 1065 (4 * p + zN σ 132 p) 0 0) 1066 (4 * p + zN σ 132 p) 0 (-1)) 1064 (4 * p + zN σ 132 p) 0 (some i)) 401 p (zN σ 132 p) (some (4 * p + zN σ 132 p))) 1385 p 0 = nI (zN σ 132 p) := zP2_hn h2 p hp
            have c3' : zC ac1 _ (zw_sR w3 401 (ac1 401 p) (zN σ 132 p) (some (ac1 2 (4 * p + zN σ 132 p)))) := c3
            have k4 := zC_I c3' 1385 7 p rfl a7 0
            rw [k3] at k4
            have c4' : zC ac1 _ (zw_sI (zw_sR w3 401 (ac1 401 p) (zN σ 132 p) (some (ac1 2 (4 * p + zN σ 132 p)))) 1385 (ac1 7 p) 0 (nI (zN σ 132 p + 1))) := c4
            have k5 := zC_I c4' 1385 7 p rfl a7 0
            rw [zb_I_sI, if_pos ⟨rfl, rfl, rfl⟩] at k5
            rw [zC_at c3' 7 p a7, zC_at c3' 7 p a7, k4, zs1, zlt_s, zb_1, zbd_s, if_neg (by decide), zC_at c4' 7 p a7, k5]
            rfl
          · obtain ⟨i_idn, i_msn, i_ldn, i_bts, i_pgn, i_b32, i_adr, i_res, i_inj, i_knd, i_cal, i_cal0, i_mto, i_mpr, i_mnu, i_mle, i_wts, i_wtn, i_ld, i_mk, i_air, i_hcn, i_hrs, i_hc0, i_ct0, i_mi0, i_dis, i_kpn, i_kmn, i_kof, i_knu, i_lat⟩ := hI
            have hN : ∀ q, zN (zN_s (zJ_s (zN_s σ 131 (4 * p + zN σ 132 p) i) 138 (12 * p + i) (-1)) 132 p (zN σ 132 p + 1)) 132 q = if 132 = 132 ∧ q = p then zN σ 132 p + 1 else zN σ 132 q := fun q => rfl
            have hH : ∀ q, zN (zN_s (zJ_s (zN_s σ 131 (4 * p + zN σ 132 p) i) 138 (12 * p + i) (-1)) 132 p (zN σ 132 p + 1)) 131 q = if 131 = 131 ∧ q = 4 * p + zN σ 132 p then i else zN σ 131 q := fun q => rfl
            refine ⟨i_idn, i_msn, i_ldn, i_bts, i_pgn, i_b32, i_adr, i_res, i_inj, i_knd, i_cal, i_cal0, i_mto, i_mpr, i_mnu, i_mle, i_wts, i_wtn, i_ld, i_mk, i_air, fun q => ?_, fun q k q1 q2 => ?_, fun q q1 => ?_, i_ct0, fun q j q1 q2 q3 => ?_, fun q k l q1 q2 q3 q4 => ?_, i_kpn, i_kmn, i_kof, i_knu, (fun j => by
              show zLat (if 138 = 138 ∧ j = 12 * p + i then -1 else zJ σ 138 j)
              split
              · exact Or.inl rfl
              · exact i_lat j)⟩
            · rw [hN q]
              have := i_hcn q
              split <;> omega
            · rw [hN q] at q2
              rw [hH]
              have := i_hcn q
              show _ < zN σ 1576 0
              by_cases hq : q = p
              · subst hq
                rw [if_pos ⟨rfl, rfl⟩] at q2
                by_cases hk : k = zN σ 132 q
                · rw [if_pos ⟨rfl, by omega⟩]
                  exact hi
                · rw [if_neg (by omega)]
                  exact i_hrs q k q1 (by omega)
              · rw [if_neg (fun z => hq z.2)] at q2
                rw [if_neg (by omega)]
                exact i_hrs q k q1 q2
            · have hne : q ≠ p := by
                have : zN σ 1595 0 ≤ q := q1
                omega
              refine ⟨?_, (i_hc0 q q1).2⟩
              rw [hN q, if_neg (fun z => hne z.2)]
              exact (i_hc0 q q1).1
            · show zQ σ (12 * q + j) = 0
              refine i_mi0 q j q1 q2 (Bool.eq_false_iff.mpr fun z => ?_)
              obtain ⟨k, k1, k2⟩ := (zhears_iff σ q j).mp z
              refine absurd ((zhears_iff _ q j).mpr ⟨k, ?_, ?_⟩) (Bool.eq_false_iff.mp q3)
              · rw [hN q]
                split <;> rename_i hz
                · rw [hz.2] at k1
                  omega
                · exact k1
              · have := i_hcn q
                rw [hH, if_neg, k2]
                rintro ⟨-, hz⟩
                by_cases hqp : q = p
                · rw [hqp] at k1 hz
                  omega
                · omega
            · rw [hN q] at q2 q3
              rw [hH, hH] at q4
              have := i_hcn q
              by_cases hq : q = p
              · subst hq
                rw [if_pos ⟨rfl, rfl⟩] at q2 q3
                by_cases hk : k = zN σ 132 q
                · by_cases hl : l = zN σ 132 q
                  · omega
                  · rw [if_pos ⟨rfl, by omega⟩, if_neg (by omega)] at q4
                    exact absurd q4.symm (nh l (by omega))
                · by_cases hl : l = zN σ 132 q
                  · rw [if_neg (by omega), if_pos ⟨rfl, by omega⟩] at q4
                    exact absurd q4 (nh k (by omega))
                  · rw [if_neg (by omega), if_neg (by omega)] at q4
                    exact i_dis q k l q1 (by omega) (by omega) q4
              · rw [if_neg (fun z => hq z.2)] at q2 q3
                rw [if_neg (by omega), if_neg (by omega)] at q4
                exact i_dis q k l q1 q2 q3 q4
          · have hN : ∀ q, zN (zN_s (zJ_s (zN_s σ 131 (4 * p + zN σ 132 p) i) 138 (12 * p + i) (-1)) 132 p (zN σ 132 p + 1)) 132 q = if 132 = 132 ∧ q = p then zN σ 132 p + 1 else zN σ 132 q := fun q => rfl
            have hH : ∀ q, zN (zN_s (zJ_s (zN_s σ 131 (4 * p + zN σ 132 p) i) 138 (12 * p + i) (-1)) 132 p (zN σ 132 p + 1)) 131 q = if 131 = 131 ∧ q = 4 * p + zN σ 132 p then i else zN σ 131 q := fun q => rfl
            refine ⟨h0, h1, ?_, ?_, ⟨o, h4⟩, h5, h6, h7, h8⟩
            · obtain ⟨p2_n, p2_a, p2_r, p2_ha, p2_hl, p2_hr, p2_hn, p2_ga, p2_gl, p2_gr, p2_c0, p2_c1, p2_c2, p2_c3⟩ := h2
              refine ⟨p2_n, p2_a, p2_r, p2_ha, p2_hl, p2_hr, fun q hq => ?_, p2_ga, p2_gl, p2_gr, p2_c0, p2_c1, p2_c2, p2_c3⟩
              rw [zb_I_sI, hN q]
              by_cases hz : q = p
              · rw [if_pos ⟨rfl, hz, rfl⟩, if_pos ⟨rfl, hz⟩]
              · rw [if_neg (fun z => hz z.2.1), if_neg (fun z => hz z.2)]
                exact p2_hn q hq
            · have hca := zI_hcn hI
              -- a heard object that was there keeps its place
              have old : ∀ q k, q < zN σ 1595 0 → k < (if 132 = 132 ∧ q = p then zN σ 132 p + 1 else zN σ 132 q) → ¬ 4 * q + k = 4 * p + zN σ 132 p → k < zN σ 132 q := by
                intro q k q1 q2 q3
                by_cases hz : q = p
                · subst hz
                  rw [if_pos ⟨rfl, rfl⟩] at q2
                  omega
                · rw [if_neg (fun z => hz z.2)] at q2
                  exact q2
              have new : ∀ q k, q < zN σ 1595 0 → k < (if 132 = 132 ∧ q = p then zN σ 132 p + 1 else zN σ 132 q) → 4 * q + k = 4 * p + zN σ 132 p → q = p ∧ k = zN σ 132 p := by
                intro q k q1 q2 q3
                have := hca q
                by_cases hz : q = p
                · subst hz
                  exact ⟨rfl, by omega⟩
                · rw [if_neg (fun z => hz z.2)] at q2
                  clear r2 same
                  omega
              refine ⟨fun q => ?_, fun q k q1 q2 => ?_, fun q k q1 q2 => ?_, fun q k q1 q2 => ?_, fun q k q1 q2 => ?_⟩
              · have e : zb_a (zb_new τ 2 (4 * p + zN σ 132 p) 0) 2 q = if q = 4 * p + zN σ 132 p then true else zb_a τ 2 q := by
                  show (if 2 = 2 ∧ q = 4 * p + zN σ 132 p then (true, 0) else τ.1 2 q).1 = _
                  by_cases hz : q = 4 * p + zN σ 132 p
                  · rw [if_pos ⟨rfl, hz⟩, if_pos hz]
                  · rw [if_neg (fun z => hz z.2), if_neg hz]
                    rfl
                show zb_a (zb_new τ 2 (4 * p + zN σ 132 p) 0) 2 q = (decide (q / 4 < zN σ 1595 0) && decide (q % 4 < zN _ 132 (q / 4)))
                rw [e, hN]
                by_cases hz : q = 4 * p + zN σ 132 p
                · rw [if_pos hz, show q / 4 = p by omega, if_pos ⟨rfl, rfl⟩, show q % 4 = zN σ 132 p by omega, decide_eq_true hp, decide_eq_true (by omega)]
                  rfl
                · rw [if_neg hz, zP3_a h3 q]
                  congr 1
                  apply decide_eq_decide.mpr
                  by_cases hq4 : q / 4 = p
                  · rw [if_pos ⟨rfl, hq4⟩, hq4]
                    omega
                  · rw [if_neg (fun z => hq4 z.2)]
              · rw [hN q] at q2
                show (if 401 = 401 ∧ q = p ∧ k = zN σ 132 p then some (4 * p + zN σ 132 p) else zb_R τ 401 q k) = _
                by_cases hz : 4 * q + k = 4 * p + zN σ 132 p
                · obtain ⟨rfl, rfl⟩ := new q k q1 q2 hz
                  rw [if_pos ⟨rfl, rfl, rfl⟩]
                · rw [if_neg (fun z => hz (by rw [z.2.1, z.2.2]))]
                  exact zP3_r h3 q k q1 (old q k q1 q2 hz)
              · rw [hN q] at q2
                rw [hH]
                show (if 1064 = 1064 ∧ 4 * q + k = 4 * p + zN σ 132 p ∧ 0 = 0 then some i else (if zrw 1064 = 2 ∧ 4 * q + k = 4 * p + zN σ 132 p then fun _ => none else τ.2.2.1 1064 (4 * q + k)) 0) = _
                by_cases hz : 4 * q + k = 4 * p + zN σ 132 p
                · rw [if_pos ⟨rfl, hz, rfl⟩, if_pos ⟨rfl, hz⟩]
                · rw [if_neg (fun z => hz z.2.1), if_neg (fun z => hz z.2), if_neg (fun z => hz z.2)]
                  exact zP3_id h3 q k q1 (old q k q1 q2 hz)
              · rw [hN q] at q2
                rw [hH]
                show zb_L (zb_sL (zb_new τ 2 (4 * p + zN σ 132 p) 0) 1065 (4 * p + zN σ 132 p) 0 0) 1065 (4 * q + k) 0 = zQ σ (12 * q + _)
                rw [zb_L_sL]
                by_cases hz : 4 * q + k = 4 * p + zN σ 132 p
                · rw [if_pos ⟨rfl, hz, rfl⟩, if_pos ⟨rfl, hz⟩]
                  obtain ⟨rfl, rfl⟩ := new q k q1 q2 hz
                  exact (zI_mi0 hI q i (by omega) (by omega) (Bool.eq_false_iff.mpr hh)).symm
                · rw [if_neg (fun z => hz z.2.1), if_neg (fun z => hz z.2)]
                  show (if zrw 1065 = 2 ∧ 4 * q + k = 4 * p + zN σ 132 p then fun _ => 0 else τ.2.2.2 1065 (4 * q + k)) 0 = _
                  rw [if_neg (fun z => hz z.2)]
                  exact zP3_ga h3 q k q1 (old q k q1 q2 hz)
              · rw [hN q] at q2
                rw [hH]
                show zb_I (zb_sI (zb_sL (zb_new τ 2 (4 * p + zN σ 132 p) 0) 1065 (4 * p + zN σ 132 p) 0 0) 1066 (4 * p + zN σ 132 p) 0 (-1)) 1066 (4 * q + k) 0 = (if 138 = 138 ∧ 12 * q + _ = 12 * p + i then -1 else zJ σ 138 (12 * q + _))
                have q1 : q < zN σ 1595 0 := q1
                rw [zb_I_sI]
                by_cases hz : 4 * q + k = 4 * p + zN σ 132 p
                · have hv : (if 131 = 131 ∧ 4 * q + k = 4 * p + zN σ 132 p then i else zN σ 131 (4 * q + k)) = i := if_pos ⟨rfl, hz⟩
                  rw [hv, if_pos ⟨rfl, hz, rfl⟩, if_pos ⟨rfl, by rw [(new q k q1 q2 hz).1]⟩]
                · have hk := old q k q1 q2 hz
                  have hid := zI_hrs hI q k (by omega) hk
                  have hv : (if 131 = 131 ∧ 4 * q + k = 4 * p + zN σ 132 p then i else zN σ 131 (4 * q + k)) = zN σ 131 (4 * q + k) := if_neg (fun z => hz z.2)
                  rw [hv, if_neg (fun z => hz z.2.1), if_neg]
                  · show (if zrw 1066 = 2 ∧ 4 * q + k = 4 * p + zN σ 132 p then fun _ => 0 else τ.2.1 1066 (4 * q + k)) 0 = _
                    rw [if_neg (fun z => hz z.2)]
                    exact zP3_la h3 q k q1 hk
                  · rintro ⟨-, z⟩
                    clear r2 same
                    by_cases hqp : q = p
                    · subst hqp
                      exact nh k hk (by omega)
                    · omega
          · have m1 := zM_sn h 131 (by decide) (4 * p + zN σ 132 p) i
            have m2 := zM_sj m1 138 (by decide) (12 * p + i) (-1)
            have m3 := zM_sn m2 132 (by decide) p (zN σ 132 p + 1)
            refine ⟨_, ?_, m3⟩
            show zf_Mo_join F w2 m (nI p) (nI i) = _
            unfold zf_Mo_join
            have k1 : zN (zJ_s (zN_s σ 131 (4 * p + zN σ 132 p) i) 138 (12 * p + i) (-1)) 132 p = zN σ 132 p := rfl
            have k2 : zN (zN_s (zJ_s (zN_s σ 131 (4 * p + zN σ 132 p) i) 138 (12 * p + i) (-1)) 132 p (zN σ 132 p + 1)) 132 p = zN σ 132 p + 1 := if_pos ⟨rfl, rfl⟩
            rw [zM_at h, zo_isP1 h hI hp, zbd_s, if_neg (by decide), zM_at h, zo_isI1 h hI hi, zbd_s, if_neg (by decide), zM_at h, zM_R h 1597 132 6 (by decide), zM_ix h 1597 132 6 (by decide) (by omega) (by decide), zM_n h 132 (by decide), if_neg (show ¬ nI (zN σ 132 p) = (4 : Int32) from fun q => h4h ((nI_eqI (b := 4) (by omega) (by decide)).mp q)), zM_at h, zo_ls hF h hI (by omega) (by omega), Bool.eq_false_iff.mpr hh, zbd_s, if_pos (by decide), zM_at h, zM_at h, zM_R h 1597 132 6 (by decide), zM_ix h 1597 132 6 (by decide) (by omega) (by decide), zM_n h 132 (by decide), zM_R h 1596 131 24 (by decide), show (4 : Int32) = nI 4 from rfl, zmd, zM_ix h 1596 131 24 (by decide) (by omega) (by decide), zlt_s, zM_at m1, zM_R m1 1605 138 72 (by decide), show (12 : Int32) = nI 12 from rfl, zmd, zM_ix m1 1605 138 72 (by decide) (by omega) (by decide), zlt_s, zM_at m2, zM_R m2 1597 132 6 (by decide), zM_ix m2 1597 132 6 (by decide) (by omega) (by decide), zM_ix m2 1597 132 6 (by decide) (by omega) (by decide), zM_n m2 132 (by decide), k1, zs1, zlt_s, zM_at m3, zM_R m3 1597 132 6 (by decide), zM_ix m3 1597 132 6 (by decide) (by omega) (by decide), zM_n m3 132 (by decide), k2]
    · refine same (-1) ?_ (fun w2 h => ?_)
      · unfold zf_WP_join
        rw [zC_at hC 9 0 (zP0_a9 h0), zc_pg1 hC hI h0 h2 hp, zbd_s, zlt_s, zC_at hC 9 0 (zP0_a9 h0), zc_id0 hC h0 h1 hy, zbd_s, zlt_s, if_neg (by simp), if_pos rfl]
      · unfold zf_Mo_join
        rw [zM_at h, zo_isP1 h hI hp, zbd_s, if_neg (by decide), zM_at h, zo_isI0 h hy, zbd_s, if_pos rfl]
  · refine same (-1) ?_ (fun w2 h => ?_)
    · unfold zf_WP_join
      rcases zin y (n := zN σ 1576 0) (by omega) with ⟨i, hi, rfl⟩ | hy
      · rw [zC_at hC 9 0 (zP0_a9 h0), zc_pg0 hC h0 h2 hz, zbd_s, zlt_s, zC_at hC 9 0 (zP0_a9 h0), zc_id1 hC hI h0 h1 hi, zbd_s, zlt_s, if_pos rfl]
      · rw [zC_at hC 9 0 (zP0_a9 h0), zc_pg0 hC h0 h2 hz, zbd_s, zlt_s, zC_at hC 9 0 (zP0_a9 h0), zc_id0 hC h0 h1 hy, zbd_s, zlt_s, if_pos rfl]
    · unfold zf_Mo_join
      rw [zM_at h, zo_isP0 h hz, zbd_s, if_pos rfl]
end ZOPS4
