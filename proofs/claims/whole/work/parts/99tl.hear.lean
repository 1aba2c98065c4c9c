/-! hear: a batch, and the hunt for one -/
section ZH12
variable {ac : Nat → Nat → Nat} {τ : zB} {am : Nat → Nat} {σ : zA} {w w2 : zw_T} {F m p q : Nat}
theorem zh_st (hF : 2500 ≤ F) {t pos : Nat} (ht : t < 16) (hw : pos + 32 ≤ zN σ 1592 0) (hH : zH p pos ac τ σ w) : ∃ τ' w' σ', zH p (pos + 32) ac τ' σ' w' ∧ zN σ' 1592 0 = zN σ 1592 0 ∧ (∀ n, zf_Ls_takeBatch_L4 F (n + 1) w (ac 5 0) (nI pos) (nI t) = zf_Ls_takeBatch_L4 F n w' (ac 5 0) (nI (pos + 32)) (nI (t + 1))) ∧ ∀ w2, zM m am σ w2 → ∃ w2', zM m am σ' w2' ∧ ∀ n k4, zf_Mo_batches_L11 F k4 (n + 1) w2 m (nI pos) (nI t) = zf_Mo_batches_L11 F k4 n w2' m (nI (pos + 32)) (nI (t + 1)) := by
  have hp6 := zH_p6 hH
  have i1 := zI_bts hH.2.1
  have h0 := hH.2.2.1.1
  have h7 := hH.2.2.1.2.2.2.2.2.2.2
  have hwd := zc_hw (F := F) hH.1 hH.2.1 h0 h7 (q := pos) (by omega)
  rw [decide_eq_true hw] at hwd
  have wa := zc_wa (F := F) hH.1 hH.2.1 h0 h7 hw
  have e2 : nI t / (2 : Int32) = nI (t / 2) := pk_div (d := 2) (by omega) (by decide) (by decide)
  have e32 : nI pos + (32 : Int32) = nI (pos + 32) := nI_add pos 32
  have e4 : (4 : Int32) * nI p = nI (4 * p) := pk_mul 4 p
  have n16 : ¬ (16 : Int32) ≤ nI t := zn_le (a := 16) (by decide) (by omega) (by omega)
  have mpre : ∀ w2, zM m am σ w2 → ∀ n k4, zf_Mo_batches_L11 F k4 (n + 1) w2 m (nI pos) (nI t) = (zf_bd (zf_Mo_isAwake F w2 m (nI (t / 2))) fun v39 w39 => if v39 = 0 then (zf_Mo_batches_j83 F k4 (zf_Mo_batches_L11 F k4 n) w39 m (nI pos) (nI t)) else (zf_at w39 10 (some m) fun a46 => zf_at w39 10 (some m) fun a51 => zf_at w39 10 (some m) fun a56 => zf_at w39 10 (some m) fun a61 => zf_ix w39 139 (zw_R w39 1606 a56 0) ((4 : Int32) * (zw_I w39 1607 a61 0)) fun a65 j65 => zf_ix w39 139 (zw_R w39 1606 a46 0) ((4 : Int32) * (zw_I w39 1607 a51 0)) fun a69 j69 => zf_let (zw_sI w39 139 a69 j69 ((zw_I w39 139 a65 j65) + (32 : Int32))) fun w69 => zf_at w69 10 (some m) fun a73 => zf_bd (zf_Mo_wordAt F w69 a73 (nI pos)) fun v73 w73 => zf_at w73 10 (some m) fun a80 => zf_bv (zf_Mo_look F w73 a80 v73 (nI (t / 2))) fun w80 => zf_Mo_batches_j83 F k4 (zf_Mo_batches_L11 F k4 n) w80 m (nI pos) (nI t))) := by
    intro w2 h n k4
    rw [zf_Mo_batches_L11, if_neg n16, zM_at h, zM_fn h 1592 (by decide) (by decide), e32, if_pos ((nI_leI (by omega) (by omega)).mpr hw), zM_at h, e2]
  have cpre : ∀ n, zf_Ls_takeBatch_L4 F (n + 1) w (ac 5 0) (nI pos) (nI t) = (if (zw_R w 1259 (ac 5 0) 0) = none then (zf_bd (zf_Pg_hasFrame F w (ac 7 p) (nI (t / 2))) fun v47 w47 => if v47 = 0 then (zf_Ls_takeBatch_j67 F (zf_Ls_takeBatch_L4 F n) w47 (ac 5 0) (nI pos) (nI t)) else (zf_Ls_takeBatch_j53 F (zf_Ls_takeBatch_L4 F n) w47 (ac 5 0) (nI pos) (nI t) (nI (t / 2)))) else (zf_Ls_takeBatch_j53 F (zf_Ls_takeBatch_L4 F n) w (ac 5 0) (nI pos) (nI t) (nI (t / 2)))) := by
    intro n
    rw [zf_Ls_takeBatch_L4, if_neg n16, zH_at5 hH, zH_ai hH, zH_at1 hH, hwd, zbd_s, if_neg (by decide), e2, zlt_s, zH_at5 hH]
    by_cases hr : zw_R w 1259 (ac 5 0) 0 = none
    · rw [if_pos hr, if_pos hr, zH_at5 hH, zH_pg hH, zH_at7 hH]
    · rw [if_neg hr, if_neg hr]
  -- awake
  have aw : (∀ n, zf_Ls_takeBatch_L4 F (n + 1) w (ac 5 0) (nI pos) (nI t) = zf_Ls_takeBatch_j53 F (zf_Ls_takeBatch_L4 F n) w (ac 5 0) (nI pos) (nI t) (nI (t / 2))) → (∀ w2, zM m am σ w2 → zf_Mo_isAwake F w2 m (nI (t / 2)) = some (1, w2)) → ∃ τ' w' σ', zH p (pos + 32) ac τ' σ' w' ∧ zN σ' 1592 0 = zN σ 1592 0 ∧ (∀ n, zf_Ls_takeBatch_L4 F (n + 1) w (ac 5 0) (nI pos) (nI t) = zf_Ls_takeBatch_L4 F n w' (ac 5 0) (nI (pos + 32)) (nI (t + 1))) ∧ ∀ w2, zM m am σ w2 → ∃ w2', zM m am σ' w2' ∧ ∀ n k4, zf_Mo_batches_L11 F k4 (n + 1) w2 m (nI pos) (nI t) = zf_Mo_batches_L11 F k4 n w2' m (nI (pos + 32)) (nI (t + 1)) := by
    intro cl ml
    obtain ⟨τ', w', σ', r1, r2, r3, r4⟩ := zh_word (m := m) (am := am) hF hH (by omega) (v := zwd σ pos) (fr := t / 2) (by omega)
    refine ⟨τ', w', σ', zH_q r2 (by omega), r3, fun n => ?_, fun w2 h => ?_⟩
    · rw [cl n]
      unfold zf_Ls_takeBatch_j53
      rw [zH_at5 hH, zH_ai hH, zH_at1 hH, wa, zbd_s, zH_at5 hH, r1, zbv_s]
      unfold zf_Ls_takeBatch_j67
      rw [e32, zlt_s, zs1, zlt_s]
    · have m1 := zM_sj h 139 (by decide) (4 * p) (zJ σ 139 (4 * p) + 32)
      obtain ⟨w3, t1, t2⟩ := r4 _ m1
      refine ⟨w3, t2, fun n k4 => ?_⟩
      have wo : zf_Mo_wordAt F (zw_sI w2 139 (am 139) (4 * p) (zJ σ 139 (4 * p) + 32)) m (nI pos) = some (zwd σ pos, zw_sI w2 139 (am 139) (4 * p) (zJ σ 139 (4 * p) + 32)) := zo_wa hF m1 (zct_I hH.2.1 hH.2.2.2.2 (c := 0) (by decide) _) hw
      rw [mpre w2 h, ml w2 h, zbd_s, if_neg (by decide), zM_at h, zM_at h, zM_at h, zM_at h, zM_R h 1606 139 24 (by decide), zH_mp hH h, e4, zM_ix h 1606 139 24 (by decide) (by omega) (by decide), zM_ix h 1606 139 24 (by decide) (by omega) (by decide), zM_j h 139 (by decide), zlt_s, zM_at m1, wo, zbd_s, zM_at m1, t1, zbv_s]
      unfold zf_Mo_batches_j83
      rw [e32, zlt_s, zs1, zlt_s]
  by_cases hr : zb_R τ 1259 0 0 = none
  · have rc : zw_R w 1259 (ac 5 0) 0 = none := zC_R0 hH.1 1259 5 0 rfl (zP0_a5 h0) hr
    have hf := zc_hf hF hH (fr := t / 2) (by omega)
    cases hz : zany (zaw σ (t / 2)) (4 * p) (zN σ 132 p) with
    | true =>
      rw [hz] at hf
      refine aw (fun n => ?_) (fun w2 h => ?_)
      · rw [cpre n, if_pos rc, hf, zbd_s, if_neg (by decide)]
      · rw [(zo_aw hF hH h (by omega)).1 hr, hz]
        rfl
    | false =>
      rw [hz] at hf
      refine ⟨τ, w, σ, zH_q hH (by omega), rfl, fun n => ?_, fun w2 h => ⟨w2, h, fun n k4 => ?_⟩⟩
      · rw [cpre n, if_pos rc, hf, zbd_s, if_pos (by decide)]
        unfold zf_Ls_takeBatch_j67
        rw [e32, zlt_s, zs1, zlt_s]
      · rw [mpre w2 h, (zo_aw hF hH h (by omega)).1 hr, hz, zbd_s, if_pos (by decide)]
        unfold zf_Mo_batches_j83
        rw [e32, zlt_s, zs1, zlt_s]
  · obtain ⟨k, i, wd, k1, k2, k3, k4, k5, k6, k7, kg⟩ := zh_run hH hr
    have rc : zw_R w 1259 (ac 5 0) 0 = some (ac 2 (4 * p + k)) := zC_R hH.1 1259 5 2 0 rfl rfl (zP0_a5 h0) k2
    refine aw (fun n => ?_) (fun w2 h => (zo_aw hF hH h (by omega)).2 hr)
    rw [cpre n, rc, if_neg (by simp)]
theorem zh_bat (hF : 2500 ≤ F) : ∀ c t pos τ σ w, t + c = 16 → pos ≤ zN σ 1592 0 → zH p pos ac τ σ w → (∃ τ' w' σ', zN σ' 1592 0 = zN σ 1592 0 ∧ zH p 2240 ac τ' σ' w' ∧ (∀ n, c < n → zf_Ls_takeBatch_L4 F n w (ac 5 0) (nI pos) (nI t) = some (nI (zN σ 1592 0), w')) ∧ ∀ w2, zM m am σ w2 → ∃ w2', zM m am σ' w2' ∧ ∀ n k4, c < n → zf_Mo_batches_L11 F k4 n w2 m (nI pos) (nI t) = some (nI (zN σ 1592 0), w2')) ∨ (∃ τ' w' σ', zN σ' 1592 0 = zN σ 1592 0 ∧ pos + 32 * c ≤ zN σ 1592 0 ∧ zH p (pos + 32 * c) ac τ' σ' w' ∧ (∀ n, c < n → zf_Ls_takeBatch_L4 F n w (ac 5 0) (nI pos) (nI t) = some (nI (pos + 32 * c), w')) ∧ ∀ w2, zM m am σ w2 → ∃ w2', zM m am σ' w2' ∧ ∀ n k4, c < n → ∃ n', zf_Mo_batches_L11 F k4 n w2 m (nI pos) (nI t) = zf_Mo_batches_L11 F k4 (n' + 1) w2' m (nI (pos + 32 * c)) (nI 16)) := by
  intro c
  induction c with
  | zero =>
    intro t pos τ σ w e1 e2 hH
    have et : t = 16 := by omega
    subst et
    refine Or.inr ⟨τ, w, σ, rfl, by omega, hH, fun n hn => ?_, fun w2 h => ⟨w2, h, fun n k4 hn => ?_⟩⟩
    · obtain ⟨n, rfl⟩ : ∃ q, n = q + 1 := ⟨n - 1, by omega⟩
      rw [zf_Ls_takeBatch_L4, if_pos (by decide)]
      rfl
    · obtain ⟨n, rfl⟩ : ∃ q, n = q + 1 := ⟨n - 1, by omega⟩
      exact ⟨n, rfl⟩
  | succ c ih =>
    intro t pos τ σ w e1 e2 hH
    have i1 := zI_bts hH.2.1
    by_cases hw : pos + 32 ≤ zN σ 1592 0
    · obtain ⟨τ1, w1, σ1, s1, s2, s3, s4⟩ := zh_st (m := m) (am := am) hF (t := t) (by omega) hw hH
      rcases ih (t + 1) (pos + 32) τ1 σ1 w1 (by omega) (by omega) s1 with ⟨τ', w', σ', r1, r2, r3, r4⟩ | ⟨τ', w', σ', r1, r0, r2, r3, r4⟩
      · rw [s2] at r1 r3
        refine Or.inl ⟨τ', w', σ', r1, r2, fun n hn => ?_, fun w2 h => ?_⟩
        · obtain ⟨n, rfl⟩ : ∃ q, n = q + 1 := ⟨n - 1, by omega⟩
          rw [s3 n, r3 n (by omega)]
        · obtain ⟨w3, t1, t2⟩ := s4 w2 h
          obtain ⟨w4, u1, u2⟩ := r4 w3 t1
          refine ⟨w4, u1, fun n k4 hn => ?_⟩
          obtain ⟨n, rfl⟩ : ∃ q, n = q + 1 := ⟨n - 1, by omega⟩
          rw [t2 n k4, u2 n k4 (by omega), s2]
      · rw [s2] at r1 r0
        rw [show pos + 32 + 32 * c = pos + 32 * (c + 1) by omega] at r0 r2 r3 r4
        refine Or.inr ⟨τ', w', σ', r1, r0, r2, fun n hn => ?_, fun w2 h => ?_⟩
        · obtain ⟨n, rfl⟩ : ∃ q, n = q + 1 := ⟨n - 1, by omega⟩
          rw [s3 n, r3 n (by omega)]
        · obtain ⟨w3, t1, t2⟩ := s4 w2 h
          obtain ⟨w4, u1, u2⟩ := r4 w3 t1
          refine ⟨w4, u1, fun n k4 hn => ?_⟩
          obtain ⟨n, rfl⟩ : ∃ q, n = q + 1 := ⟨n - 1, by omega⟩
          obtain ⟨n', v1⟩ := u2 n k4 (by omega)
          exact ⟨n', by rw [t2 n k4, v1]⟩
    · have hwd := zc_hw (F := F) hH.1 hH.2.1 hH.2.2.1.1 hH.2.2.1.2.2.2.2.2.2.2 (q := pos) (by omega)
      rw [decide_eq_false hw] at hwd
      have n16 : ¬ (16 : Int32) ≤ nI t := zn_le (a := 16) (by decide) (by omega) (by omega)
      refine Or.inl ⟨τ, w, σ, rfl, zH_q hH (by omega), fun n hn => ?_, fun w2 h => ⟨w2, h, fun n k4 hn => ?_⟩⟩
      · obtain ⟨n, rfl⟩ : ∃ q, n = q + 1 := ⟨n - 1, by omega⟩
        rw [zf_Ls_takeBatch_L4, if_neg n16, zH_at5 hH, zH_ai hH, zH_at1 hH, hwd, zbd_s, if_pos (by decide), zH_at5 hH, zH_ai hH, zH_at1 hH, zH_bn hH]
      · obtain ⟨n, rfl⟩ : ∃ q, n = q + 1 := ⟨n - 1, by omega⟩
        rw [zf_Mo_batches_L11, if_neg n16, zM_at h, zM_fn h 1592 (by decide) (by decide), show nI pos + (32 : Int32) = nI (pos + 32) from nI_add pos 32, if_neg (zn_le (by omega) (by omega) hw), zM_at h, zM_fn h 1592 (by decide) (by decide)]
theorem zh_hunt (hF : 2500 ≤ F) : ∀ R k s τ σ w, s + k + R = zN σ 1592 0 → zH p (s + k) ac τ σ w → (∃ τ' w' σ', zN σ' 1592 0 = zN σ 1592 0 ∧ zH p 2240 ac τ' σ' w' ∧ (∀ n, R < n → zf_Ls_hunt_L4 F n w (ac 5 0) (nI s) (nI (zdat (zbits σ) s k 0)) (nI (s + k)) = some (nI (zN σ 1592 0), w')) ∧ ∀ w2, zM m am σ w2 → ∃ w2', zM m am σ' w2' ∧ ∀ n, R < n → ∃ n', zf_Mo_hear_L42 F n w2 m (nI s) (nI (s + k)) = zf_Mo_hear_L42 F (n' + 1) w2' m (nI s) (nI (zN σ 1592 0))) ∨ (∃ e τ' w' σ', s + k < e ∧ e ≤ zN σ 1592 0 ∧ zN σ' 1592 0 = zN σ 1592 0 ∧ zH p e ac τ' σ' w' ∧ (∀ n, R < n → zf_Ls_hunt_L4 F n w (ac 5 0) (nI s) (nI (zdat (zbits σ) s k 0)) (nI (s + k)) = some (nI e, w')) ∧ ∀ w2, zM m am σ w2 → ∃ w2', zM m am σ' w2' ∧ ∀ n, R < n → ∃ n', zN σ 1592 0 - e < n' ∧ zf_Mo_hear_L42 F n w2 m (nI s) (nI (s + k)) = (zf_bd (zf_Mo_batches F w2' m (nI e)) fun v93 w93 => zf_Mo_hear_L42 F n' w93 m v93 v93)) := by
  intro R
  induction R with
  | zero =>
    intro k s τ σ w e1 hH
    have i1 := zI_bts hH.2.1
    refine Or.inl ⟨τ, w, σ, rfl, zH_q hH (by omega), fun n hn => ?_, fun w2 h => ⟨w2, h, fun n hn => ?_⟩⟩
    · obtain ⟨n, rfl⟩ : ∃ q, n = q + 1 := ⟨n - 1, by omega⟩
      rw [zf_Ls_hunt_L4, zH_at5 hH, zH_ai hH, zH_at1 hH, zH_bn hH, if_pos ((nI_leI (by omega) (by omega)).mpr (by omega)), zH_at5 hH, zH_ai hH, zH_at1 hH, zH_bn hH]
    · obtain ⟨n, rfl⟩ : ∃ q, n = q + 1 := ⟨n - 1, by omega⟩
      exact ⟨n, by rw [show s + k = zN σ 1592 0 by omega]⟩
  | succ R ih =>
    intro k s τ σ w e1 hH
    have hp6 := zH_p6 hH
    have i1 := zI_bts hH.2.1
    have i2 := zI_air hH.2.1 (s + k)
    have bt1 := zc_bitAt (F := F) hH.1 hH.2.1 hH.2.2.1.1 hH.2.2.1.2.2.2.2.2.2.2 (i := s + k) (by omega)
    have c0 := zh_c0 hH (zJ σ 139 (4 * p) + 1)
    have e4 : (4 : Int32) * nI p = nI (4 * p) := pk_mul 4 p
    have ew : zi_shl (nI (zdat (zbits σ) s k 0)) (1 : Int32) ||| nI (zN σ 130 (s + k)) = nI (zdat (zbits σ) s (k + 1) 0) := by
      rw [show nI (zN σ 130 (s + k)) = nI (if zbits σ (s + k) = true then 1 else 0) from congrArg nI (zN01 i2), zn_shw, zdat_snoc]
    have ek : nI (s + k) - nI s = nI k := by
      rw [pk_sub (by omega), Nat.add_sub_cancel_left]
    have ek1 : nI (s + k + 1) - nI s = nI (k + 1) := by
      rw [pk_sub (by omega), show s + k + 1 - s = k + 1 by omega]
    have cpre : ∀ n, zf_Ls_hunt_L4 F (n + 1) w (ac 5 0) (nI s) (nI (zdat (zbits σ) s k 0)) (nI (s + k)) = (if nI k < (31 : Int32) then (zf_Ls_hunt_j60 F (zf_Ls_hunt_L4 F n) (zw_sI w 1389 (ac 7 p) 0 (zJ σ 139 (4 * p) + 1)) (ac 5 0) (nI s) (nI (zdat (zbits σ) s (k + 1) 0)) (nI (s + k))) else (zf_bd (zf_WP_isSync F (zw_sI w 1389 (ac 7 p) 0 (zJ σ 139 (4 * p) + 1)) (nI (zdat (zbits σ) s (k + 1) 0))) fun v50 w50 => if v50 = 0 then (zf_Ls_hunt_j60 F (zf_Ls_hunt_L4 F n) w50 (ac 5 0) (nI s) (nI (zdat (zbits σ) s (k + 1) 0)) (nI (s + k))) else (some ((nI (s + k) + (1 : Int32)), w50)))) := by
      intro n
      rw [zf_Ls_hunt_L4, zH_at5 hH, zH_ai hH, zH_at1 hH, zH_bn hH, if_neg (zn_le (by omega) (by omega) (by omega)), zH_at5 hH, zH_ai hH, zH_at1 hH, bt1, zbd_s, ew, zlt_s, zH_at5 hH, zH_pg hH, zH_at7 hH, zH_at7 hH, zh_r0 hH, zlt_s, ek]
    have mpre : ∀ w2, zM m am σ w2 → ∀ n, zf_Mo_hear_L42 F (n + 1) w2 m (nI s) (nI (s + k)) = (if nI (k + 1) < (32 : Int32) then (zf_Mo_hear_L42 F n (zw_sI w2 139 (am 139) (4 * p) (zJ σ 139 (4 * p) + 1)) m (nI s) (nI (s + k + 1))) else (zf_bd (zf_Mo_isSync F (zw_sI w2 139 (am 139) (4 * p) (zJ σ 139 (4 * p) + 1)) m (nI (s + k + 1) - (32 : Int32))) fun v84 w84 => if v84 = 0 then (zf_Mo_hear_L42 F n w84 m (nI s) (nI (s + k + 1))) else (zf_at w84 10 (some m) fun a93 => zf_bd (zf_Mo_batches F w84 a93 (nI (s + k + 1))) fun v93 w93 => zf_let v93 fun y96 => zf_let y96 fun y100 => zf_Mo_hear_L42 F n w93 m y100 y96))) := by
      intro w2 h n
      have m1 := zM_sj h 139 (by decide) (4 * p) (zJ σ 139 (4 * p) + 1)
      rw [zf_Mo_hear_L42, zM_at h, zM_fn h 1592 (by decide) (by decide), if_neg (zn_le (by omega) (by omega) (by omega)), zs1, zlt_s, zM_at h, zM_at h, zM_R h 1606 139 24 (by decide), zH_mp hH h, e4, zM_ix h 1606 139 24 (by decide) (by omega) (by decide), zM_ix h 1606 139 24 (by decide) (by omega) (by decide), zM_j h 139 (by decide), zlt_s, ek1, zM_at m1]
    -- going on
    have go : (∀ n, zf_Ls_hunt_L4 F (n + 1) w (ac 5 0) (nI s) (nI (zdat (zbits σ) s k 0)) (nI (s + k)) = zf_Ls_hunt_j60 F (zf_Ls_hunt_L4 F n) (zw_sI w 1389 (ac 7 p) 0 (zJ σ 139 (4 * p) + 1)) (ac 5 0) (nI s) (nI (zdat (zbits σ) s (k + 1) 0)) (nI (s + k))) → (∀ w2, zM m am σ w2 → ∀ n, zf_Mo_hear_L42 F (n + 1) w2 m (nI s) (nI (s + k)) = zf_Mo_hear_L42 F n (zw_sI w2 139 (am 139) (4 * p) (zJ σ 139 (4 * p) + 1)) m (nI s) (nI (s + k + 1))) → (∃ τ' w' σ', zN σ' 1592 0 = zN σ 1592 0 ∧ zH p 2240 ac τ' σ' w' ∧ (∀ n, R + 1 < n → zf_Ls_hunt_L4 F n w (ac 5 0) (nI s) (nI (zdat (zbits σ) s k 0)) (nI (s + k)) = some (nI (zN σ 1592 0), w')) ∧ ∀ w2, zM m am σ w2 → ∃ w2', zM m am σ' w2' ∧ ∀ n, R + 1 < n → ∃ n', zf_Mo_hear_L42 F n w2 m (nI s) (nI (s + k)) = zf_Mo_hear_L42 F (n' + 1) w2' m (nI s) (nI (zN σ 1592 0))) ∨ (∃ e τ' w' σ', s + k < e ∧ e ≤ zN σ 1592 0 ∧ zN σ' 1592 0 = zN σ 1592 0 ∧ zH p e ac τ' σ' w' ∧ (∀ n, R + 1 < n → zf_Ls_hunt_L4 F n w (ac 5 0) (nI s) (nI (zdat (zbits σ) s k 0)) (nI (s + k)) = some (nI e, w')) ∧ ∀ w2, zM m am σ w2 → ∃ w2', zM m am σ' w2' ∧ ∀ n, R + 1 < n → ∃ n', zN σ 1592 0 - e < n' ∧ zf_Mo_hear_L42 F n w2 m (nI s) (nI (s + k)) = (zf_bd (zf_Mo_batches F w2' m (nI e)) fun v93 w93 => zf_Mo_hear_L42 F n' w93 m v93 v93)) := by
      intro cl ml
      have cl' : ∀ n, zf_Ls_hunt_L4 F (n + 1) w (ac 5 0) (nI s) (nI (zdat (zbits σ) s k 0)) (nI (s + k)) = zf_Ls_hunt_L4 F n (zw_sI w 1389 (ac 7 p) 0 (zJ σ 139 (4 * p) + 1)) (ac 5 0) (nI s) (nI (zdat (zbits (zJ_s σ 139 (4 * p) (zJ σ 139 (4 * p) + 1))) s (k + 1) 0)) (nI (s + (k + 1))) := by
        intro n
        rw [cl n]
        unfold zf_Ls_hunt_j60
        rw [zs1, zlt_s]
        rfl
      rcases ih (k + 1) s _ (zJ_s σ 139 (4 * p) (zJ σ 139 (4 * p) + 1)) _ (show s + (k + 1) + R = zN σ 1592 0 by omega) (zH_q c0 (by omega)) with ⟨τ', w', σ', r1, r2, r3, r4⟩ | ⟨e, τ', w', σ', r5, r6, r1, r2, r3, r4⟩
      · refine Or.inl ⟨τ', w', σ', r1, r2, fun n hn => ?_, fun w2 h => ?_⟩
        · obtain ⟨n, rfl⟩ : ∃ q, n = q + 1 := ⟨n - 1, by omega⟩
          exact (cl' n).trans (r3 n (by omega))
        · have m1 := zM_sj h 139 (by decide) (4 * p) (zJ σ 139 (4 * p) + 1)
          obtain ⟨w4, u1, u2⟩ := r4 _ m1
          refine ⟨w4, u1, fun n hn => ?_⟩
          obtain ⟨n, rfl⟩ : ∃ q, n = q + 1 := ⟨n - 1, by omega⟩
          obtain ⟨n', v1⟩ := u2 n (by omega)
          exact ⟨n', (ml w2 h n).trans v1⟩
      · refine Or.inr ⟨e, τ', w', σ', by omega, r6, r1, r2, fun n hn => ?_, fun w2 h => ?_⟩
        · obtain ⟨n, rfl⟩ : ∃ q, n = q + 1 := ⟨n - 1, by omega⟩
          exact (cl' n).trans (r3 n (by omega))
        · have m1 := zM_sj h 139 (by decide) (4 * p) (zJ σ 139 (4 * p) + 1)
          obtain ⟨w4, u1, u2⟩ := r4 _ m1
          refine ⟨w4, u1, fun n hn => ?_⟩
          obtain ⟨n, rfl⟩ : ∃ q, n = q + 1 := ⟨n - 1, by omega⟩
          obtain ⟨n', v0, v1⟩ := u2 n (by omega)
          exact ⟨n', v0, (ml w2 h n).trans v1⟩
    by_cases hk : k < 31
    · exact go (fun n => by rw [cpre n, if_pos (show nI k < (31 : Int32) from (nI_ltI (b := 31) (by omega) (by decide)).mpr hk)]) (fun w2 h n => by rw [mpre w2 h n, if_pos (show nI (k + 1) < (32 : Int32) from (nI_ltI (b := 32) (by omega) (by decide)).mpr (by omega))])
    · have ez : nI (zdat (zbits σ) s (k + 1) 0) = zwd σ (s + k + 1 - 32) := by
        rw [zwd_w σ (by omega), show s + (k + 1) - 32 = s + k + 1 - 32 by omega]
      have msy : ∀ w2, zM m am σ w2 → zf_Mo_isSync F (zw_sI w2 139 (am 139) (4 * p) (zJ σ 139 (4 * p) + 1)) m (nI (s + k + 1) - (32 : Int32)) = some (zd (zsy (zwd σ (s + k + 1 - 32))), zw_sI w2 139 (am 139) (4 * p) (zJ σ 139 (4 * p) + 1)) := by
        intro w2 h
        have m1 := zM_sj h 139 (by decide) (4 * p) (zJ σ 139 (4 * p) + 1)
        rw [show nI (s + k + 1) - (32 : Int32) = nI (s + k + 1 - 32) from pk_sub (b := 32) (by omega)]
        exact zo_sy hF m1 c0.2.1 (show s + k + 1 - 32 + 32 ≤ zN σ 1592 0 by omega)
      have nk : ¬ nI k < (31 : Int32) := zn_lt (b := 31) (by omega) (by decide) hk
      have nk1 : ¬ nI (k + 1) < (32 : Int32) := zn_lt (b := 32) (by omega) (by decide) (by omega)
      cases hs : zsy (zwd σ (s + k + 1 - 32)) with
      | false =>
        refine go (fun n => ?_) (fun w2 h n => ?_)
        · rw [cpre n, if_neg nk, zc_sy, zbd_s, ez, hs, if_pos (by decide)]
        · rw [mpre w2 h n, if_neg nk1, msy w2 h, hs, zbd_s, if_pos (by decide)]
      | true =>
        refine Or.inr ⟨s + k + 1, _, _, zJ_s σ 139 (4 * p) (zJ σ 139 (4 * p) + 1), by omega, by omega, rfl, zH_q c0 (show s + k ≤ s + k + 1 by omega), fun n hn => ?_, fun w2 h => ?_⟩
        · obtain ⟨n, rfl⟩ : ∃ q, n = q + 1 := ⟨n - 1, by omega⟩
          rw [cpre n, if_neg nk, zc_sy, zbd_s, ez, hs, if_neg (by decide), zs1]
        · have m1 := zM_sj h 139 (by decide) (4 * p) (zJ σ 139 (4 * p) + 1)
          refine ⟨_, m1, fun n hn => ?_⟩
          obtain ⟨n, rfl⟩ : ∃ q, n = q + 1 := ⟨n - 1, by omega⟩
          refine ⟨n, by omega, ?_⟩
          rw [mpre w2 h n, if_neg nk1, msy w2 h, hs, zbd_s, if_neg (by decide), zM_at m1]
          rfl
end ZH12
