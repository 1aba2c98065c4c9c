/-! hear: from the first bit to the last -/
section ZH13
variable {ac : Nat → Nat → Nat} {τ : zB} {am : Nat → Nat} {σ : zA} {w w2 : zw_T} {F m p q : Nat}
/-- the end -/
theorem zh_fin (hF : 2500 ≤ F) (hH : zH p q ac τ σ w) (hq : q ≤ 5000) : ∃ v τ' w' σ', zf_Ls_listen_j62 F w (ac 5 0) = some (v, w') ∧ zH p q ac τ' σ' w' ∧ zb_R τ' 1259 0 0 = none ∧ ∀ w2, zM m am σ w2 → ∃ w2', zM m am σ' w2' ∧ ∀ n x3, zf_Mo_hear_L42 F (n + 1) w2 m x3 (nI (zN σ 1592 0)) = some (v, w2') := by
  obtain ⟨τ', w', σ', r1, r2, r3, r4, r5⟩ := zh_end (m := m) (am := am) hF hH hq (mk := 0) (by decide)
  have i1 := zI_bts hH.2.1
  refine ⟨nI (zN σ' 1611 0), τ', w', σ', ?_, r2, r3, fun w2 h => ?_⟩
  · have r1 : zf_Ls_endMessage F w (ac 5 0) (0 : Int32) = some w' := r1
    unfold zf_Ls_listen_j62
    rw [zH_at5 hH, r1, zbv_s, zH_at5 r2, zC_I r2.1 1258 5 0 rfl (zP0_a5 r2.2.2.1.1), r2.2.2.2.1.2.2.2.1]
  · obtain ⟨w3, t1, t2⟩ := r5 w2 h
    have t1 : zf_Mo_finish F w2 m (0 : Int32) = some w3 := t1
    refine ⟨w3, t2, fun n x3 => ?_⟩
    rw [zf_Mo_hear_L42, zM_at h, zM_fn h 1592 (by decide) (by decide), if_pos ((nI_leI (by omega) (by omega)).mpr (Nat.le_refl _)), zM_at h, t1, zbv_s, zM_at t2, zM_fn t2 1611 (by decide) (by decide)]
/-- where there is no more word, listening ends -/
theorem zc_25 (hH : zH p q ac τ σ w) {pos turn : Nat} (hp : pos ≤ 2240) (ht : turn ≤ 70) (hw : ¬ pos + 32 ≤ zN σ 1592 0) (n : Nat) : zf_Ls_listen_L25 F (n + 1) w (ac 5 0) (nI pos) (nI turn) = zf_Ls_listen_j62 F w (ac 5 0) := by
  have hwd := zc_hw (F := F) hH.1 hH.2.1 hH.2.2.1.1 hH.2.2.1.2.2.2.2.2.2.2 (q := pos) hp
  rw [decide_eq_false hw] at hwd
  rw [zf_Ls_listen_L25]
  by_cases h70 : turn = 70
  · rw [h70, if_pos (by decide)]
  · rw [if_neg (show ¬ (70 : Int32) ≤ nI turn from zn_le (a := 70) (by decide) (by omega) (by omega)), zH_at5 hH, zH_ai hH, zH_at1 hH, hwd, zbd_s, if_pos (by decide)]
def zQA (F m p : Nat) (ac : Nat → Nat → Nat) (am : Nat → Nat) (R : Nat) : Prop := ∀ s τ σ w turn, s + R = zN σ 1592 0 → zH p s ac τ σ w → 32 * turn + R ≤ 2240 → ∃ v τ' w' σ', (∀ n, R < n → (zf_bd (zf_Ls_hunt F w (ac 5 0) (nI s)) fun v w' => zf_Ls_listen_L25 F n w' (ac 5 0) v (nI turn)) = some (v, w')) ∧ zH p 2240 ac τ' σ' w' ∧ zb_R τ' 1259 0 0 = none ∧ ∀ w2, zM m am σ w2 → ∃ w2', zM m am σ' w2' ∧ ∀ n, R < n → zf_Mo_hear_L42 F n w2 m (nI s) (nI s) = some (v, w2')
def zQB (F m p : Nat) (ac : Nat → Nat → Nat) (am : Nat → Nat) (R : Nat) : Prop := ∀ s τ σ w turn, s + R = zN σ 1592 0 → zH p s ac τ σ w → 32 * turn + R ≤ 2240 → ∃ v τ' w' σ', (∀ n, R < n → zf_Ls_listen_L25 F n w (ac 5 0) (nI s) (nI turn) = some (v, w')) ∧ zH p 2240 ac τ' σ' w' ∧ zb_R τ' 1259 0 0 = none ∧ ∀ w2, zM m am σ w2 → ∃ w2', zM m am σ' w2' ∧ ∀ n1 n2, R < n1 → R < n2 → (zf_bd (zf_Mo_batches_L4 F n1 w2 m (nI s) 1) fun v93 w93 => zf_Mo_hear_L42 F n2 w93 m v93 v93) = some (v, w2')
theorem zh_A (hF : 2500 ≤ F) {R : Nat} (ih : ∀ r, r < R → zQB F m p ac am r) : zQA F m p ac am R := by
  intro s τ σ w turn e1 hH ht
  have i1 := zI_bts hH.2.1
  rcases zh_hunt (F := F) (m := m) (am := am) hF R 0 s τ σ w (by omega) hH with ⟨τ1, w1, σ1, r1, r2, r3, r4⟩ | ⟨e, τ1, w1, σ1, r5, r6, r1, r2, r3, r4⟩
  · obtain ⟨v, τ', w', σ', s1, s2, s3, s4⟩ := zh_fin (m := m) (am := am) hF r2 (by decide)
    refine ⟨v, τ', w', σ', fun n hn => ?_, s2, s3, fun w2 h => ?_⟩
    · obtain ⟨n, rfl⟩ : ∃ q, n = q + 1 := ⟨n - 1, by omega⟩
      have r3' := r3 F (by omega)
      have r3' : zf_Ls_hunt_L4 F F w (ac 5 0) (nI s) (0 : Int32) (nI s) = some (nI (zN σ 1592 0), w1) := r3'
      unfold zf_Ls_hunt
      rw [zlt_s, zlt_s, r3', zbd_s, zc_25 r2 (by omega) (by omega) (by omega), s1]
    · obtain ⟨w3, t1, t2⟩ := r4 w2 h
      obtain ⟨w4, u1, u2⟩ := s4 w3 t1
      refine ⟨w4, u1, fun n hn => ?_⟩
      obtain ⟨n', v1⟩ := t2 n (by omega)
      have v1 : zf_Mo_hear_L42 F n w2 m (nI s) (nI s) = _ := v1
      rw [v1, ← r1]
      exact u2 n' _
  · obtain ⟨v, τ', w', σ', s1, s2, s3, s4⟩ := ih (zN σ 1592 0 - e) (by omega) e τ1 σ1 w1 turn (by rw [r1]; omega) r2 (by omega)
    refine ⟨v, τ', w', σ', fun n hn => ?_, s2, s3, fun w2 h => ?_⟩
    · have r3' := r3 F (by omega)
      have r3' : zf_Ls_hunt_L4 F F w (ac 5 0) (nI s) (0 : Int32) (nI s) = some (nI e, w1) := r3'
      unfold zf_Ls_hunt
      rw [zlt_s, zlt_s, r3', zbd_s, s1 n (by omega)]
    · obtain ⟨w3, t1, t2⟩ := r4 w2 h
      obtain ⟨w4, u1, u2⟩ := s4 w3 t1
      refine ⟨w4, u1, fun n hn => ?_⟩
      obtain ⟨n', v0, v1⟩ := t2 n (by omega)
      have v1 : zf_Mo_hear_L42 F n w2 m (nI s) (nI s) = _ := v1
      rw [v1]
      unfold zf_Mo_batches
      rw [zlt_s, zlt_s]
      exact u2 F n' (by omega) v0
theorem zh_B (hF : 2500 ≤ F) {R : Nat} (ihA : ∀ r, r < R → zQA F m p ac am r) (ihB : ∀ r, r < R → zQB F m p ac am r) : zQB F m p ac am R := by
  intro s τ σ w turn e1 hH ht
  have hp6 := zH_p6 hH
  have i1 := zI_bts hH.2.1
  have mst : ∀ n1 (w2 : zw_T), R < n1 → zf_Mo_batches_L4 F n1 w2 m (nI s) 1 = zf_Mo_batches_L11 F (zf_Mo_batches_L4 F (n1 - 1)) F w2 m (nI s) (nI 0) := by
    intro n1 w2 hn
    obtain ⟨n1, rfl⟩ : ∃ q, n1 = q + 1 := ⟨n1 - 1, by omega⟩
    rw [zf_Mo_batches_L4, if_neg (by decide), zlt_s]
    rfl
  by_cases hw : s + 32 ≤ zN σ 1592 0
  · have hwd := zc_hw (F := F) hH.1 hH.2.1 hH.2.2.1.1 hH.2.2.1.2.2.2.2.2.2.2 (q := s) (by omega)
    rw [decide_eq_true hw] at hwd
    have cst : ∀ n, zf_Ls_listen_L25 F (n + 1) w (ac 5 0) (nI s) (nI turn) = (zf_bd (zf_Ls_takeBatch F w (ac 5 0) (nI s)) fun v48 w48 => zf_at w48 5 (some (ac 5 0)) fun a51 => zf_bd (zf_Ls_takeSync F w48 a51 v48) fun v51 w51 => zf_Ls_listen_L25 F n w51 (ac 5 0) v51 (nI (turn + 1))) := by
      intro n
      rw [zf_Ls_listen_L25, if_neg (show ¬ (70 : Int32) ≤ nI turn from zn_le (a := 70) (by decide) (by omega) (by omega)), zH_at5 hH, zH_ai hH, zH_at1 hH, hwd, zbd_s, if_neg (by decide), zH_at5 hH, zs1]
      rfl
    -- from the end of the air there is only the end
    have last : ∀ (τ1 : zB) (σ1 : zA) (w1 : zw_T) (q1 : Nat), zN σ1 1592 0 = zN σ 1592 0 → q1 ≤ 2240 → zH p q1 ac τ1 σ1 w1 → (∀ n, zf_Ls_listen_L25 F (n + 1) w (ac 5 0) (nI s) (nI turn) = zf_Ls_listen_L25 F n w1 (ac 5 0) (nI (zN σ 1592 0)) (nI (turn + 1))) → (∀ w2, zM m am σ w2 → ∃ w2', zM m am σ1 w2' ∧ ∀ n1, R < n1 → zf_Mo_batches_L4 F n1 w2 m (nI s) 1 = some (nI (zN σ 1592 0), w2')) → ∃ v τ' w' σ', (∀ n, R < n → zf_Ls_listen_L25 F n w (ac 5 0) (nI s) (nI turn) = some (v, w')) ∧ zH p 2240 ac τ' σ' w' ∧ zb_R τ' 1259 0 0 = none ∧ ∀ w2, zM m am σ w2 → ∃ w2', zM m am σ' w2' ∧ ∀ n1 n2, R < n1 → R < n2 → (zf_bd (zf_Mo_batches_L4 F n1 w2 m (nI s) 1) fun v93 w93 => zf_Mo_hear_L42 F n2 w93 m v93 v93) = some (v, w2') := by
      intro τ1 σ1 w1 q1 k1 kq k2 k3 k4
      obtain ⟨v, τ', w', σ', s1, s2, s3, s4⟩ := zh_fin (m := m) (am := am) hF k2 (by omega)
      refine ⟨v, τ', w', σ', fun n hn => ?_, zH_q s2 kq, s3, fun w2 h => ?_⟩
      · obtain ⟨n, rfl⟩ : ∃ q, n = q + 1 + 1 := ⟨n - 2, by omega⟩
        rw [k3 (n + 1), zc_25 k2 (by omega) (by omega) (by omega), s1]
      · obtain ⟨w3, t1, t2⟩ := k4 w2 h
        obtain ⟨w4, u1, u2⟩ := s4 w3 t1
        refine ⟨w4, u1, fun n1 n2 h1 h2 => ?_⟩
        obtain ⟨n2, rfl⟩ : ∃ q, n2 = q + 1 := ⟨n2 - 1, by omega⟩
        rw [t2 n1 h1, zbd_s, ← k1]
        exact u2 n2 _
    rcases zh_bat (F := F) (m := m) (am := am) hF 16 0 s τ σ w (by omega) (by omega) hH with ⟨τ1, w1, σ1, r1, r2, r3, r4⟩ | ⟨τ1, w1, σ1, r1, r0, r2, r3, r4⟩
    · have r3' := r3 F (by omega)
      have r3' : zf_Ls_takeBatch_L4 F F w (ac 5 0) (nI s) (0 : Int32) = some (nI (zN σ 1592 0), w1) := r3'
      have hw1 := zc_hw (F := F) r2.1 r2.2.1 r2.2.2.1.1 r2.2.2.1.2.2.2.2.2.2.2 (q := zN σ 1592 0) (by omega)
      rw [decide_eq_false (by omega)] at hw1
      have ts : zf_Ls_takeSync F w1 (ac 5 0) (nI (zN σ 1592 0)) = some (nI (zN σ 1592 0), w1) := by
        unfold zf_Ls_takeSync
        rw [zH_at5 r2, zH_ai r2, zH_at1 r2, hw1, zbd_s, if_pos (by decide), zH_at5 r2, zH_ai r2, zH_at1 r2, zH_bn r2, r1]
      refine last τ1 σ1 w1 2240 r1 (by omega) r2 (fun n => ?_) (fun w2 h => ?_)
      · rw [cst n]
        unfold zf_Ls_takeBatch
        rw [zlt_s, zlt_s, r3', zbd_s, zH_at5 r2, ts, zbd_s]
      · obtain ⟨w3, t1, t2⟩ := r4 w2 h
        refine ⟨w3, t1, fun n1 h1 => ?_⟩
        rw [mst n1 w2 h1]
        exact t2 F _ (by omega)
    · have r3' := r3 F (by omega)
      have r3' : zf_Ls_takeBatch_L4 F F w (ac 5 0) (nI s) (0 : Int32) = some (nI (s + 32 * 16), w1) := r3'
      have cst2 : ∀ n v w3, zf_Ls_takeSync F w1 (ac 5 0) (nI (s + 32 * 16)) = some (v, w3) → zf_Ls_listen_L25 F (n + 1) w (ac 5 0) (nI s) (nI turn) = zf_Ls_listen_L25 F n w3 (ac 5 0) v (nI (turn + 1)) := by
        intro n v w3 e
        rw [cst n]
        unfold zf_Ls_takeBatch
        rw [zlt_s, zlt_s, r3', zbd_s, zH_at5 r2, e, zbd_s]
      have hw1 := zc_hw (F := F) r2.1 r2.2.1 r2.2.2.1.1 r2.2.2.1.2.2.2.2.2.2.2 (q := s + 32 * 16) (by omega)
      have e32 : nI (s + 32 * 16) + (32 : Int32) = nI (s + 32 * 16 + 32) := nI_add _ 32
      by_cases hy : s + 32 * 16 + 32 ≤ zN σ 1592 0
      · rw [decide_eq_true (by omega)] at hw1
        have c0 := zh_c0 r2 (zJ σ1 139 (4 * p) + 32)
        have wa := zc_wa (F := F) c0.1 c0.2.1 c0.2.2.1.1 c0.2.2.1.2.2.2.2.2.2.2 (q := s + 32 * 16) (show s + 32 * 16 + 32 ≤ zN σ1 1592 0 by omega)
        have wa : zf_Ai_wordAt F (zw_sI w1 1389 (ac 7 p) 0 (zJ σ1 139 (4 * p) + 32)) (ac 1 0) (nI (s + 32 * 16)) = some (zwd σ1 (s + 32 * 16), zw_sI w1 1389 (ac 7 p) 0 (zJ σ1 139 (4 * p) + 32)) := wa
        have tsp : zf_Ls_takeSync F w1 (ac 5 0) (nI (s + 32 * 16)) = (if zd (zsy (zwd σ1 (s + 32 * 16))) = 0 then (zf_bv (zf_Ls_endMessage F (zw_sI w1 1389 (ac 7 p) 0 (zJ σ1 139 (4 * p) + 32)) (ac 5 0) (0 : Int32)) fun w54 => zf_at w54 5 (some (ac 5 0)) fun a62 => zf_bd (zf_Ls_hunt F w54 a62 (nI (s + 32 * 16 + 32))) fun v62 w62 => some (v62, w62)) else some (nI (s + 32 * 16 + 32), zw_sI w1 1389 (ac 7 p) 0 (zJ σ1 139 (4 * p) + 32))) := by
          unfold zf_Ls_takeSync
          rw [zH_at5 r2, zH_ai r2, zH_at1 r2, hw1, zbd_s, if_neg (by decide), zH_at5 r2, zH_pg r2, zH_at7 r2, zH_at7 r2, zh_r0 r2, zlt_s, zH_at5 c0, zH_ai c0, zH_at1 c0, wa, zbd_s, zc_sy, zbd_s, e32, zH_at5 c0]
        have msp : ∀ w2, zM m am σ w2 → ∃ w3, zM m am (zJ_s σ1 139 (4 * p) (zJ σ1 139 (4 * p) + 32)) w3 ∧ ∀ n1, R < n1 → zf_Mo_batches_L4 F n1 w2 m (nI s) 1 = zf_Mo_batches_L4 F (n1 - 1) w3 m (nI (s + 32 * 16 + 32)) (zd (zsy (zwd σ1 (s + 32 * 16)))) := by
          intro w2 h
          obtain ⟨w3, t1, t2⟩ := r4 w2 h
          have m1 := zM_sj t1 139 (by decide) (4 * p) (zJ σ1 139 (4 * p) + 32)
          refine ⟨_, m1, fun n1 h1 => ?_⟩
          obtain ⟨n', v1⟩ := t2 F (zf_Mo_batches_L4 F (n1 - 1)) (by omega)
          have sy : zf_Mo_isSync F (zw_sI w3 139 (am 139) (4 * p) (zJ σ1 139 (4 * p) + 32)) m (nI (s + 32 * 16)) = some (zd (zsy (zwd σ1 (s + 32 * 16))), zw_sI w3 139 (am 139) (4 * p) (zJ σ1 139 (4 * p) + 32)) := zo_sy hF m1 c0.2.1 (show s + 32 * 16 + 32 ≤ zN σ1 1592 0 by omega)
          rw [mst n1 w2 h1, v1, zf_Mo_batches_L11, if_pos (by decide), zM_at t1, zM_fn t1 1592 (by decide) (by decide), e32, r1, if_pos ((nI_leI (by omega) (by omega)).mpr hy), zM_at t1, zM_at t1, zM_at t1, zM_at t1, zM_R t1 1606 139 24 (by decide), zH_mp r2 t1, show (4 : Int32) * nI p = nI (4 * p) from pk_mul 4 p, zM_ix t1 1606 139 24 (by decide) (by omega) (by decide), zM_ix t1 1606 139 24 (by decide) (by omega) (by decide), zM_j t1 139 (by decide), zlt_s, zM_at m1, sy, zbd_s, zlt_s, zlt_s]
        have b1 : zN (zJ_s σ1 139 (4 * p) (zJ σ1 139 (4 * p) + 32)) 1592 0 = zN σ 1592 0 := r1
        have c0' := zH_q c0 (q' := s + 32 * 16 + 32) (by omega)
        clear c0 wa
        generalize zJ_s σ1 139 (4 * p) (zJ σ1 139 (4 * p) + 32) = σ2 at c0' msp b1
        generalize zb_sI τ1 1389 p 0 (zJ σ1 139 (4 * p) + 32) = τ2 at c0'
        generalize zw_sI w1 1389 (ac 7 p) 0 (zJ σ1 139 (4 * p) + 32) = w3 at c0' tsp
        cases hs : zsy (zwd σ1 (s + 32 * 16)) with
        | true =>
          rw [hs] at tsp msp
          rw [if_neg (by decide)] at tsp
          obtain ⟨v, τ', w', σ', x1, x2, x3, x4⟩ := ihB (R - 544) (by omega) (s + 32 * 16 + 32) τ2 σ2 w3 (turn + 1) (by omega) c0' (by omega)
          refine ⟨v, τ', w', σ', fun n hn => ?_, x2, x3, fun w2 h => ?_⟩
          · obtain ⟨n, rfl⟩ : ∃ q, n = q + 1 := ⟨n - 1, by omega⟩
            rw [cst2 n _ _ tsp, x1 n (by omega)]
          · obtain ⟨w4, t1, t2⟩ := msp w2 h
            obtain ⟨w5, u1, u2⟩ := x4 w4 t1
            refine ⟨w5, u1, fun n1 n2 h1 h2 => ?_⟩
            rw [t2 n1 h1]
            exact u2 (n1 - 1) n2 (by omega) (by omega)
        | false =>
          rw [hs] at tsp msp
          rw [if_pos (by decide)] at tsp
          obtain ⟨τ3, w4, σ3, y1, y2, y3, y4, y5⟩ := zh_end (m := m) (am := am) hF c0' (by omega) (mk := 0) (by decide)
          have y1 : zf_Ls_endMessage F w3 (ac 5 0) (0 : Int32) = some w4 := y1
          rw [y1, zbv_s, zH_at5 y2] at tsp
          obtain ⟨v, τ', w', σ', x1, x2, x3, x4⟩ := ihA (R - 544) (by omega) (s + 32 * 16 + 32) τ3 σ3 w4 (turn + 1) (by omega) y2 (by omega)
          refine ⟨v, τ', w', σ', fun n hn => ?_, x2, x3, fun w2 h => ?_⟩
          · obtain ⟨n, rfl⟩ : ∃ q, n = q + 1 := ⟨n - 1, by omega⟩
            have x1' := x1 n (by omega)
            cases hh : zf_Ls_hunt F w4 (ac 5 0) (nI (s + 32 * 16 + 32)) with
            | none =>
              rw [hh] at x1'
              cases x1'
            | some vw =>
              obtain ⟨v5, w5⟩ := vw
              rw [hh, zbd_s] at x1' tsp
              rw [cst2 n _ _ tsp, x1']
          · obtain ⟨w5, t1, t2⟩ := msp w2 h
            obtain ⟨w6, z1, z2⟩ := y5 w5 t1
            have z1 : zf_Mo_finish F w5 m (0 : Int32) = some w6 := z1
            obtain ⟨w7, u1, u2⟩ := x4 w6 z2
            refine ⟨w7, u1, fun n1 n2 h1 h2 => ?_⟩
            obtain ⟨n1, rfl⟩ : ∃ q, n1 = q + 1 + 1 := ⟨n1 - 2, by omega⟩
            rw [t2 (n1 + 1 + 1) h1, show n1 + 1 + 1 - 1 = n1 + 1 by omega, zf_Mo_batches_L4, if_pos (by decide), zM_at t1, z1, zbv_s, zbd_s]
            exact u2 n2 (by omega)
      · rw [decide_eq_false (by omega)] at hw1
        have ts : zf_Ls_takeSync F w1 (ac 5 0) (nI (s + 32 * 16)) = some (nI (zN σ 1592 0), w1) := by
          unfold zf_Ls_takeSync
          rw [zH_at5 r2, zH_ai r2, zH_at1 r2, hw1, zbd_s, if_pos (by decide), zH_at5 r2, zH_ai r2, zH_at1 r2, zH_bn r2, r1]
        refine last τ1 σ1 w1 (s + 32 * 16) r1 (by omega) r2 (fun n => cst2 n _ _ ts) (fun w2 h => ?_)
        obtain ⟨w3, t1, t2⟩ := r4 w2 h
        refine ⟨w3, t1, fun n1 h1 => ?_⟩
        obtain ⟨n', v1⟩ := t2 F (zf_Mo_batches_L4 F (n1 - 1)) (by omega)
        rw [mst n1 w2 h1, v1, zf_Mo_batches_L11, if_pos (by decide), zM_at t1, zM_fn t1 1592 (by decide) (by decide), e32, r1, if_neg (zn_le (by omega) (by omega) hy), zM_at t1, zM_fn t1 1592 (by decide) (by decide), r1]
  · obtain ⟨v, τ', w', σ', s1, s2, s3, s4⟩ := zh_fin (m := m) (am := am) hF hH (by omega)
    refine ⟨v, τ', w', σ', fun n hn => ?_, zH_q s2 (by omega), s3, fun w2 h => ?_⟩
    · obtain ⟨n, rfl⟩ : ∃ q, n = q + 1 := ⟨n - 1, by omega⟩
      rw [zc_25 hH (by omega) (by omega) hw, s1]
    · obtain ⟨w4, u1, u2⟩ := s4 w2 h
      refine ⟨w4, u1, fun n1 n2 h1 h2 => ?_⟩
      obtain ⟨n2, rfl⟩ : ∃ q, n2 = q + 1 := ⟨n2 - 1, by omega⟩
      obtain ⟨f, rfl⟩ : ∃ q, F = q + 1 := ⟨F - 1, by omega⟩
      rw [mst n1 w2 h1, zf_Mo_batches_L11, if_neg (by decide), zM_at h, zM_fn h 1592 (by decide) (by decide), show nI s + (32 : Int32) = nI (s + 32) from nI_add s 32, if_neg (zn_le (by omega) (by omega) hw), zM_at h, zM_fn h 1592 (by decide) (by decide), zbd_s]
      exact u2 n2 _
theorem zh_AB (hF : 2500 ≤ F) : ∀ N R, R < N → zQA F m p ac am R ∧ zQB F m p ac am R := by
  intro N
  induction N with
  | zero =>
    intro R h
    omega
  | succ N ih =>
    intro R h
    exact ⟨zh_A hF (fun r hr => (ih r (by omega)).2), zh_B hF (fun r hr => (ih r (by omega)).1) (fun r hr => (ih r (by omega)).2)⟩
/-- hear -/
theorem zop_hear {x : Nat} (hF : 2500 ≤ F) (y z : Int32) : zop x m (fun w => zf_WP_hear F w x y z) (fun w => zf_Mo_hear F w m y z) := by
  intro ac τ am σ w1 hx hC hI hP hB
  subst hx
  have hP' := hP
  obtain ⟨h0, h1, h2, h3, ⟨o, h4⟩, h5, h6, h7, h8⟩ := hP
  have i1 := zI_pgn hI
  have i2 := zI_bts hI
  show ∃ v w1' ac' τ' σ', zf_WP_hear F w1 (ac 9 0) y z = _ ∧ _
  have same : ∀ v, zf_WP_hear F w1 (ac 9 0) y z = some (v, w1) → (∀ w2, zM m am σ w2 → zf_Mo_hear F w2 m y z = some (v, w2)) → ∃ v w1' ac' τ' σ', zf_WP_hear F w1 (ac 9 0) y z = some (v, w1') ∧ ac' 9 0 = ac 9 0 ∧ zC ac' τ' w1' ∧ zI σ' ∧ zP τ' σ' ∧ ∀ w2, zM m am σ w2 → ∃ w2', (fun w => zf_Mo_hear F w m y z) w2 = some (v, w2') ∧ zM m am σ' w2' := fun v e k => ⟨v, w1, ac, τ, σ, e, rfl, hC, hI, hP', fun w2 h => ⟨w2, k w2 h, h⟩⟩
  rcases zin y (n := zN σ 1595 0) (by omega) with ⟨p, hp, rfl⟩ | hy
  · have a7 := zp_a7 h2 hp
    have a5 := zP0_a5 h0
    rcases zin z (n := zN σ 1592 0) (by omega) with ⟨s, hs, rfl⟩ | hz
    · clear same
      have c1 := zC_sR hC 1257 5 7 0 rfl rfl a5 0 (v := some p) (fun j hj => by cases hj; exact a7)
      have c1' : zC ac (zb_sR τ 1257 0 0 (some p)) (zw_sR w1 1257 (ac 5 0) 0 (some (ac 7 p))) := c1
      have c2 := zC_sR c1' 1256 5 1 0 rfl rfl a5 0 (v := some 0) (fun j hj => by cases hj; exact zP0_a1 h0)
      have c2' : zC ac (zb_sR (zb_sR τ 1257 0 0 (some p)) 1256 0 0 (some 0)) (zw_sR (zw_sR w1 1257 (ac 5 0) 0 (some (ac 7 p))) 1256 (ac 5 0) 0 (some (ac 1 0))) := c2
      have c3 := zC_sI c2' 1258 5 0 rfl a5 0 0
      have hH : zH p s ac _ (zN_s (zJ_s (zN_s σ 1607 0 p) 1608 0 (-1)) 1611 0 0) _ := ⟨c3, hI, ⟨h0, h1, h2, h3, ⟨o, h4⟩, h5, h6, h7⟩, ⟨rfl, rfl, rfl, by rw [zb_I_sI, if_pos ⟨rfl, rfl, rfl⟩]; rfl, Or.inl ⟨h8, rfl⟩⟩, hp⟩
      obtain ⟨v, τ', w', σ', r1, r2, r3, r4⟩ := (zh_AB (F := F) (m := m) (p := p) (ac := ac) (am := am) hF (zN σ 1592 0 - s + 1) (zN σ 1592 0 - s) (by omega)).1 s _ (zN_s (zJ_s (zN_s σ 1607 0 p) 1608 0 (-1)) 1611 0 0) _ 0 (show s + (zN σ 1592 0 - s) = zN σ 1592 0 by omega) hH (by omega)
      obtain ⟨q1, q2, ⟨y0, y1, y2, y3, y4, y5, y6, y7⟩, q4, q5⟩ := r2
      refine ⟨v, w', ac, τ', σ', ?_, rfl, q1, q2, ⟨y0, y1, y2, y3, y4, y5, y6, y7, r3⟩, fun w2 h => ?_⟩
      · have r1' := r1 F (by omega)
        have r1' : (zf_bd (zf_Ls_hunt F (zw_sI (zw_sR (zw_sR w1 1257 (ac 5 0) 0 (some (ac 7 p))) 1256 (ac 5 0) 0 (some (ac 1 0))) 1258 (ac 5 0) 0 0) (ac 5 0) (nI s)) fun v w' => zf_Ls_listen_L25 F F w' (ac 5 0) v (0 : Int32)) = some (v, w') := r1'
        unfold zf_WP_hear
        rw [zC_at hC 9 0 (zP0_a9 h0), zc_pg1 hC hI h0 h2 hp, zbd_s, zlt_s, if_neg (by simp), zC_at hC 9 0 (zP0_a9 h0), zC_R hC 1522 9 1 0 rfl rfl (zP0_a9 h0) (zP0_r1522 h0), zC_at hC 1 0 (zP0_a1 h0), zc_hb1 hC hI h0 h7 hs, zbd_s, if_neg (by decide), zC_at hC 9 0 (zP0_a9 h0), zC_at hC 9 0 (zP0_a9 h0), zC_R hC 1523 9 5 0 rfl rfl (zP0_a9 h0) (zP0_r1523 h0), zC_at hC 5 0 a5, zC_R hC 1522 9 1 0 rfl rfl (zP0_a9 h0) (zP0_r1522 h0)]
        unfold zf_Ls_listen
        rw [zC_at hC 5 0 a5, zlt_s, zC_at c1' 5 0 a5, zlt_s, zC_at c2' 5 0 a5, zlt_s, zC_at c3 5 0 a5]
        show zf_bd (zf_bd (zf_Ls_hunt F (zw_sI (zw_sR (zw_sR w1 1257 (ac 5 0) 0 (some (ac 7 p))) 1256 (ac 5 0) 0 (some (ac 1 0))) 1258 (ac 5 0) 0 0) (ac 5 0) (nI s)) fun v w' => zf_Ls_listen_L25 F F w' (ac 5 0) v (0 : Int32)) _ = _
        rw [r1', zbd_s]
      · have m1 := zM_sfn h 1607 (by decide) (by decide) p
        have m2 := zM_sfj m1 1608 (by decide) (by decide) (-1)
        have m3 := zM_sfn m2 1611 (by decide) (by decide) 0
        obtain ⟨w3, t1, t2⟩ := r4 _ m3
        refine ⟨w3, ?_, t1⟩
        have t2' := t2 F (by omega)
        show zf_Mo_hear F w2 m (nI p) (nI s) = _
        unfold zf_Mo_hear
        rw [zM_at h, zo_isP1 h hI hp, zbd_s, if_neg (by decide), if_neg (nI_pos (by omega)), zM_at h, zM_fn h 1592 (by decide) (by decide), if_pos ((nI_ltI (by omega) (by omega)).mpr hs), zM_at h, zlt_s, zM_at m1, zlt_s, zM_at m2, zlt_s, zlt_s, zlt_s]
        exact t2'
    · refine same (-1) ?_ (fun w2 h => ?_)
      · unfold zf_WP_hear
        rw [zC_at hC 9 0 (zP0_a9 h0), zc_pg1 hC hI h0 h2 hp, zbd_s, zlt_s, if_neg (by simp), zC_at hC 9 0 (zP0_a9 h0), zC_R hC 1522 9 1 0 rfl rfl (zP0_a9 h0) (zP0_r1522 h0), zC_at hC 1 0 (zP0_a1 h0), zc_hb0 hC h0 h7 hz, zbd_s, if_pos (by decide)]
      · unfold zf_Mo_hear
        rw [zM_at h, zo_isP1 h hI hp, zbd_s, if_neg (by decide)]
        rcases hz with hz | ⟨k1, k2⟩
        · rw [if_pos hz]
        · rw [if_neg k1, zM_at h, zM_fn h 1592 (by decide) (by decide), if_neg (zout_nlt (by omega) k1 k2)]
  · refine same (-1) ?_ (fun w2 h => ?_)
    · unfold zf_WP_hear
      rw [zC_at hC 9 0 (zP0_a9 h0), zc_pg0 hC h0 h2 hy, zbd_s, zlt_s, if_pos rfl]
    · unfold zf_Mo_hear
      rw [zM_at h, zo_isP0 h hy, zbd_s, if_pos rfl]
end ZH13
