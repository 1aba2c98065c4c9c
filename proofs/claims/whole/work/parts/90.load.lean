/-! load -/
def zby (x : Int64) (k : Nat) : Nat := (zi_lshr x (nI (8 * k)) &&& 255).toBitVec.toNat
theorem zby_lt (x : Int64) (k : Nat) : zby x k < 256 := by
  unfold zby
  rw [Int64.toBitVec_and, BitVec.toNat_and]
  exact Nat.lt_of_le_of_lt Nat.and_le_right (by decide)
theorem zby_B (x : Int64) (k : Nat) : zi_lshr x (nI (8 * k)) &&& 255 = Int64.ofNat (zby x k) := by
  apply Int64.toBitVec_inj.1
  show _ = BitVec.ofNat 64 (zby x k)
  unfold zby
  rw [BitVec.ofNat_toNat, BitVec.setWidth_eq]
theorem zs_l : ∀ k, k < 8 → (((nI (8 * k)).toInt64 &&& 63).toBitVec.smod 64).toNat = 8 * k := by decide +kernel
theorem zs_u : ∀ k, k < 8 → (((nI (8 * k)).toInt64.toUInt64 &&& Int64.toUInt64 63).toBitVec % 64).toNat = 8 * k := by decide +kernel
theorem zby_s (x : Int64) {k i : Nat} (hk : k < 8) (hi : i < 8) : (zi_lshr x (nI (8 * k))).toBitVec.getLsbD i = x.toBitVec.getLsbD (8 * k + i) := by
  unfold zi_lshr
  rw [Int64.toBitVec_shiftRight]
  show (x.toBitVec.sshiftRight (((nI (8 * k)).toInt64 &&& 63).toBitVec.smod 64).toNat).getLsbD i = _
  rw [zs_l k hk, BitVec.getLsbD_sshiftRight]
  simp [show ¬ 64 ≤ i by omega, show 8 * k + i < 64 by omega]
theorem zby_u (x : Int64) {k : Nat} (i : Nat) (hk : k < 8) : (zi_lushr x (nI (8 * k))).toBitVec.getLsbD i = x.toBitVec.getLsbD (8 * k + i) := by
  unfold zi_lushr
  show (x.toUInt64 >>> ((nI (8 * k)).toInt64.toUInt64 &&& Int64.toUInt64 63)).toBitVec.getLsbD i = x.toUInt64.toBitVec.getLsbD (8 * k + i)
  rw [UInt64.toBitVec_shiftRight]
  show (x.toUInt64.toBitVec >>> (((nI (8 * k)).toInt64.toUInt64 &&& Int64.toUInt64 63).toBitVec % 64).toNat).getLsbD i = _
  rw [zs_u k hk, BitVec.getLsbD_ushiftRight]
theorem z255 : ∀ i, i < 64 → (255 : Int64).toBitVec.getLsbD i = decide (i < 8) := by decide +kernel
theorem zby_W (x : Int64) {k : Nat} (hk : k < 8) : Int64.toInt32 (zi_lushr x (nI (8 * k))) &&& 255 = nI (zby x k) := by
  apply b_ext
  intro i hi
  rw [b_and, b_255]
  have e1 : bt (Int64.toInt32 (zi_lushr x (nI (8 * k)))) i = (zi_lushr x (nI (8 * k))).toBitVec.getLsbD i := by
    unfold bt
    rw [Int64.toBitVec_toInt32, BitVec.getLsbD_signExtend]
    simp [hi, show i < 64 by omega]
  have e2 : bt (nI (zby x k)) i = (zi_lshr x (nI (8 * k)) &&& 255).toBitVec.getLsbD i := by
    show (BitVec.ofNat 32 (zby x k)).getLsbD i = _
    rw [BitVec.getLsbD_ofNat]
    unfold zby
    rw [BitVec.testBit_toNat]
    simp [hi]
  rw [e1, e2, Int64.toBitVec_and, BitVec.getLsbD_and, z255 i (by omega), zby_u x i hk]
  by_cases h8 : i < 8
  · rw [zby_s x hk h8]
  · rw [decide_eq_false h8, Bool.and_false, Bool.and_false]
theorem zby_c : ∀ v, v < 256 → (lg_cmp (Int64.ofNat v) 126 ≤ 0 ↔ v ≤ 126) ∧ (Int64.ofNat v).toInt32 = nI v := by decide +kernel
/-- the numbers with c bytes more -/
def zldS (x : Int64) : Nat → zA → zA
  | 0, σ => σ
  | c + 1, σ => zldS x c (zN_s (zJ_s σ 128 (zN σ 1588 0) (nI (zby x c))) 1588 0 (zN σ 1588 0 + 1))
section ZLOAD
variable {ac : Nat → Nat → Nat} {τ : zB} {am : Nat → Nat} {σ : zA} {w w2 : zw_T} {F m x : Nat} {v : Int64}
theorem zld_I (hI : zI σ) (hl : zN σ 1588 0 < 20) {b : Nat} (hb : b ≤ 126) : zI (zN_s (zJ_s σ 128 (zN σ 1588 0) (nI b)) 1588 0 (zN σ 1588 0 + 1)) := by
  obtain ⟨i_idn, i_msn, i_ldn, i_bts, i_pgn, i_b32, i_adr, i_res, i_inj, i_knd, i_cal, i_cal0, i_mto, i_mpr, i_mnu, i_mle, i_wts, i_wtn, i_ld, i_mk, i_air, i_hcn, i_hrs, i_hc0, i_ct0, i_mi0, i_dis, i_kpn, i_kmn, i_kof, i_knu, i_lat⟩ := hI
  refine ⟨i_idn, i_msn, hl, i_bts, i_pgn, i_b32, i_adr, i_res, i_inj, i_knd, i_cal, i_cal0, i_mto, i_mpr, i_mnu, i_mle, i_wts, i_wtn, fun j hj => ?_, i_mk, i_air, i_hcn, i_hrs, i_hc0, i_ct0, i_mi0, i_dis, i_kpn, i_kmn, i_kof, i_knu, i_lat⟩
  have hj : j < zN σ 1588 0 + 1 := hj
  show ¬ (if 128 = 128 ∧ j = zN σ 1588 0 then nI b else zJ σ 128 j) < 0 ∧ (if 128 = 128 ∧ j = zN σ 1588 0 then nI b else zJ σ 128 j) ≤ 126
  by_cases hq : j = zN σ 1588 0
  · rw [if_pos ⟨rfl, hq⟩]
    exact ⟨nI_pos (by omega), (nI_leI (b := 126) (by omega) (by decide)).mpr hb⟩
  · rw [if_neg (fun z => hq z.2)]
    exact i_ld j (by omega)
theorem zld_P (hP : zP τ σ) (b : Nat) : zP (zb_sI (zb_sI τ 100 0 (zN σ 1588 0) (nI b)) 1520 0 0 (nI (zN σ 1588 0 + 1))) (zN_s (zJ_s σ 128 (zN σ 1588 0) (nI b)) 1588 0 (zN σ 1588 0 + 1)) := by
  obtain ⟨h0, h1, h2, h3, ⟨o, h4⟩, h5, h6, h7, h8⟩ := hP
  refine ⟨h0, h1, h2, h3, ⟨o, h4⟩, h5, ⟨rfl, fun j hj => ?_⟩, h7, h8⟩
  have hj : j < zN σ 1588 0 + 1 := hj
  show zb_I (zb_sI τ 100 0 (zN σ 1588 0) (nI b)) 100 0 j = (if 128 = 128 ∧ j = zN σ 1588 0 then nI b else zJ σ 128 j)
  rw [zb_I_sI]
  by_cases hq : j = zN σ 1588 0
  · rw [if_pos ⟨rfl, rfl, hq⟩, if_pos ⟨rfl, hq⟩]
  · rw [if_neg (fun z => hq z.2.2), if_neg (fun z => hq z.2)]
    exact zP6_d h6 j (by omega)
theorem zc_ldL : ∀ c n (σ : zA) (τ : zB) (w : zw_T), zN σ 1588 0 + c ≤ 20 → c ≤ 8 → (∀ j, j < c → zby v j ≤ 126) → c < n → zC ac τ w → zI σ → zP τ σ → ∃ τ' w', zf_WP_load_L57 F n w (ac 9 0) v (nI c - 1) = some (nI (zN σ 1588 0 + c), w') ∧ zC ac τ' w' ∧ zI (zldS v c σ) ∧ zP τ' (zldS v c σ) := by
  intro c
  induction c with
  | zero =>
    intro n σ τ w e1 e3 e4 e2 hC hI hP
    obtain ⟨n, rfl⟩ : ∃ q, n = q + 1 := ⟨n - 1, by omega⟩
    refine ⟨τ, w, ?_, hC, hI, hP⟩
    obtain ⟨h0, h1, h2, h3, ⟨o, h4⟩, h5, h6, h7, h8⟩ := hP
    unfold zf_WP_load_L57
    rw [if_pos (by decide), zC_at hC 9 0 (zP0_a9 h0), zC_I hC 1520 9 0 rfl (zP0_a9 h0), zP6_n h6]
    rfl
  | succ c ih =>
    intro n σ τ w e1 e3 e4 e2 hC hI hP
    obtain ⟨n, rfl⟩ : ∃ q, n = q + 1 := ⟨n - 1, by omega⟩
    have hP' := hP
    obtain ⟨h0, h1, h2, h3, ⟨o, h4⟩, h5, h6, h7, h8⟩ := hP
    have c1 := zC_sI hC 100 100 0 rfl (zP0_a100 h0) (zN σ 1588 0) (nI (zby v c))
    have c2 := zC_sI c1 1520 9 0 rfl (zP0_a9 h0) 0 (nI (zN σ 1588 0 + 1))
    obtain ⟨τ', w', r1, r2, r3, r4⟩ := ih n (zN_s (zJ_s σ 128 (zN σ 1588 0) (nI (zby v c))) 1588 0 (zN σ 1588 0 + 1)) _ _ (show zN σ 1588 0 + 1 + c ≤ 20 by omega) (by omega) (fun j hj => e4 j (by omega)) (by omega) c2 (zld_I hI (by omega) (e4 c (by omega))) (zld_P hP' (zby v c))
    refine ⟨τ', w', ?_, r2, r3, r4⟩
    have e : nI (c + 1) - 1 = nI c := pk_sub (a := c + 1) (b := 1) (by omega)
    have k1 : zb_I (zb_sI τ 100 0 (zN σ 1588 0) (nI (zby v c))) 1520 0 0 = nI (zN σ 1588 0) := (zP6_n h6 :)
    have e5 : zN σ 1588 0 + (c + 1) = zN σ 1588 0 + 1 + c := by omega
    rw [e]
    unfold zf_WP_load_L57
    rw [if_neg (nI_pos (by omega)), zC_at hC 9 0 (zP0_a9 h0), zC_at hC 9 0 (zP0_a9 h0)]
    unfold zf_WP_byteOf
    rw [zbd_s, show (8 : Int32) = nI 8 from rfl, pk_mul, zby_W v (by omega), zC_R hC 1519 9 100 0 rfl rfl (zP0_a9 h0) (zP0_r1519 h0), zC_I hC 1520 9 0 rfl (zP0_a9 h0), zP6_n h6, zC_ix hC 100 0 (zP0_a100 h0) (by rw [zP0_l100 h0]; omega) (by omega), zlt_s, zC_at c1 9 0 (zP0_a9 h0), zC_at c1 9 0 (zP0_a9 h0), zC_I c1 1520 9 0 rfl (zP0_a9 h0), k1, zs1, zlt_s, zlt_s, show nI c + (-1 : Int32) = nI c - 1 from (Int32.sub_eq_add_neg (nI c) 1).symm, r1, e5]
    rfl
theorem zo_ldL : ∀ c n (σ : zA) (w : zw_T), zN σ 1588 0 + c ≤ 20 → c ≤ 8 → c < n → zM m am σ w → ∃ w', zf_Mo_load_L64 F n w m v (nI c - 1) = some (nI (zN σ 1588 0 + c), w') ∧ zM m am (zldS v c σ) w' := by
  intro c
  induction c with
  | zero =>
    intro n σ w e1 e3 e2 h
    obtain ⟨n, rfl⟩ : ∃ q, n = q + 1 := ⟨n - 1, by omega⟩
    refine ⟨w, ?_, h⟩
    unfold zf_Mo_load_L64
    rw [if_pos (by decide), zM_at h, zM_fn h 1588 (by decide) (by decide)]
    rfl
  | succ c ih =>
    intro n σ w e1 e3 e2 h
    obtain ⟨n, rfl⟩ : ∃ q, n = q + 1 := ⟨n - 1, by omega⟩
    have m1 := zM_sj h 128 (by decide) (zN σ 1588 0) (nI (zby v c))
    have m2 := zM_sfn m1 1588 (by decide) (by decide) (zN σ 1588 0 + 1)
    obtain ⟨w', r1, r2⟩ := ih n (zN_s (zJ_s σ 128 (zN σ 1588 0) (nI (zby v c))) 1588 0 (zN σ 1588 0 + 1)) _ (show zN σ 1588 0 + 1 + c ≤ 20 by omega) (by omega) (by omega) m2
    refine ⟨w', ?_, r2⟩
    have e : nI (c + 1) - 1 = nI c := pk_sub (a := c + 1) (b := 1) (by omega)
    have k1 : zN (zJ_s σ 128 (zN σ 1588 0) (nI (zby v c))) 1588 0 = zN σ 1588 0 := rfl
    have e5 : zN σ 1588 0 + (c + 1) = zN σ 1588 0 + 1 + c := by omega
    rw [e]
    unfold zf_Mo_load_L64
    rw [if_neg (nI_pos (by omega)), zM_at h, zM_at h, zM_fn h 1588 (by decide) (by decide), zM_R h 1587 128 20 (by decide), zM_ix h 1587 128 20 (by decide) (by omega) (by decide), show (8 : Int32) = nI 8 from rfl, pk_mul, zby_B, (zby_c _ (zby_lt v c)).2, zlt_s, zM_at m1, zM_at m1, zM_fn m1 1588 (by decide) (by decide), k1, zs1, zlt_s, zlt_s, show nI c + (-1 : Int32) = nI c - 1 from (Int32.sub_eq_add_neg (nI c) 1).symm, r1, e5]
    rfl
theorem zc_ldC {N : Nat} (hN : N ≤ 8) : ∀ c n k, k + c = N → c < n → zf_WP_load_L27 F n w x v (nI N) (nI k) = if zany (fun j => decide (126 < zby v j)) k c = true then some (-1, w) else zf_WP_load_L57 F F w x v (nI N - 1) := by
  intro c
  induction c with
  | zero =>
    intro n k e1 e2
    obtain ⟨n, rfl⟩ : ∃ q, n = q + 1 := ⟨n - 1, by omega⟩
    unfold zf_WP_load_L27
    rw [if_pos ((nI_leI (by omega) (by omega)).mpr (by omega)), zlt_s]
    rfl
  | succ c ih =>
    intro n k e1 e2
    obtain ⟨n, rfl⟩ : ∃ q, n = q + 1 := ⟨n - 1, by omega⟩
    have hb := zby_lt v k
    unfold zf_WP_load_L27 zf_WP_byteOf
    rw [if_neg (zn_le (by omega) (by omega) (by omega)), zbd_s, show (8 : Int32) = nI 8 from rfl, pk_mul, zby_W v (by omega)]
    unfold zany
    by_cases hq : zby v k ≤ 126
    · rw [if_pos (show nI (zby v k) ≤ (126 : Int32) from (nI_leI (b := 126) (by omega) (by decide)).mpr hq), zlt_s, zs1, ih n (k + 1) (by omega) (by omega), decide_eq_false (by omega : ¬ 126 < zby v k), Bool.false_or]
    · rw [if_neg (show ¬ nI (zby v k) ≤ (126 : Int32) from zn_le (b := 126) (by omega) (by decide) hq), decide_eq_true (by omega : 126 < zby v k), Bool.true_or, if_pos rfl]
theorem zo_ldC {N : Nat} (hN : N ≤ 8) : ∀ c n k, k + c = N → c < n → zf_Mo_load_L27 F n w x v (nI N) (nI k) = if zany (fun j => decide (126 < zby v j)) k c = true then some (-1, w) else zf_Mo_load_L64 F F w x v (nI N - 1) := by
  intro c
  induction c with
  | zero =>
    intro n k e1 e2
    obtain ⟨n, rfl⟩ : ∃ q, n = q + 1 := ⟨n - 1, by omega⟩
    unfold zf_Mo_load_L27
    rw [if_pos ((nI_leI (by omega) (by omega)).mpr (by omega)), zlt_s]
    rfl
  | succ c ih =>
    intro n k e1 e2
    obtain ⟨n, rfl⟩ : ∃ q, n = q + 1 := ⟨n - 1, by omega⟩
    have hb := zby_lt v k
    unfold zf_Mo_load_L27
    rw [if_neg (zn_le (by omega) (by omega) (by omega)), show (8 : Int32) = nI 8 from rfl, pk_mul, zby_B]
    unfold zany
    by_cases hq : zby v k ≤ 126
    · rw [if_pos ((zby_c _ hb).1.mpr hq), zlt_s, zs1, ih n (k + 1) (by omega) (by omega), decide_eq_false (by omega : ¬ 126 < zby v k), Bool.false_or]
    · rw [if_neg (fun z => hq ((zby_c _ hb).1.mp z)), decide_eq_true (by omega : 126 < zby v k), Bool.true_or, if_pos rfl]
theorem zop_load (hF : 2500 ≤ F) (y : Int32) : zop x m (fun w => zf_WP_load F w x v y) (fun w => zf_Mo_load F w m v y) := by
  intro ac τ am σ w1 hx hC hI hP hB
  subst hx
  have hP' := hP
  obtain ⟨h0, h1, h2, h3, ⟨o, h4⟩, h5, h6, h7, h8⟩ := hP
  have i1 := zI_ldn hI
  show ∃ v' w1' ac' τ' σ', zf_WP_load F w1 (ac 9 0) v y = _ ∧ _
  have same : ∀ u, zf_WP_load F w1 (ac 9 0) v y = some (u, w1) → (∀ w2, zM m am σ w2 → zf_Mo_load F w2 m v y = some (u, w2)) → ∃ v' w1' ac' τ' σ', zf_WP_load F w1 (ac 9 0) v y = some (v', w1') ∧ ac' 9 0 = ac 9 0 ∧ zC ac' τ' w1' ∧ zI σ' ∧ zP τ' σ' ∧ ∀ w2, zM m am σ w2 → ∃ w2', (fun w => zf_Mo_load F w m v y) w2 = some (v', w2') ∧ zM m am σ' w2' := fun u e k => ⟨u, w1, ac, τ, σ, e, rfl, hC, hI, hP', fun w2 h => ⟨w2, k w2 h, h⟩⟩
  by_cases hlo : y < 1
  · exact same (-1) (by unfold zf_WP_load; rw [if_pos hlo]) (fun w2 h => by unfold zf_Mo_load; rw [if_pos hlo])
  by_cases hhi : 8 < y
  · exact same (-1) (by unfold zf_WP_load; rw [if_neg hlo, if_pos hhi]) (fun w2 h => by unfold zf_Mo_load; rw [if_neg hlo, if_pos hhi])
  obtain ⟨N, hN1, hN2, rfl⟩ : ∃ N, 1 ≤ N ∧ N ≤ 8 ∧ y = nI N := by
    have h0' : ¬ y < 0 := fun q => hlo (Int32.lt_trans q (by decide))
    obtain ⟨j, hj, rfl⟩ := zn_nn h0'
    refine ⟨j, ?_, ?_, rfl⟩
    · have := mt (nI_ltI (a := j) (b := 1) hj (by decide)).mpr hlo
      omega
    · have := mt (nI_ltI (a := 8) (b := j) (by decide) hj).mpr hhi
      omega
  by_cases hr : zN σ 1588 0 + N ≤ 20
  · have g1 : nI (zN σ 1588 0 + N) ≤ (20 : Int32) := (nI_leI (b := 20) (by omega) (by decide)).mpr hr
    have wl : zf_WP_load F w1 (ac 9 0) v (nI N) = zf_WP_load_L27 F F w1 (ac 9 0) v (nI N) (nI 0) := by
      unfold zf_WP_load
      rw [if_neg hlo, if_neg hhi, zC_at hC 9 0 (zP0_a9 h0), zC_I hC 1520 9 0 rfl (zP0_a9 h0), zP6_n h6, nI_add, if_pos g1, zlt_s]
      rfl
    have ml : ∀ w2, zM m am σ w2 → zf_Mo_load F w2 m v (nI N) = zf_Mo_load_L27 F F w2 m v (nI N) (nI 0) := by
      intro w2 h
      unfold zf_Mo_load
      rw [if_neg hlo, if_neg hhi, zM_at h, zM_fn h 1588 (by decide) (by decide), nI_add, if_pos g1, zlt_s]
      rfl
    by_cases hz : zany (fun j => decide (126 < zby v j)) 0 N = true
    · refine same (-1) ?_ (fun w2 h => ?_)
      · rw [wl, zc_ldC hN2 N F 0 (by omega) (by omega), if_pos hz]
      · rw [ml w2 h, zo_ldC hN2 N F 0 (by omega) (by omega), if_pos hz]
    · have hall : ∀ j, j < N → zby v j ≤ 126 := fun j hj => Nat.not_lt.mp fun q => hz ((zany_iff _ N 0).mpr ⟨j, hj, by rw [Nat.zero_add]; exact decide_eq_true q⟩)
      obtain ⟨τ', w', r1, r2, r3, r4⟩ := zc_ldL (F := F) N F σ τ w1 hr hN2 hall (by omega) hC hI hP'
      refine ⟨nI (zN σ 1588 0 + N), w', ac, τ', zldS v N σ, ?_, rfl, r2, r3, r4, fun w2 h => ?_⟩
      · rw [wl, zc_ldC hN2 N F 0 (by omega) (by omega), if_neg hz, r1]
      · obtain ⟨w3, q1, q2⟩ := zo_ldL (F := F) (v := v) N F σ w2 hr hN2 (by omega) h
        refine ⟨w3, ?_, q2⟩
        show zf_Mo_load F w2 m v (nI N) = _
        rw [ml w2 h, zo_ldC hN2 N F 0 (by omega) (by omega), if_neg hz, q1]
  · have g1 : ¬ nI (zN σ 1588 0 + N) ≤ (20 : Int32) := zn_le (b := 20) (by omega) (by decide) hr
    refine same (-1) ?_ (fun w2 h => ?_)
    · unfold zf_WP_load
      rw [if_neg hlo, if_neg hhi, zC_at hC 9 0 (zP0_a9 h0), zC_I hC 1520 9 0 rfl (zP0_a9 h0), zP6_n h6, nI_add, if_neg g1]
    · unfold zf_Mo_load
      rw [if_neg hlo, if_neg hhi, zM_at h, zM_fn h 1588 (by decide) (by decide), nI_add, if_neg g1]
end ZLOAD
