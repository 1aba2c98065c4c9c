/-! count, message, sign, bit, flip -/
theorem zout_ne {n k : Nat} {y : Int32} (hn : n < 2 ^ 31) (h : zout n y) (hk : k < n) : y ≠ nI k := by
  rintro rfl
  rcases h with h | ⟨_, h⟩
  · exact nI_pos (by omega) h
  · have := (nI_leI hn (by omega)).mp h
    omega
theorem zout_gt {n : Nat} {y : Int32} (hn : n + 1 < 2 ^ 31) (h1 : ¬ y < 0) (h : nI (n + 1) ≤ y) : nI n < y := by
  obtain ⟨j, hj, rfl⟩ := zn_nn h1
  have := (nI_leI hn hj).mp h
  exact (nI_ltI (by omega) hj).mpr (by omega)
theorem zout_nlt {n : Nat} {y : Int32} (hn : n < 2 ^ 31) (h1 : ¬ y < 0) (h : nI n ≤ y) : ¬ y < nI n := by
  obtain ⟨j, hj, rfl⟩ := zn_nn h1
  have := (nI_leI hn hj).mp h
  exact fun q => by have := (nI_ltI hj hn).mp q; omega
theorem zmd (a b c : Nat) : nI a * nI b + nI c = nI (a * b + c) := by rw [pk_mul, nI_add]
section ZOPS2
variable {ac : Nat → Nat → Nat} {τ : zB} {am : Nat → Nat} {σ : zA} {w w2 : zw_T} {F m x : Nat}
theorem zo_cnt1 (h : zM m am σ w) (hI : zI σ) {p c : Nat} (hp : p < zN σ 1595 0) (hc : c < 4) : zf_Mo_count F w m (nI p) (nI c) = some (zJ σ 139 (4 * p + c), w) := by
  have := zI_pgn hI
  unfold zf_Mo_count
  rw [zM_at h, zo_isP1 h hI hp, zbd_s, if_neg (by decide), if_neg (nI_pos (by omega)), if_neg (show ¬ (3 : Int32) < nI c from zn_lt (a := 3) (by omega) (by omega) (by omega)), zM_at h, zM_R h 1606 139 24 (by decide), show (4 : Int32) = nI 4 from rfl, zmd, zM_ix h 1606 139 24 (by decide) (by omega) (by decide), zM_j h 139 (by decide)]
theorem zo_cnt0 (h : zM m am σ w) (hI : zI σ) {p : Nat} {y : Int32} (hp : p < zN σ 1595 0) (hy : zout 4 y) : zf_Mo_count F w m (nI p) y = some (-1, w) := by
  unfold zf_Mo_count
  rw [zM_at h, zo_isP1 h hI hp, zbd_s, if_neg (by decide)]
  rcases hy with hy | ⟨h1, h2⟩
  · rw [if_pos hy]
  · rw [if_neg h1, if_pos (show (3 : Int32) < y from zout_gt (n := 3) (by omega) h1 h2)]
theorem zo_cntN (h : zM m am σ w) {z y : Int32} (hz : zout (zN σ 1595 0) z) : zf_Mo_count F w m z y = some (-1, w) := by
  unfold zf_Mo_count
  rw [zM_at h, zo_isP0 h hz, zbd_s, if_pos rfl]
theorem zc_cntN (hC : zC ac τ w) (h0 : zP0 τ) (h2 : zP2 τ σ) {z y : Int32} (hz : zout (zN σ 1595 0) z) : zf_WP_count F w (ac 9 0) z y = some (-1, w) := by
  unfold zf_WP_count
  rw [zC_at hC 9 0 (zP0_a9 h0), zc_pg0 hC h0 h2 hz, zbd_s, zlt_s, if_pos rfl]
theorem zc_cnt0 (hC : zC ac τ w) (hI : zI σ) (h0 : zP0 τ) (h2 : zP2 τ σ) {p : Nat} {y : Int32} (hp : p < zN σ 1595 0) (hy : zout 4 y) : zf_WP_count F w (ac 9 0) (nI p) y = some (-1, w) := by
  unfold zf_WP_count
  rw [zC_at hC 9 0 (zP0_a9 h0), zc_pg1 hC hI h0 h2 hp, zbd_s, zlt_s, if_neg (by simp), if_neg (show ¬ y = (0 : Int32) from zout_ne (k := 0) (by decide) hy (by decide)), if_neg (show ¬ y = (1 : Int32) from zout_ne (k := 1) (by decide) hy (by decide)), if_neg (show ¬ y = (2 : Int32) from zout_ne (k := 2) (by decide) hy (by decide)), if_neg (show ¬ y = (3 : Int32) from zout_ne (k := 3) (by decide) hy (by decide))]
theorem zc_cnt1 (hC : zC ac τ w) (hI : zI σ) (h0 : zP0 τ) (h2 : zP2 τ σ) {p c : Nat} (hp : p < zN σ 1595 0) (hc : c < 4) : zf_WP_count F w (ac 9 0) (nI p) (nI c) = some (zJ σ 139 (4 * p + c), w) := by
  unfold zf_WP_count
  rw [zC_at hC 9 0 (zP0_a9 h0), zc_pg1 hC hI h0 h2 hp, zbd_s, zlt_s, if_neg (by simp)]
  match c, hc with
  | 0, _ => rw [if_pos (by decide), zC_at hC 7 p (zp_a7 h2 hp), zC_I hC 1389 7 p rfl (zp_a7 h2 hp), zP2_c0 h2 p hp]; rfl
  | 1, _ => rw [if_neg (by decide), if_pos (by decide), zC_at hC 7 p (zp_a7 h2 hp), zC_I hC 1390 7 p rfl (zp_a7 h2 hp), zP2_c1 h2 p hp]
  | 2, _ => rw [if_neg (by decide), if_neg (by decide), if_pos (by decide), zC_at hC 7 p (zp_a7 h2 hp), zC_I hC 1391 7 p rfl (zp_a7 h2 hp), zP2_c2 h2 p hp]
  | 3, _ => rw [if_neg (by decide), if_neg (by decide), if_neg (by decide), if_pos (by decide), zC_at hC 7 p (zp_a7 h2 hp), zC_I hC 1392 7 p rfl (zp_a7 h2 hp), zP2_c3 h2 p hp]
theorem zop_count (z y : Int32) : zop x m (fun w => zf_WP_count F w x z y) (fun w => zf_Mo_count F w m z y) := zop_ro fun ac τ am σ w1 hx hC hI hP => by
  subst hx
  obtain ⟨h0, h1, h2, h3, ⟨o, h4⟩, h5, h6, h7, h8⟩ := hP
  have hp := zI_pgn hI
  rcases zin z (n := zN σ 1595 0) (by omega) with ⟨p, hp, rfl⟩ | hz
  · rcases zin y (n := 4) (by omega) with ⟨c, hc, rfl⟩ | hy
    · exact ⟨_, zc_cnt1 hC hI h0 h2 hp hc, fun w2 h => zo_cnt1 h hI hp hc⟩
    · exact ⟨_, zc_cnt0 hC hI h0 h2 hp hy, fun w2 h => zo_cnt0 h hI hp hy⟩
  · exact ⟨_, zc_cntN hC h0 h2 hz, fun w2 h => zo_cntN h hz⟩
/-! stored messages -/
theorem zp_a8 {o : Nat → Nat} (h4 : zP4 τ σ o) {p q : Nat} (hp : p < zN σ 1595 0) (hq : q < 10) : zb_a τ 8 (10 * p + q) = true := (zP4_a h4 _).trans (decide_eq_true (by omega))
theorem zp_a104 {o : Nat → Nat} (h4 : zP4 τ σ o) {p q : Nat} (hp : p < zN σ 1595 0) (hq : q < 10) : zb_a τ 104 (10 * p + q) = true := (zP4_sa h4 _).trans (decide_eq_true (by omega))
theorem zp_a407 (h2 : zP2 τ σ) {p : Nat} (hp : p < zN σ 1595 0) : zb_a τ 407 p = true := (zP2_ga h2 p).trans (decide_eq_true hp)
theorem zc_st1 (hC : zC ac τ w) (hI : zI σ) (h0 : zP0 τ) (h2 : zP2 τ σ) {o : Nat → Nat} (h4 : zP4 τ σ o) {p k : Nat} (hp : p < zN σ 1595 0) (hk : k < zN σ 133 p) : zf_WP_storedAt F w (ac 9 0) (nI p) (nI k) = some (some (ac 8 (10 * p + (o p + k) % 10)), w) := by
  have i1 := zI_kpn hI p
  have i2 := zP4_o h4 p hp
  have a7 := zp_a7 h2 hp
  unfold zf_WP_storedAt
  rw [zC_at hC 9 0 (zP0_a9 h0), zc_pg1 hC hI h0 h2 hp, zbd_s, zlt_s, if_neg (by simp), zC_at hC 7 p a7]
  unfold zf_Pg_storedAt
  rw [if_neg (nI_pos (by omega)), zC_at hC 7 p a7, zC_I hC 1388 7 p rfl a7, zP4_n h4 p hp, if_neg (zn_le (by omega) (by omega) (by omega)), zC_at hC 7 p a7, zC_at hC 7 p a7, zC_R hC 1386 7 407 p rfl rfl a7 (zP2_gr h2 p hp), zC_I hC 1387 7 p rfl a7, zP4_ol h4 p hp, nI_add, show (10 : Int32) = nI 10 from rfl, zq_rem (by omega) (by decide) (by decide), zC_ix hC 407 p (zp_a407 h2 hp) (by rw [zP2_gl h2 p hp]; omega) (by omega), zC_R hC 407 407 8 p rfl rfl (zp_a407 h2 hp) (zP4_r h4 p _ hp (by omega)), zbd_s]
theorem zc_st0 (hC : zC ac τ w) (hI : zI σ) (h0 : zP0 τ) (h2 : zP2 τ σ) {o : Nat → Nat} (h4 : zP4 τ σ o) {p : Nat} {y : Int32} (hp : p < zN σ 1595 0) (hy : zout (zN σ 133 p) y) : zf_WP_storedAt F w (ac 9 0) (nI p) y = some (none, w) := by
  have a7 := zp_a7 h2 hp
  unfold zf_WP_storedAt
  rw [zC_at hC 9 0 (zP0_a9 h0), zc_pg1 hC hI h0 h2 hp, zbd_s, zlt_s, if_neg (by simp), zC_at hC 7 p a7]
  unfold zf_Pg_storedAt
  rcases hy with hy | ⟨h3, h5⟩
  · rw [if_pos hy, zbd_s]
  · rw [if_neg h3, zC_at hC 7 p a7, zC_I hC 1388 7 p rfl a7, zP4_n h4 p hp, if_pos h5, zbd_s]
theorem zc_stN (hC : zC ac τ w) (h0 : zP0 τ) (h2 : zP2 τ σ) {z y : Int32} (hz : zout (zN σ 1595 0) z) : zf_WP_storedAt F w (ac 9 0) z y = some (none, w) := by
  unfold zf_WP_storedAt
  rw [zC_at hC 9 0 (zP0_a9 h0), zc_pg0 hC h0 h2 hz, zbd_s, zlt_s, if_pos rfl]
theorem zo_isK1 (h : zM m am σ w) (hI : zI σ) {p k : Nat} (hp : p < zN σ 1595 0) (hk : k < zN σ 133 p) : zf_Mo_isKept F w m (nI p) (nI k) = some (1, w) := by
  have i1 := zI_kpn hI p
  have i2 := zI_pgn hI
  unfold zf_Mo_isKept
  rw [zM_at h, zo_isP1 h hI hp, zbd_s, if_neg (by decide), if_neg (nI_pos (by omega)), zM_at h, zM_R h 1598 133 6 (by decide), zM_ix h 1598 133 6 (by decide) (by omega) (by decide), zM_n h 133 (by decide), if_neg (zn_le (by omega) (by omega) (by omega)), zb_1]
theorem zo_isK0 (h : zM m am σ w) (hI : zI σ) {p : Nat} {y : Int32} (hp : p < zN σ 1595 0) (hy : zout (zN σ 133 p) y) : zf_Mo_isKept F w m (nI p) y = some (0, w) := by
  have i2 := zI_pgn hI
  unfold zf_Mo_isKept
  rw [zM_at h, zo_isP1 h hI hp, zbd_s, if_neg (by decide)]
  rcases hy with hy | ⟨h3, h5⟩
  · rw [if_pos hy, zb_0]
  · rw [if_neg h3, zM_at h, zM_R h 1598 133 6 (by decide), zM_ix h 1598 133 6 (by decide) (by omega) (by decide), zM_n h 133 (by decide), if_pos h5, zb_0]
theorem zo_isKN (h : zM m am σ w) {z y : Int32} (hz : zout (zN σ 1595 0) z) : zf_Mo_isKept F w m z y = some (0, w) := by
  unfold zf_Mo_isKept
  rw [zM_at h, zo_isP0 h hz, zbd_s, if_pos rfl, zb_0]
theorem zb_if {b : Nat} (hb : b < 2) (w : zw_T) : (if nI b = 0 then some ((0 : Int32), w) else some ((1 : Int32), w)) = some (nI b, w) := by
  match b, hb with
  | 0, _ => rfl
  | 1, _ => rfl
/-- what a kept message answers -/
def zmsg (σ : zA) (i c : Nat) : Int32 := if c = 0 then nI (zN σ 134 i) else if c = 1 then nI (zN σ 135 i) else if c = 2 then nI (zN σ 136 i) else nI (zN σ 202 i)
theorem zc_msg1 (hC : zC ac τ w) (hI : zI σ) (h0 : zP0 τ) (h2 : zP2 τ σ) {o : Nat → Nat} (h4 : zP4 τ σ o) {p k c : Nat} (hp : p < zN σ 1595 0) (hk : k < zN σ 133 p) (hc : c < 4) : zf_WP_message F w (ac 9 0) (nI p) (nI k) (nI c) = some (zmsg σ (10 * p + k) c, w) := by
  have a8 := zp_a8 h4 (q := (o p + k) % 10) hp (by omega)
  unfold zf_WP_message
  rw [zC_at hC 9 0 (zP0_a9 h0), zc_st1 hC hI h0 h2 h4 hp hk, zbd_s, zlt_s, if_neg (by simp)]
  match c, hc with
  | 0, _ => rw [if_pos (by decide), zC_at hC 8 _ a8, zC_I hC 1448 8 _ rfl a8, zP4_id h4 p k hp hk]; rfl
  | 1, _ => rw [if_neg (by decide), if_pos (by decide), zC_at hC 8 _ a8, zC_I hC 1449 8 _ rfl a8, zP4_nu h4 p k hp hk]; rfl
  | 2, _ => rw [if_neg (by decide), if_neg (by decide), if_pos (by decide), zC_at hC 8 _ a8, zC_I hC 1452 8 _ rfl a8, zP4_sn h4 p k hp hk]; rfl
  | 3, _ => rw [if_neg (by decide), if_neg (by decide), if_neg (by decide), if_pos (by decide), zC_at hC 8 _ a8, zC_I hC 1450 8 _ rfl a8, zP4_mk h4 p k hp hk, zb_if (zI_mk hI _)]; rfl
theorem zc_msgN (hC : zC ac τ w) (h0 : zP0 τ) {z y c : Int32} (hs : zf_WP_storedAt F w (ac 9 0) z y = some (none, w)) : zf_WP_message F w (ac 9 0) z y c = some (-1, w) := by
  unfold zf_WP_message
  rw [zC_at hC 9 0 (zP0_a9 h0), hs, zbd_s, zlt_s, if_pos rfl]
theorem zc_msg0 (hC : zC ac τ w) (hI : zI σ) (h0 : zP0 τ) (h2 : zP2 τ σ) {o : Nat → Nat} (h4 : zP4 τ σ o) {p k : Nat} {y : Int32} (hp : p < zN σ 1595 0) (hk : k < zN σ 133 p) (hy : zout 4 y) : zf_WP_message F w (ac 9 0) (nI p) (nI k) y = some (-1, w) := by
  unfold zf_WP_message
  rw [zC_at hC 9 0 (zP0_a9 h0), zc_st1 hC hI h0 h2 h4 hp hk, zbd_s, zlt_s, if_neg (by simp), if_neg (show ¬ y = (0 : Int32) from zout_ne (k := 0) (by decide) hy (by decide)), if_neg (show ¬ y = (1 : Int32) from zout_ne (k := 1) (by decide) hy (by decide)), if_neg (show ¬ y = (2 : Int32) from zout_ne (k := 2) (by decide) hy (by decide)), if_neg (show ¬ y = (3 : Int32) from zout_ne (k := 3) (by decide) hy (by decide))]
theorem zo_msg1 (h : zM m am σ w) (hI : zI σ) {p k c : Nat} (hp : p < zN σ 1595 0) (hk : k < zN σ 133 p) (hc : c < 4) : zf_Mo_message F w m (nI p) (nI k) (nI c) = some (zmsg σ (10 * p + k) c, w) := by
  have i1 := zI_kpn hI p
  have i2 := zI_pgn hI
  unfold zf_Mo_message
  rw [zM_at h, zo_isK1 h hI hp hk, zbd_s, if_neg (by decide), if_neg (nI_pos (by omega)), if_pos (show nI c ≤ (3 : Int32) from (nI_leI (b := 3) (by omega) (by omega)).mpr (by omega)), zlt_s, show (10 : Int32) = nI 10 from rfl, zmd]
  match c, hc with
  | 0, _ => rw [if_pos (by decide), zM_at h, zM_R h 1599 134 60 (by decide), zM_ix h 1599 134 60 (by decide) (by omega) (by decide), zM_n h 134 (by decide)]; rfl
  | 1, _ => rw [if_neg (by decide), if_pos (by decide), zM_at h, zM_R h 1600 135 60 (by decide), zM_ix h 1600 135 60 (by decide) (by omega) (by decide), zM_n h 135 (by decide)]; rfl
  | 2, _ => rw [if_neg (by decide), if_neg (by decide), if_pos (by decide), zM_at h, zM_R h 1601 136 60 (by decide), zM_ix h 1601 136 60 (by decide) (by omega) (by decide), zM_n h 136 (by decide)]; rfl
  | 3, _ => rw [if_neg (by decide), if_neg (by decide), if_neg (by decide), zM_at h, zM_R h 1602 202 60 (by decide), zM_ix h 1602 202 60 (by decide) (by omega) (by decide), zM_n h 202 (by decide), zb_if (zI_mk hI _)]; rfl
theorem zo_msgN (h : zM m am σ w) {z y c : Int32} (hs : zf_Mo_isKept F w m z y = some (0, w)) : zf_Mo_message F w m z y c = some (-1, w) := by
  unfold zf_Mo_message
  rw [zM_at h, hs, zbd_s, if_pos rfl]
theorem zo_msg0 (h : zM m am σ w) (hI : zI σ) {p k : Nat} {y : Int32} (hp : p < zN σ 1595 0) (hk : k < zN σ 133 p) (hy : zout 4 y) : zf_Mo_message F w m (nI p) (nI k) y = some (-1, w) := by
  unfold zf_Mo_message
  rw [zM_at h, zo_isK1 h hI hp hk, zbd_s, if_neg (by decide)]
  rcases hy with hy | ⟨h1, h2⟩
  · rw [if_pos hy]
  · rw [if_neg h1, if_neg (show ¬ y ≤ (3 : Int32) from fun q => (Int32.not_lt.mpr q) (zout_gt (n := 3) (by omega) h1 h2))]
theorem zop_message (z y c : Int32) : zop x m (fun w => zf_WP_message F w x z y c) (fun w => zf_Mo_message F w m z y c) := zop_ro fun ac τ am σ w1 hx hC hI hP => by
  subst hx
  obtain ⟨h0, h1, h2, h3, ⟨o, h4⟩, h5, h6, h7, h8⟩ := hP
  have hp := zI_pgn hI
  rcases zin z (n := zN σ 1595 0) (by omega) with ⟨p, hp, rfl⟩ | hz
  · have hk := zI_kpn hI p
    rcases zin y (n := zN σ 133 p) (by omega) with ⟨k, hk, rfl⟩ | hy
    · rcases zin c (n := 4) (by omega) with ⟨c, hc, rfl⟩ | hc
      · exact ⟨_, zc_msg1 hC hI h0 h2 h4 hp hk hc, fun w2 h => zo_msg1 h hI hp hk hc⟩
      · exact ⟨_, zc_msg0 hC hI h0 h2 h4 hp hk hc, fun w2 h => zo_msg0 h hI hp hk hc⟩
    · exact ⟨_, zc_msgN hC h0 (zc_st0 hC hI h0 h2 h4 hp hy), fun w2 h => zo_msgN h (zo_isK0 h hI hp hy)⟩
  · exact ⟨_, zc_msgN hC h0 (zc_stN hC h0 h2 hz), fun w2 h => zo_msgN h (zo_isKN h hz)⟩
/-! sign -/
theorem zc_sg1 (hC : zC ac τ w) (hI : zI σ) (h0 : zP0 τ) (h2 : zP2 τ σ) {o : Nat → Nat} (h4 : zP4 τ σ o) {p k s : Nat} (hp : p < zN σ 1595 0) (hk : k < zN σ 133 p) (hs : s < zN σ 136 (10 * p + k)) : zf_WP_sign F w (ac 9 0) (nI p) (nI k) (nI s) = some (zJ σ 137 (22 * (10 * p + k) + s), w) := by
  have a8 := zp_a8 h4 (q := (o p + k) % 10) hp (by omega)
  have a104 := zp_a104 h4 (q := (o p + k) % 10) hp (by omega)
  have i1 := zI_kmn hI (10 * p + k)
  unfold zf_WP_sign
  rw [zC_at hC 9 0 (zP0_a9 h0), zc_st1 hC hI h0 h2 h4 hp hk, zbd_s, zlt_s, if_neg (by simp), if_neg (nI_pos (by omega)), zC_at hC 8 _ a8, zC_I hC 1452 8 _ rfl a8, zP4_sn h4 p k hp hk, if_pos ((nI_ltI (by omega) (by omega)).mpr hs), zC_at hC 8 _ a8, zC_R hC 1451 8 104 _ rfl rfl a8 (zP4_sr h4 _ (by omega)), zC_ix hC 104 _ a104 (by rw [zP4_sl h4 _ (by omega)]; omega) (by omega), zC_I hC 104 104 _ rfl a104, zP4_sg h4 p k s hp hk hs]
theorem zc_sg0 (hC : zC ac τ w) (hI : zI σ) (h0 : zP0 τ) (h2 : zP2 τ σ) {o : Nat → Nat} (h4 : zP4 τ σ o) {p k : Nat} {y : Int32} (hp : p < zN σ 1595 0) (hk : k < zN σ 133 p) (hy : zout (zN σ 136 (10 * p + k)) y) : zf_WP_sign F w (ac 9 0) (nI p) (nI k) y = some (-1, w) := by
  have a8 := zp_a8 h4 (q := (o p + k) % 10) hp (by omega)
  have i1 := zI_kmn hI (10 * p + k)
  unfold zf_WP_sign
  rw [zC_at hC 9 0 (zP0_a9 h0), zc_st1 hC hI h0 h2 h4 hp hk, zbd_s, zlt_s, if_neg (by simp)]
  rcases hy with hy | ⟨h1, h3⟩
  · rw [if_pos hy]
  · rw [if_neg h1, zC_at hC 8 _ a8, zC_I hC 1452 8 _ rfl a8, zP4_sn h4 p k hp hk, if_neg (zout_nlt (by omega) h1 h3)]
theorem zc_sgN (hC : zC ac τ w) (h0 : zP0 τ) {z y c : Int32} (hs : zf_WP_storedAt F w (ac 9 0) z y = some (none, w)) : zf_WP_sign F w (ac 9 0) z y c = some (-1, w) := by
  unfold zf_WP_sign
  rw [zC_at hC 9 0 (zP0_a9 h0), hs, zbd_s, zlt_s, if_pos rfl]
theorem zo_sg1 (h : zM m am σ w) (hI : zI σ) {p k s : Nat} (hp : p < zN σ 1595 0) (hk : k < zN σ 133 p) (hs : s < zN σ 136 (10 * p + k)) : zf_Mo_sign F w m (nI p) (nI k) (nI s) = some (zJ σ 137 (22 * (10 * p + k) + s), w) := by
  have i1 := zI_kpn hI p
  have i2 := zI_pgn hI
  have i3 := zI_kmn hI (10 * p + k)
  unfold zf_Mo_sign
  rw [zM_at h, zo_isK1 h hI hp hk, zbd_s, if_neg (by decide), if_neg (nI_pos (by omega)), zM_at h, zM_R h 1601 136 60 (by decide), show (10 : Int32) = nI 10 from rfl, zmd, zM_ix h 1601 136 60 (by decide) (by omega) (by decide), zM_n h 136 (by decide), if_pos ((nI_ltI (by omega) (by omega)).mpr hs), zM_at h, zM_R h 1603 137 1320 (by decide), show (22 : Int32) = nI 22 from rfl, zmd, zM_ix h 1603 137 1320 (by decide) (by omega) (by decide), zM_j h 137 (by decide)]
theorem zo_sg0 (h : zM m am σ w) (hI : zI σ) {p k : Nat} {y : Int32} (hp : p < zN σ 1595 0) (hk : k < zN σ 133 p) (hy : zout (zN σ 136 (10 * p + k)) y) : zf_Mo_sign F w m (nI p) (nI k) y = some (-1, w) := by
  have i1 := zI_kpn hI p
  have i2 := zI_pgn hI
  have i3 := zI_kmn hI (10 * p + k)
  unfold zf_Mo_sign
  rw [zM_at h, zo_isK1 h hI hp hk, zbd_s, if_neg (by decide)]
  rcases hy with hy | ⟨h1, h2⟩
  · rw [if_pos hy]
  · rw [if_neg h1, zM_at h, zM_R h 1601 136 60 (by decide), show (10 : Int32) = nI 10 from rfl, zmd, zM_ix h 1601 136 60 (by decide) (by omega) (by decide), zM_n h 136 (by decide), if_neg (zout_nlt (by omega) h1 h2)]
theorem zo_sgN (h : zM m am σ w) {z y c : Int32} (hs : zf_Mo_isKept F w m z y = some (0, w)) : zf_Mo_sign F w m z y c = some (-1, w) := by
  unfold zf_Mo_sign
  rw [zM_at h, hs, zbd_s, if_pos rfl]
theorem zop_sign (z y c : Int32) : zop x m (fun w => zf_WP_sign F w x z y c) (fun w => zf_Mo_sign F w m z y c) := zop_ro fun ac τ am σ w1 hx hC hI hP => by
  subst hx
  obtain ⟨h0, h1, h2, h3, ⟨o, h4⟩, h5, h6, h7, h8⟩ := hP
  have hp := zI_pgn hI
  rcases zin z (n := zN σ 1595 0) (by omega) with ⟨p, hp, rfl⟩ | hz
  · have hk := zI_kpn hI p
    rcases zin y (n := zN σ 133 p) (by omega) with ⟨k, hk, rfl⟩ | hy
    · have hm := zI_kmn hI (10 * p + k)
      rcases zin c (n := zN σ 136 (10 * p + k)) (by omega) with ⟨c, hc, rfl⟩ | hc
      · exact ⟨_, zc_sg1 hC hI h0 h2 h4 hp hk hc, fun w2 h => zo_sg1 h hI hp hk hc⟩
      · exact ⟨_, zc_sg0 hC hI h0 h2 h4 hp hk hc, fun w2 h => zo_sg0 h hI hp hk hc⟩
    · exact ⟨_, zc_sgN hC h0 (zc_st0 hC hI h0 h2 h4 hp hy), fun w2 h => zo_sgN h (zo_isK0 h hI hp hy)⟩
  · exact ⟨_, zc_sgN hC h0 (zc_stN hC h0 h2 hz), fun w2 h => zo_sgN h (zo_isKN h hz)⟩
end ZOPS2
