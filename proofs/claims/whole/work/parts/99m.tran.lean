/-! transmit: what the model reads of a message -/
theorem zn_cwb (d : Int32) {i : Nat} (hi : i < 21) : bt (zn_cw d) (11 + i) = bt d i := by
  have h1 : bt (zi_shl d (nI 11)) (11 + i) = bt d i := by
    unfold zi_shl
    rw [b_shl 11 (by decide) _ (by omega), decide_eq_true (by omega), Nat.add_sub_cancel_left, Bool.true_and]
  have h2 : bt (zi_shl (zn_rr 21 (zi_ushr (zi_shl d (nI 11)) (nI 1))) (nI 1)) (11 + i) = false := by
    have e := congrArg (fun z => bt z (11 + i)) (zn_hi (zi_shl d (nI 11)))
    have e : bt (zi_shl (zn_rr 21 (zi_ushr (zi_shl d (nI 11)) (nI 1))) (nI 1) &&& 4294965249) (11 + i) = bt 0 (11 + i) := e
    rw [b_and, zn_m11 _ (by omega), b_0, decide_eq_true (by omega : 11 ≤ 11 + i), Bool.or_true, Bool.and_true] at e
    exact e
  have h3 : bt (zn_pb (zn_cc d)) (11 + i) = false := by
    unfold zn_pb
    rw [zn_if _ _ (by omega), decide_eq_false (by omega), Bool.false_and]
  unfold zn_cw
  rw [b_or, h3, Bool.or_false]
  unfold zn_cc
  rw [b_or]
  have h1 : bt (zi_shl d 11) (11 + i) = bt d i := h1
  have h2 : bt (zi_shl (zn_rr 21 (zi_ushr (zi_shl d 11) 1)) 1) (11 + i) = false := h2
  rw [h1, h2, Bool.or_false]
theorem zn_cwu {d : Nat} (hd : d < 2097152) : zi_ushr (zn_cw (nI d)) 11 = nI d := by
  apply b_ext
  intro i hi
  refine (b_ushr 11 (by decide) (zn_cw (nI d)) i).trans ?_
  by_cases h : i < 21
  · exact zn_cwb _ h
  · rw [b_big (by omega), zn_bt d i hi, Nat.div_eq_of_lt]
    · rfl
    · exact Nat.lt_of_lt_of_le hd (Nat.pow_le_pow_right (n := 2) (i := 21) (by decide) (by omega))
theorem zn_idl {d : Nat} (hd : d < 2097152) (h : zn_cw (nI d) = 2055848343) : d = 1003832 := by
  have e := zn_cwu hd
  rw [h, show zi_ushr (2055848343 : Int32) 11 = nI 1003832 from by decide] at e
  exact ((nI_eqI (by decide) (by omega)).mp e).symm
theorem zword_ni {σ : zA} (hI : zI σ) {k : Nat} (hk : k < zN σ 1580 0) (j : Nat) : zword σ k j ≠ 2055848343 := by
  have i1 := zI_mto hI k hk
  have i2 := zI_res hI _ i1
  have i3 := zI_adr hI (zN σ 123 k)
  unfold zword
  by_cases hj : j = 0
  · rw [if_pos hj]
    intro e
    have e2 : zaddr σ (zN σ 123 k) < 2097152 := by
      unfold zaddr
      split <;> omega
    have := zn_idl e2 e
    unfold zaddr at this
    revert this
    split <;> omega
  · rw [if_neg hj]
    intro e
    have l := zdat_lt (zobit σ k) 20 (20 * (j - 1)) 1 1 (by decide)
    have := zn_idl l e
    rw [zdat_lin] at this
    omega
section ZTR1
variable {am : Nat → Nat} {σ : zA} {w w2 : zw_T} {F m x : Nat}
theorem zo_ad (h : zM m am σ w) (hI : zI σ) {i : Nat} (hi : i < 12) : zf_Mo_addressData F w m (nI i) = some (nI (zaddr σ i), w) := by
  have i1 := zI_adr hI i
  have i2 := zI_knd hI i
  have e : (4 : Int32) * (nI (zN σ 120 i) / (8 : Int32)) = nI (4 * (zN σ 120 i / 8)) := by
    show nI 4 * (nI (zN σ 120 i) / nI 8) = _
    rw [pk_div (by omega) (by decide) (by decide), pk_mul]
  unfold zf_Mo_addressData
  rw [zM_at h, zM_R h 1577 120 12 (by decide), zM_ix h 1577 120 12 (by decide) hi (by decide), zM_at h, zM_R h 1578 121 12 (by decide), zM_ix h 1578 121 12 (by decide) hi (by decide), zM_n h 121 (by decide), zM_n h 120 (by decide), e]
  unfold zaddr
  by_cases hz : zN σ 121 i = 0
  · rw [if_pos ((zn_z (by omega)).mpr hz), if_pos hz]
    unfold zf_Mo_addressData_j25
    rw [show (0 : Int32) = nI 0 from rfl, nI_add]
  · rw [if_neg (fun q => hz ((zn_z (by omega)).mp q)), if_neg hz]
    unfold zf_Mo_addressData_j25
    rw [show (3 : Int32) = nI 3 from rfl, nI_add]
theorem zo_wo (h : zM m am σ w) (hI : zI σ) {k : Nat} (hk : k < zN σ 1580 0) : zf_Mo_wordsOf F w m (nI k) = some (nI (znw σ k), w) := by
  have i1 := zI_msn hI
  have i2 := zI_mto hI k hk
  have i3 := zI_idn hI
  have i4 := zI_mle hI k
  have i5 := zI_knd hI (zN σ 123 k)
  unfold zf_Mo_wordsOf
  rw [zM_at h, zM_at h, zM_R h 1581 123 200 (by decide), zM_ix h 1581 123 200 (by decide) (by omega) (by decide), zM_n h 123 (by decide), zM_R h 1578 121 12 (by decide), zM_ix h 1578 121 12 (by decide) (by omega) (by decide), zM_n h 121 (by decide)]
  unfold znw zfront zwide
  by_cases hz : zN σ 121 (zN σ 123 k) = 0
  · rw [if_pos ((zn_z (by omega)).mpr hz), zM_at h, zM_R h 1584 126 200 (by decide), zM_ix h 1584 126 200 (by decide) (by omega) (by decide), zM_n h 126 (by decide), if_pos hz, if_pos hz]
    unfold zf_Mo_wordsOf_j38
    rw [zlt_s]
    show some (nI 1 + (nI 4 * (nI (zN σ 126 k) + nI 2) + nI 19) / nI 20, w) = _
    rw [nI_add, pk_mul, nI_add, pk_div (by omega) (by decide) (by decide), nI_add, Nat.mul_comm 4]
  · rw [if_neg (fun q => hz ((zn_z (by omega)).mp q)), zM_at h, zM_R h 1584 126 200 (by decide), zM_ix h 1584 126 200 (by decide) (by omega) (by decide), zM_n h 126 (by decide), if_neg hz, if_neg hz]
    unfold zf_Mo_wordsOf_j38
    rw [zlt_s]
    show some (nI 1 + (nI 7 * (nI (zN σ 126 k) + nI 1) + nI 19) / nI 20, w) = _
    rw [nI_add, pk_mul, nI_add, pk_div (by omega) (by decide) (by decide), nI_add, Nat.mul_comm 7]
theorem znw_le (hI : zI σ) (k : Nat) : 1 ≤ znw σ k ∧ znw σ k ≤ 9 := by
  have i4 := zI_mle hI k
  unfold znw zfront zwide
  split <;> omega
theorem zo_og (h : zM m am σ w) (hI : zI σ) {k s : Nat} (hk : k < zN σ 1580 0) (hs : s < 1000000) : zf_Mo_outgoing F w m (nI k) (nI s) = some (zsent σ k s, w) := by
  have i1 := zI_msn hI
  have i2 := zI_mto hI k hk
  have i3 := zI_idn hI
  have i4 := zI_mle hI k
  have i5 := zI_knd hI (zN σ 123 k)
  have i6 := zI_mnu hI k
  unfold zf_Mo_outgoing
  rw [zM_at h, zM_at h, zM_R h 1581 123 200 (by decide), zM_ix h 1581 123 200 (by decide) (by omega) (by decide), zM_n h 123 (by decide), zM_R h 1578 121 12 (by decide), zM_ix h 1578 121 12 (by decide) (by omega) (by decide), zM_n h 121 (by decide)]
  unfold zsent
  by_cases hz : zN σ 121 (zN σ 123 k) = 0
  · rw [if_pos ((zn_z (by omega)).mpr hz), if_pos hz]
    by_cases h0 : s = 0
    · rw [if_pos ((zn_z (by omega)).mpr h0), if_pos h0, zM_at h, zM_R h 1583 125 200 (by decide), zM_ix h 1583 125 200 (by decide) (by omega) (by decide), zM_n h 125 (by decide), show (10 : Int32) = nI 10 from rfl, pk_div (by omega) (by decide) (by decide)]
    rw [if_neg (fun q => h0 ((zn_z (by omega)).mp q)), if_neg h0]
    by_cases h1 : s = 1
    · rw [if_pos (show nI s = (1 : Int32) from (nI_eqI (b := 1) (by omega) (by decide)).mpr h1), if_pos h1, zM_at h, zM_R h 1583 125 200 (by decide), zM_ix h 1583 125 200 (by decide) (by omega) (by decide), zM_n h 125 (by decide), show (10 : Int32) = nI 10 from rfl, zq_rem (by omega) (by decide) (by decide)]
    rw [if_neg (show ¬ nI s = (1 : Int32) from fun q => h1 ((nI_eqI (b := 1) (by omega) (by decide)).mp q)), if_neg h1, zM_at h, zM_R h 1584 126 200 (by decide), zM_ix h 1584 126 200 (by decide) (by omega) (by decide), zM_n h 126 (by decide), show (2 : Int32) = nI 2 from rfl, nI_add]
    by_cases h2 : s < zN σ 126 k + 2
    · rw [if_neg (zn_le (by omega) (by omega) (by omega)), if_pos h2, zM_at h, zM_R h 1585 127 4000 (by decide), show (20 : Int32) = nI 20 from rfl, zmd, pk_sub (by omega), zM_ix h 1585 127 4000 (by decide) (by omega) (by decide), zM_j h 127 (by decide)]
    · rw [if_pos ((nI_leI (by omega) (by omega)).mpr (by omega)), if_neg h2]
  · rw [if_neg (fun q => hz ((zn_z (by omega)).mp q)), if_neg hz]
    by_cases h0 : s = 0
    · rw [if_pos ((zn_z (by omega)).mpr h0), if_pos h0, zM_at h, zM_R h 1583 125 200 (by decide), zM_ix h 1583 125 200 (by decide) (by omega) (by decide), zM_n h 125 (by decide), show (32 : Int32) = nI 32 from rfl, nI_add]
    rw [if_neg (fun q => h0 ((zn_z (by omega)).mp q)), if_neg h0, zM_at h, zM_R h 1584 126 200 (by decide), zM_ix h 1584 126 200 (by decide) (by omega) (by decide), zM_n h 126 (by decide), show (1 : Int32) = nI 1 from rfl, nI_add]
    by_cases h2 : s < zN σ 126 k + 1
    · rw [if_neg (zn_le (by omega) (by omega) (by omega)), if_pos h2, zM_at h, zM_R h 1585 127 4000 (by decide), show (20 : Int32) = nI 20 from rfl, zmd, pk_sub (by omega), zM_ix h 1585 127 4000 (by decide) (by omega) (by decide), zM_j h 127 (by decide)]
    · rw [if_pos ((nI_leI (by omega) (by omega)).mpr (by omega)), if_neg h2]
theorem zo_ob (h : zM m am σ w) (hI : zI σ) {k i : Nat} (hk : k < zN σ 1580 0) (hi : i < 1000000) : zf_Mo_outBit F w m (nI k) (nI i) = some (if zobit σ k i = true then 1 else 0, w) := by
  have i1 := zI_msn hI
  have i2 := zI_mto hI k hk
  have i3 := zI_idn hI
  have i5 := zI_knd hI (zN σ 123 k)
  unfold zf_Mo_outBit
  rw [zM_at h, zM_at h, zM_R h 1581 123 200 (by decide), zM_ix h 1581 123 200 (by decide) (by omega) (by decide), zM_n h 123 (by decide), zM_R h 1578 121 12 (by decide), zM_ix h 1578 121 12 (by decide) (by omega) (by decide), zM_n h 121 (by decide)]
  unfold zobit zwide
  by_cases hz : zN σ 121 (zN σ 123 k) = 0
  · rw [if_pos ((zn_z (by omega)).mpr hz), if_pos hz]
    unfold zf_Mo_outBit_j20 zf_nz
    rw [zlt_s, if_neg (by decide), zM_at h, show (4 : Int32) = nI 4 from rfl, pk_div (by omega) (by decide) (by decide), zo_og h hI hk (by omega), zbd_s, if_neg (by decide), zq_rem (by omega) (by decide) (by decide), zn_s1 _ (by omega)]
  · rw [if_neg (fun q => hz ((zn_z (by omega)).mp q)), if_neg hz]
    unfold zf_Mo_outBit_j20 zf_nz
    rw [zlt_s, if_neg (by decide), zM_at h, show (7 : Int32) = nI 7 from rfl, pk_div (by omega) (by decide) (by decide), zo_og h hI hk (by omega), zbd_s, if_neg (by decide), zq_rem (by omega) (by decide) (by decide), zn_s1 _ (by omega)]
end ZTR1
