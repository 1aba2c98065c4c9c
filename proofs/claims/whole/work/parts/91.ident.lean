/-! identity -/
theorem zword_cg {σ σ' : zA} {k : Nat} (e0 : zN σ' 123 k = zN σ 123 k) (e1 : zN σ' 120 (zN σ 123 k) = zN σ 120 (zN σ 123 k)) (e2 : zN σ' 121 (zN σ 123 k) = zN σ 121 (zN σ 123 k)) (e3 : zN σ' 125 k = zN σ 125 k) (e4 : zN σ' 126 k = zN σ 126 k) (e5 : ∀ s, s < zN σ 126 k → zJ σ' 127 (20 * k + s) = zJ σ 127 (20 * k + s)) (j : Nat) : zword σ' k j = zword σ k j ∧ znw σ' k = znw σ k := by
  have hs : ∀ s, zsent σ' k s = zsent σ k s := by
    intro s
    unfold zsent
    rw [e0, e2, e3, e4]
    by_cases h0 : zN σ 121 (zN σ 123 k) = 0
    · rw [if_pos h0, if_pos h0]
      by_cases h1 : s = 0
      · rw [if_pos h1, if_pos h1]
      · rw [if_neg h1, if_neg h1]
        by_cases h2 : s = 1
        · rw [if_pos h2, if_pos h2]
        · rw [if_neg h2, if_neg h2]
          by_cases h3 : s < zN σ 126 k + 2
          · rw [if_pos h3, if_pos h3, show 20 * k + s - 2 = 20 * k + (s - 2) by omega, e5 _ (by omega)]
          · rw [if_neg h3, if_neg h3]
    · rw [if_neg h0, if_neg h0]
      by_cases h1 : s = 0
      · rw [if_pos h1, if_pos h1]
      · rw [if_neg h1, if_neg h1]
        by_cases h3 : s < zN σ 126 k + 1
        · rw [if_pos h3, if_pos h3, show 20 * k + s - 1 = 20 * k + (s - 1) by omega, e5 _ (by omega)]
        · rw [if_neg h3, if_neg h3]
  have hw : zwide σ' (zN σ' 123 k) = zwide σ (zN σ 123 k) := by
    unfold zwide
    rw [e0, e2]
  have hb : zobit σ' k = zobit σ k := by
    funext i
    unfold zobit
    rw [hs, hw]
  constructor
  · unfold zword zaddr
    rw [hb, e0, e1, e2]
  · unfold znw zfront
    rw [hw, e4, e0, e2]
section ZIDEN
variable {ac : Nat → Nat → Nat} {τ : zB} {am : Nat → Nat} {σ : zA} {w w2 : zw_T} {F m x : Nat}
/-- the identity's fields -/
def zidT (τ : zB) (q : Nat) (x1 : Int32) (a b : Nat) : zB := zb_sI (zb_sI (zb_sI (zb_sI (zb_sI (zb_sI (zb_sI (zb_sI (zb_sI (zb_sI (zb_sI τ 1137 q 0 0) 1138 q 0 0) 1128 q 0 x1) 1129 q 0 (nI a)) 1130 q 0 (nI b)) 1131 q 0 (nI (a % 8))) 1132 q 0 (zn_cw (nI (4 * (a / 8) + (if b = 0 then 0 else 3))))) 1133 q 0 (nI (if b = 0 then 0 else 32))) 1134 q 0 (nI (if b = 0 then 11 else 126))) 1135 q 0 (nI (if b = 0 then 4 else 7))) 1136 q 0 (nI (if b = 0 then 12 else 0))
theorem zb_I_ne (τ : zB) {κ i j : Nat} {v : Int32} {k a b : Nat} (h : k ≠ κ) : zb_I (zb_sI τ κ i j v) k a b = zb_I τ k a b := by rw [zb_I_sI, if_neg (fun z => h z.1)]
theorem zc_idi (hF : 2500 ≤ F) (hC : zC ac τ w) {q : Nat} (a3 : zb_a τ 3 q = true) (x1 : Int32) {a b : Nat} (ha : a < 2097152) (hb : b < 2) : ∃ w', zf_Id_init F w (ac 3 q) x1 (nI a) (nI b) = some w' ∧ zC ac (zidT τ q x1 a b) w' := by
  have c1 := zC_sI hC 1137 3 q rfl a3 0 0
  have c2 := zC_sI c1 1138 3 q rfl a3 0 0
  have c3 := zC_sI c2 1128 3 q rfl a3 0 x1
  have c4 := zC_sI c3 1129 3 q rfl a3 0 (nI a)
  have e8 : nI a / (8 : Int32) = nI (a / 8) := pk_div (d := 8) (by omega) (by decide) (by decide)
  have e9 : zi_rem (nI a) (8 : Int32) = nI (a % 8) := zq_rem (d := 8) (by omega) (by decide) (by decide)
  have e10 : nI (a / 8) * (4 : Int32) = nI (4 * (a / 8)) := (pk_mul (a / 8) 4).trans (congrArg nI (Nat.mul_comm _ _))
  rcases (show b = 0 ∨ b = 1 by omega) with rfl | rfl
  · have c5 := zC_sI c4 1130 3 q rfl a3 0 (0 : Int32)
    have c6 := zC_sI c5 1131 3 q rfl a3 0 (nI (a % 8))
    have c7 := zC_sI c6 1132 3 q rfl a3 0 (zn_cw (nI (4 * (a / 8) + 0)))
    have c8 := zC_sI c7 1133 3 q rfl a3 0 (0 : Int32)
    have c9 := zC_sI c8 1134 3 q rfl a3 0 (11 : Int32)
    have c10 := zC_sI c9 1135 3 q rfl a3 0 (4 : Int32)
    have c11 := zC_sI c10 1136 3 q rfl a3 0 (12 : Int32)
    have k6 := zC_I c6 1130 3 q rfl a3 0
    rw [zb_I_ne _ (by decide), zb_I_sI, if_pos ⟨rfl, rfl, rfl⟩] at k6
    have k7 := zC_I c7 1130 3 q rfl a3 0
    rw [zb_I_ne _ (by decide), zb_I_ne _ (by decide), zb_I_sI, if_pos ⟨rfl, rfl, rfl⟩] at k7
    have k8 := zC_I c8 1130 3 q rfl a3 0
    rw [zb_I_ne _ (by decide), zb_I_ne _ (by decide), zb_I_ne _ (by decide), zb_I_sI, if_pos ⟨rfl, rfl, rfl⟩] at k8
    have k9 := zC_I c9 1130 3 q rfl a3 0
    rw [zb_I_ne _ (by decide), zb_I_ne _ (by decide), zb_I_ne _ (by decide), zb_I_ne _ (by decide), zb_I_sI, if_pos ⟨rfl, rfl, rfl⟩] at k9
    have k10 := zC_I c10 1130 3 q rfl a3 0
    rw [zb_I_ne _ (by decide), zb_I_ne _ (by decide), zb_I_ne _ (by decide), zb_I_ne _ (by decide), zb_I_ne _ (by decide), zb_I_sI, if_pos ⟨rfl, rfl, rfl⟩] at k10
    refine ⟨_, ?_, c11⟩
    unfold zf_Id_init
    rw [zC_at hC 3 q a3, zlt_s, zC_at c1 3 q a3, zlt_s, zC_at c2 3 q a3, zlt_s, zC_at c3 3 q a3, zlt_s, if_neg (by decide)]
    unfold zf_Id_init_j35
    rw [zb_0, zC_at c4 3 q a3, zlt_s, zC_at c5 3 q a3, zlt_s, e9, zC_at c6 3 q a3, k6, if_pos (by decide), e8, e10]
    unfold zf_Id_init_j65
    rw [show nI (4 * (a / 8)) + (0 : Int32) = nI (4 * (a / 8) + 0) from nI_add _ 0, zn_cwW hF, zbd_s, zC_at c6 3 q a3, zlt_s, zC_at c7 3 q a3, k7, if_pos (by decide)]
    unfold zf_Id_init_j86
    rw [zC_at c7 3 q a3, zlt_s, zC_at c8 3 q a3, k8, if_pos (by decide)]
    unfold zf_Id_init_j104
    rw [zC_at c8 3 q a3, zlt_s, zC_at c9 3 q a3, k9, if_pos (by decide)]
    unfold zf_Id_init_j121
    rw [zC_at c9 3 q a3, zlt_s, zC_at c10 3 q a3, k10, if_pos (by decide)]
    unfold zf_Id_init_j138
    rw [zC_at c10 3 q a3, zlt_s]
  · have c5 := zC_sI c4 1130 3 q rfl a3 0 (1 : Int32)
    have c6 := zC_sI c5 1131 3 q rfl a3 0 (nI (a % 8))
    have c7 := zC_sI c6 1132 3 q rfl a3 0 (zn_cw (nI (4 * (a / 8) + 3)))
    have c8 := zC_sI c7 1133 3 q rfl a3 0 (32 : Int32)
    have c9 := zC_sI c8 1134 3 q rfl a3 0 (126 : Int32)
    have c10 := zC_sI c9 1135 3 q rfl a3 0 (7 : Int32)
    have c11 := zC_sI c10 1136 3 q rfl a3 0 (0 : Int32)
    have k6 := zC_I c6 1130 3 q rfl a3 0
    rw [zb_I_ne _ (by decide), zb_I_sI, if_pos ⟨rfl, rfl, rfl⟩] at k6
    have k7 := zC_I c7 1130 3 q rfl a3 0
    rw [zb_I_ne _ (by decide), zb_I_ne _ (by decide), zb_I_sI, if_pos ⟨rfl, rfl, rfl⟩] at k7
    have k8 := zC_I c8 1130 3 q rfl a3 0
    rw [zb_I_ne _ (by decide), zb_I_ne _ (by decide), zb_I_ne _ (by decide), zb_I_sI, if_pos ⟨rfl, rfl, rfl⟩] at k8
    have k9 := zC_I c9 1130 3 q rfl a3 0
    rw [zb_I_ne _ (by decide), zb_I_ne _ (by decide), zb_I_ne _ (by decide), zb_I_ne _ (by decide), zb_I_sI, if_pos ⟨rfl, rfl, rfl⟩] at k9
    have k10 := zC_I c10 1130 3 q rfl a3 0
    rw [zb_I_ne _ (by decide), zb_I_ne _ (by decide), zb_I_ne _ (by decide), zb_I_ne _ (by decide), zb_I_ne _ (by decide), zb_I_sI, if_pos ⟨rfl, rfl, rfl⟩] at k10
    refine ⟨_, ?_, c11⟩
    unfold zf_Id_init
    rw [zC_at hC 3 q a3, zlt_s, zC_at c1 3 q a3, zlt_s, zC_at c2 3 q a3, zlt_s, zC_at c3 3 q a3, zlt_s, if_pos (by decide)]
    unfold zf_Id_init_j35
    rw [zb_1, zC_at c4 3 q a3, zlt_s, zC_at c5 3 q a3, zlt_s, e9, zC_at c6 3 q a3, k6, if_neg (by decide), e8, e10]
    unfold zf_Id_init_j65
    rw [show nI (4 * (a / 8)) + (3 : Int32) = nI (4 * (a / 8) + 3) from nI_add _ 3, zn_cwW hF, zbd_s, zC_at c6 3 q a3, zlt_s, zC_at c7 3 q a3, k7, if_neg (by decide)]
    unfold zf_Id_init_j86
    rw [zC_at c7 3 q a3, zlt_s, zC_at c8 3 q a3, k8, if_neg (by decide)]
    unfold zf_Id_init_j104
    rw [zC_at c8 3 q a3, zlt_s, zC_at c9 3 q a3, k9, if_neg (by decide)]
    unfold zf_Id_init_j121
    rw [zC_at c9 3 q a3, zlt_s, zC_at c10 3 q a3, k10, if_neg (by decide)]
    unfold zf_Id_init_j138
    rw [zC_at c10 3 q a3, zlt_s]
theorem zc_auL (hC : zC ac τ w) (hI : zI σ) (h0 : zP0 τ) (h1 : zP1 τ σ) {a : Nat} (ha : a < 2097152) : ∀ c n k, k + c = zN σ 1576 0 → c < n → zf_WP_isAddressUsed_L2 F n w (ac 9 0) (nI a) (nI k) = some (zd (zany (fun j => decide (zN σ 120 j = a)) k c), w) := by
  have i1 := zI_idn hI
  intro c
  induction c with
  | zero =>
    intro n k e1 e2
    obtain ⟨n, rfl⟩ : ∃ q, n = q + 1 := ⟨n - 1, by omega⟩
    unfold zf_WP_isAddressUsed_L2
    rw [zC_at hC 9 0 (zP0_a9 h0), zC_I hC 1513 9 0 rfl (zP0_a9 h0), zP1_n h1, if_pos ((nI_leI (by omega) (by omega)).mpr (by omega)), zb_0]
    rfl
  | succ c ih =>
    intro n k e1 e2
    obtain ⟨n, rfl⟩ : ∃ q, n = q + 1 := ⟨n - 1, by omega⟩
    have hk : k < zN σ 1576 0 := by omega
    have a3 := zp_a3 h1 hk
    have hj := zI_adr hI k
    unfold zf_WP_isAddressUsed_L2
    rw [zC_at hC 9 0 (zP0_a9 h0), zC_I hC 1513 9 0 rfl (zP0_a9 h0), zP1_n h1, if_neg (zn_le (by omega) (by omega) (by omega)), zC_at hC 9 0 (zP0_a9 h0), zC_R hC 1512 9 402 0 rfl rfl (zP0_a9 h0) (zP0_r1512 h0), zC_ix hC 402 0 (zP0_a402 h0) (by rw [zP0_l402 h0]; omega) (by omega), zC_R hC 402 402 3 0 rfl rfl (zP0_a402 h0) (zP1_r h1 k hk), zC_at hC 3 k a3, zC_I hC 1129 3 k rfl a3, zP1_ad h1 k hk]
    unfold zany
    by_cases hq : zN σ 120 k = a
    · rw [if_pos (by rw [hq]), zb_1, decide_eq_true hq, Bool.true_or]
      rfl
    · rw [if_neg (fun z => hq ((nI_eqI (by omega) (by omega)).mp z)), zlt_s, zs1, ih n (k + 1) (by omega) (by omega), decide_eq_false hq, Bool.false_or]
/-- the numbers with an identity more -/
def zidS (σ : zA) (a b : Nat) : zA := zN_s (zN_s (zN_s σ 120 (zN σ 1576 0) a) 121 (zN σ 1576 0) b) 1576 0 (zN σ 1576 0 + 1)
theorem zo_idL (h : zM m am σ w) (hI : zI σ) (hl : zN σ 1576 0 < 12) {a b : Nat} (ha : a < 2097152) : ∀ c n k, k + c = zN σ 1576 0 → c < n → (zany (fun j => decide (zN σ 120 j = a)) k c = true → zf_Mo_identity_L41 F n w m (nI a) (nI b) (nI k) = some (-1, w)) ∧ (zany (fun j => decide (zN σ 120 j = a)) k c = false → ∃ w', zf_Mo_identity_L41 F n w m (nI a) (nI b) (nI k) = some (nI (zN σ 1576 0), w') ∧ zM m am (zidS σ a b) w') := by
  have i1 := zI_idn hI
  intro c
  induction c with
  | zero =>
    intro n k e1 e2
    obtain ⟨n, rfl⟩ : ∃ q, n = q + 1 := ⟨n - 1, by omega⟩
    refine ⟨fun q => (by cases q), fun _ => ?_⟩
    have m1 := zM_sn h 120 (by decide) (zN σ 1576 0) a
    have m2 := zM_sn m1 121 (by decide) (zN σ 1576 0) b
    have m3 := zM_sfn m2 1576 (by decide) (by decide) (zN σ 1576 0 + 1)
    refine ⟨_, ?_, m3⟩
    have k1 : zN (zN_s σ 120 (zN σ 1576 0) a) 1576 0 = zN σ 1576 0 := rfl
    have k2 : zN (zN_s (zN_s σ 120 (zN σ 1576 0) a) 121 (zN σ 1576 0) b) 1576 0 = zN σ 1576 0 := rfl
    have k3 : zN (zN_s (zN_s (zN_s σ 120 (zN σ 1576 0) a) 121 (zN σ 1576 0) b) 1576 0 (zN σ 1576 0 + 1)) 1576 0 = zN σ 1576 0 + 1 := rfl
    unfold zf_Mo_identity_L41
    rw [zM_at h, zM_fn h 1576 (by decide) (by decide), if_pos ((nI_leI (by omega) (by omega)).mpr (by omega)), zM_at h, zM_at h, zM_fn h 1576 (by decide) (by decide), zM_R h 1577 120 12 (by decide), zM_ix h 1577 120 12 (by decide) (by omega) (by decide), zlt_s, zM_at m1, zM_at m1, zM_fn m1 1576 (by decide) (by decide), k1, zM_R m1 1578 121 12 (by decide), zM_ix m1 1578 121 12 (by decide) (by omega) (by decide), zlt_s, zM_at m2, zM_at m2, zM_fn m2 1576 (by decide) (by decide), k2, zs1, zlt_s, zM_at m3, zM_fn m3 1576 (by decide) (by decide), k3, show nI (zN σ 1576 0 + 1) - (1 : Int32) = nI (zN σ 1576 0) from pk_sub (a := zN σ 1576 0 + 1) (b := 1) (by omega)]
  | succ c ih =>
    intro n k e1 e2
    obtain ⟨n, rfl⟩ : ∃ q, n = q + 1 := ⟨n - 1, by omega⟩
    have hj := zI_adr hI k
    have st : zf_Mo_identity_L41 F (n + 1) w m (nI a) (nI b) (nI k) = if nI (zN σ 120 k) = nI a then some ((-1 : Int32), w) else zf_Mo_identity_L41 F n w m (nI a) (nI b) (nI (k + 1)) := by
      rw [zf_Mo_identity_L41, zM_at h, zM_fn h 1576 (by decide) (by decide), if_neg (zn_le (by omega) (by omega) (by omega)), zM_at h, zM_R h 1577 120 12 (by decide), zM_ix h 1577 120 12 (by decide) (by omega) (by decide), zM_n h 120 (by decide), zlt_s, zs1]
    rw [st]
    unfold zany
    by_cases hq : zN σ 120 k = a
    · rw [if_pos (by rw [hq]), decide_eq_true hq, Bool.true_or]
      exact ⟨fun _ => rfl, fun z => by cases z⟩
    · rw [if_neg (fun z => hq ((nI_eqI (by omega) (by omega)).mp z)), decide_eq_false hq, Bool.false_or]
      exact ih n (k + 1) (by omega) (by omega)
end ZIDEN
