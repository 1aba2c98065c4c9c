/-! transmit: the class lays a message -/
def zLR (b : Nat) (τ : zB) (σ : zA) : Prop := zb_I τ 1193 0 0 = nI (16 * b) ∧ (∀ j, j < 64 → zb_I τ 101 0 j = zJ σ 129 j) ∧ (∀ j, j < 64 → (zN σ 201 j = 0 ↔ zJ σ 129 j = 2055848343)) ∧ (∀ j, j < 64 → zN σ 201 j < 2) ∧ (∀ i, i < zN σ 1576 0 → zb_I τ 1138 i 0 = zJ σ 141 i) ∧ ∀ i, i < zN σ 1576 0 → zJ σ 141 i = -1 ∨ ∃ e, e ≤ 16 * b ∧ zJ σ 141 i = nI e
theorem zC_cp {ρ : Type} {ac : Nat → Nat → Nat} {τ : zB} {w : zw_T} (h : zC ac τ w) (k0 k1 i j : Nat) (e0 : zrw k0 = k0) (e1 : zrw k1 = k1) (a0 : zb_a τ k0 i = true) (a1 : zb_a τ k1 j = true) {sp dp n : Nat} (h1 : sp + n ≤ zb_l τ k0 i) (h2 : dp + n ≤ zb_l τ k1 j) (b1 : zb_l τ k0 i < 2 ^ 31) (b2 : zb_l τ k1 j < 2 ^ 31) {K : zw_T → Option ρ} : zf_cp w k0 k1 (some (ac k0 i)) (nI sp) (some (ac k1 j)) (nI dp) (nI n) K = K (zw_sF w k1 (ac k1 j) (va_cpy (zb_I τ k0 i) (zb_I τ k1 j) sp dp n)) := by
  have t0 := (h.1 k0 i a0).1
  have t1 := (h.1 k1 j a1).1
  have f0 : zw_I w k0 (ac k0 i) = zb_I τ k0 i := zC_F h k0 k0 i e0 a0
  have f1 : zw_I w k1 (ac k1 j) = zb_I τ k1 j := zC_F h k1 k1 j e1 a1
  unfold zf_cp
  simp only [t0, t1, f0, f1, nI_clamp (show n < 2 ^ 31 by omega), nI_clamp (show sp < 2 ^ 31 by omega), nI_clamp (show dp < 2 ^ 31 by omega)]
  rw [if_pos ⟨trivial, trivial, nI_pos (by omega), nI_pos (by omega), nI_pos (by omega), h1, h2⟩]
section ZTR3
variable {ac : Nat → Nat → Nat} {τ : zB} {σ : zA} {w : zw_T} {F : Nat}
theorem zc_af (hC : zC ac τ w) (h0 : zP0 τ) {b : Nat} (hL : zLR b τ σ) {pl L : Nat} (hp : pl + L ≤ 64) : ∀ c n q, q + c = pl + L → c < n → zf_Ly_areFree_L2 F n w (ac 4 0) (nI pl) (nI L) (nI q) = some (zd (!zany (fun q => !decide (zN σ 201 q = 0)) q c), w) := by
  obtain ⟨l1, l2, l3, l4, l5, l6⟩ := hL
  clear l6
  intro c
  induction c with
  | zero =>
    intro n q e1 e2
    obtain ⟨n, rfl⟩ : ∃ q, n = q + 1 := ⟨n - 1, by omega⟩
    unfold zf_Ly_areFree_L2
    rw [nI_add, if_pos ((nI_leI (by omega) (by omega)).mpr (by omega)), zb_1]
    rfl
  | succ c ih =>
    intro n q e1 e2
    obtain ⟨n, rfl⟩ : ∃ q, n = q + 1 := ⟨n - 1, by omega⟩
    have l3q := l3 q (by omega)
    unfold zf_Ly_areFree_L2
    rw [nI_add, if_neg (zn_le (by omega) (by omega) (by omega)), zC_at hC 4 0 (zP0_a4 h0), zC_R hC 1192 4 101 0 rfl rfl (zP0_a4 h0) (zP0_r1192 h0), zC_ix hC 101 0 (zP0_a101 h0) (by rw [zP0_l101 h0]; omega) (by omega), zC_I hC 101 101 0 rfl (zP0_a101 h0), l2 q (by omega)]
    unfold zany
    by_cases hz : zN σ 201 q = 0
    · rw [if_pos (l3q.mp hz), decide_eq_true hz, Bool.not_true, Bool.false_or, zlt_s, zs1, ih n (q + 1) (by omega) (by omega)]
    · rw [if_neg (fun z => hz (l3q.mpr z)), decide_eq_false hz, Bool.not_false, Bool.true_or, zb_0]
      rfl
theorem zfit_no {k b e q : Nat} (h : ¬ e + znw σ k ≤ 16 * b) (hq : e ≤ q) : zfit σ k b q = false := by
  unfold zfit
  rw [decide_eq_false (show ¬ q + znw σ k ≤ 16 * b by omega), Bool.false_and, Bool.and_false]
theorem zc_fp (hF : 2500 ≤ F) (hC : zC ac τ w) (hI : zI σ) (h0 : zP0 τ) (h1 : zP1 τ σ) {b : Nat} (hb : b ≤ 4) (hL : zLR b τ σ) {k : Nat} (hk : k < zN σ 1580 0) : ∀ c n e, e + c = 16 * b → c < n → zf_Ly_findPlace_L5 F n w (ac 4 0) (some (ac 3 (zN σ 123 k))) (nI (znw σ k)) (nI e) = some ((zplace (zfit σ k b) e c).elim (-1) nI, w) := by
  have i0 := znw_le hI k
  have i2 := zI_mto hI k hk
  have i4 := zI_adr hI (zN σ 123 k)
  have a3 := zp_a3 h1 i2
  have l1 := hL.1
  intro c
  induction c with
  | zero =>
    intro n e e1 e2
    obtain ⟨n, rfl⟩ : ∃ q, n = q + 1 := ⟨n - 1, by omega⟩
    unfold zf_Ly_findPlace_L5
    rw [zC_at hC 4 0 (zP0_a4 h0), zC_I hC 1193 4 0 rfl (zP0_a4 h0), l1, nI_add, if_pos ((nI_ltI (by omega) (by omega)).mpr (by omega))]
    rfl
  | succ c ih =>
    intro n e e1 e2
    obtain ⟨n, rfl⟩ : ∃ q, n = q + 1 := ⟨n - 1, by omega⟩
    have ih' := ih n (e + 1) (by omega) (by omega)
    have er : zi_rem (nI e) (16 : Int32) / (2 : Int32) = nI (e % 16 / 2) := by
      show zi_rem (nI e) (nI 16) / nI 2 = _
      rw [zq_rem (by omega) (by decide) (by decide), pk_div (by omega) (by decide) (by decide)]
    rw [zf_Ly_findPlace_L5, zC_at hC 4 0 (zP0_a4 h0), zC_I hC 1193 4 0 rfl (zP0_a4 h0), l1, nI_add]
    by_cases q2 : e + znw σ k ≤ 16 * b
    · rw [if_neg (zn_lt (by omega) (by omega) (by omega)), zC_at hC 3 _ a3, er, zC_I hC 1131 3 _ rfl a3, zP1_fr h1 _ i2]
      unfold zplace
      by_cases q1 : e % 16 / 2 = zN σ 120 (zN σ 123 k) % 8
      · rw [if_pos (by rw [q1]), zC_at hC 4 0 (zP0_a4 h0)]
        unfold zf_Ly_areFree
        rw [zlt_s, zc_af hC h0 hL (by omega) (znw σ k) F e rfl (by omega), zbd_s]
        have ef : zfit σ k b e = !zany (fun q => !decide (zN σ 201 q = 0)) e (znw σ k) := by
          unfold zfit
          rw [decide_eq_true q1, decide_eq_true q2, Bool.true_and, Bool.true_and]
        rw [← ef]
        cases hf : zfit σ k b e with
        | true =>
          rw [if_neg (by decide), if_pos rfl]
          rfl
        | false =>
          rw [if_pos (by decide), if_neg (by decide)]
          unfold zf_Ly_findPlace_j39
          rw [zlt_s, zs1, ih']
      · have ef : zfit σ k b e = false := by
          unfold zfit
          rw [decide_eq_false q1, Bool.false_and]
        rw [if_neg (fun z => q1 ((nI_eqI (by omega) (by omega)).mp z)), ef, if_neg (by decide)]
        unfold zf_Ly_findPlace_j39
        rw [zlt_s, zs1, ih']
    · rw [if_pos ((nI_ltI (by omega) (by omega)).mpr (by omega)), zplace_n (c + 1) e (fun q hq => zfit_no q2 hq)]
      rfl
theorem zc_lyN (hC : zC ac τ w) {k i : Nat} {x3 : Int32} (a3 : zb_a τ 3 i = true) : zf_Ly_lay_j29 F w (ac 4 0) (some (ac 6 k)) (some (ac 3 i)) x3 (-1) = some (0, zw_sI w 1138 (ac 3 i) 0 (-1)) := by
  unfold zf_Ly_lay_j29
  rw [zlt_s, if_pos rfl, zC_at hC 3 i a3, zlt_s, zb_0]
theorem zc_lyS (hC : zC ac τ w) (hI : zI σ) (h0 : zP0 τ) (h1 : zP1 τ σ) (h5 : zP5 τ σ) {k pl : Nat} (hk : k < zN σ 1580 0) (hp : pl + znw σ k ≤ 64) : zf_Ly_lay_j29 F w (ac 4 0) (some (ac 6 k)) (some (ac 3 (zN σ 123 k))) (nI (znw σ k)) (nI pl) = some (1, zw_sI (zw_sF w 101 (ac 101 0) (va_cpy (zb_I τ 106 k) (zb_I τ 101 0) 0 pl (znw σ k))) 1138 (ac 3 (zN σ 123 k)) 0 (nI (pl + znw σ k))) := by
  have i0 := znw_le hI k
  have i2 := zI_mto hI k hk
  have a3 := zp_a3 h1 i2
  have a6 : zb_a τ 6 k = true := (zP5_a h5 k).trans (decide_eq_true hk)
  have a106 : zb_a τ 106 k = true := (zP5_wa h5 k).trans (decide_eq_true hk)
  have l106 := zP5_wl h5 k hk
  have l101 := zP0_l101 h0
  have c1 := zC_sF hC 101 101 0 rfl (zP0_a101 h0) (va_cpy (zb_I τ 106 k) (zb_I τ 101 0) 0 pl (znw σ k))
  unfold zf_Ly_lay_j29
  rw [zlt_s, if_neg (show ¬ nI pl = (-1 : Int32) from fun z => nI_pos (n := pl) (by omega) (by rw [z]; decide)), zC_at hC 6 k a6, zC_at hC 4 0 (zP0_a4 h0), zC_R hC 1324 6 106 k rfl rfl a6 (zP5_wr h5 k hk), zC_R hC 1192 4 101 0 rfl rfl (zP0_a4 h0) (zP0_r1192 h0), show (0 : Int32) = nI 0 from rfl, zC_cp hC 106 101 k 0 rfl rfl a106 (zP0_a101 h0) (by omega) (by omega) (by omega) (by omega), zC_at c1 3 _ a3, zlt_s, nI_add, zb_1]
/-- lay -/
theorem zc_ly (hF : 2500 ≤ F) (hC : zC ac τ w) (hI : zI σ) (hP : zP τ σ) {b : Nat} (hb : b ≤ 4) (hL : zLR b τ σ) {k : Nat} (hk : k < zN σ 1580 0) : (zJ σ 141 (zN σ 123 k) = -1 → zf_Ly_lay F w (ac 4 0) (some (ac 6 k)) = some (0, zw_sI w 1138 (ac 3 (zN σ 123 k)) 0 (-1))) ∧ ∀ e, e ≤ 16 * b → zJ σ 141 (zN σ 123 k) = nI e → (zplace (zfit σ k b) e (16 * b - e) = none → zf_Ly_lay F w (ac 4 0) (some (ac 6 k)) = some (0, zw_sI w 1138 (ac 3 (zN σ 123 k)) 0 (-1))) ∧ ∀ pl, zplace (zfit σ k b) e (16 * b - e) = some pl → zf_Ly_lay F w (ac 4 0) (some (ac 6 k)) = some (1, zw_sI (zw_sF w 101 (ac 101 0) (va_cpy (zb_I τ 106 k) (zb_I τ 101 0) 0 pl (znw σ k))) 1138 (ac 3 (zN σ 123 k)) 0 (nI (pl + znw σ k))) := by
  obtain ⟨h0, h1, h2, h3, ⟨o, h4⟩, h5, h6, h7, h8⟩ := hP
  have i0 := znw_le hI k
  have i2 := zI_mto hI k hk
  have a3 := zp_a3 h1 i2
  have a6 : zb_a τ 6 k = true := (zP5_a h5 k).trans (decide_eq_true hk)
  have a106 : zb_a τ 106 k = true := (zP5_wa h5 k).trans (decide_eq_true hk)
  have et : (zw_ty w (ac 106 k)).2 = znw σ k := by rw [(hC.1 106 k a106).1, zP5_wl h5 k hk]
  have l5 := hL.2.2.2.2.1 _ i2
  refine ⟨fun hm => ?_, fun e he hm => ?_⟩
  · unfold zf_Ly_lay
    rw [zC_at hC 6 k a6, zC_R hC 1320 6 3 k rfl rfl a6 (zP5_to h5 k hk), zlt_s, zC_at hC 6 k a6, zC_R hC 1324 6 106 k rfl rfl a6 (zP5_wr h5 k hk), zC_at hC 106 k a106, et, zlt_s, zC_at hC 3 _ a3, zC_I hC 1138 3 _ rfl a3, l5, hm, if_pos rfl, zc_lyN hC a3]
  · have fp := zc_fp hF hC hI h0 h1 hb hL hk (16 * b - e) F e (by omega) (by omega)
    have hn : ¬ nI e = (-1 : Int32) := fun z => nI_pos (n := e) (by omega) (by rw [z]; decide)
    have st : zf_Ly_lay F w (ac 4 0) (some (ac 6 k)) = zf_Ly_lay_j29 F w (ac 4 0) (some (ac 6 k)) (some (ac 3 (zN σ 123 k))) (nI (znw σ k)) ((zplace (zfit σ k b) e (16 * b - e)).elim (-1) nI) := by
      unfold zf_Ly_lay
      rw [zC_at hC 6 k a6, zC_R hC 1320 6 3 k rfl rfl a6 (zP5_to h5 k hk), zlt_s, zC_at hC 6 k a6, zC_R hC 1324 6 106 k rfl rfl a6 (zP5_wr h5 k hk), zC_at hC 106 k a106, et, zlt_s, zC_at hC 3 _ a3, zC_I hC 1138 3 _ rfl a3, l5, hm, if_neg hn, zC_at hC 4 0 (zP0_a4 h0)]
      unfold zf_Ly_findPlace
      rw [zC_at hC 3 _ a3, zC_I hC 1138 3 _ rfl a3, l5, hm, zlt_s, fp, zbd_s]
    refine ⟨fun hz => ?_, fun pl hz => ?_⟩
    · rw [st, hz]
      exact zc_lyN hC a3
    · rw [st, hz]
      have := zplace_s _ _ _ hz
      have hf := this.2.2
      unfold zfit at hf
      rw [Bool.and_eq_true, Bool.and_eq_true] at hf
      have := of_decide_eq_true hf.2.1
      exact zc_lyS hC hI h0 h1 h5 hk (by omega)
end ZTR3
