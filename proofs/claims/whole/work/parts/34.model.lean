/-! the model's small methods over the numbers -/
section ZMOD
variable {m : Nat} {am : Nat → Nat} {σ : zA} {w : zw_T} {F : Nat}
theorem zo_isP1 (h : zM m am σ w) (hI : zI σ) {j : Nat} (hj : j < zN σ 1595 0) : zf_Mo_isPager F w m (nI j) = some (1, w) := by
  have := zI_pgn hI
  unfold zf_Mo_isPager
  rw [if_neg (nI_pos (by omega)), zM_at h, zM_fn h 1595 (by decide) (by decide), if_neg (zn_le (by omega) (by omega) (by omega)), zb_1]
theorem zo_isP0 (h : zM m am σ w) {x : Int32} (hx : zout (zN σ 1595 0) x) : zf_Mo_isPager F w m x = some (0, w) := by
  unfold zf_Mo_isPager
  rcases hx with hx | ⟨h1, h2⟩
  · rw [if_pos hx, zb_0]
  · rw [if_neg h1, zM_at h, zM_fn h 1595 (by decide) (by decide), if_pos h2, zb_0]
theorem zo_isI1 (h : zM m am σ w) (hI : zI σ) {j : Nat} (hj : j < zN σ 1576 0) : zf_Mo_isIdentity F w m (nI j) = some (1, w) := by
  have := zI_idn hI
  unfold zf_Mo_isIdentity
  rw [if_neg (nI_pos (by omega)), zM_at h, zM_fn h 1576 (by decide) (by decide), if_neg (zn_le (by omega) (by omega) (by omega)), zb_1]
theorem zo_isI0 (h : zM m am σ w) {x : Int32} (hx : zout (zN σ 1576 0) x) : zf_Mo_isIdentity F w m x = some (0, w) := by
  unfold zf_Mo_isIdentity
  rcases hx with hx | ⟨h1, h2⟩
  · rw [if_pos hx, zb_0]
  · rw [if_neg h1, zM_at h, zM_fn h 1576 (by decide) (by decide), if_pos h2, zb_0]
theorem zo_kept1 (h : zM m am σ w) (hI : zI σ) {j : Nat} (hj : j < zN σ 1595 0) : zf_Mo_kept F w m (nI j) = some (nI (zN σ 133 j), w) := by
  have := zI_pgn hI
  unfold zf_Mo_kept
  rw [zM_at h, zo_isP1 h hI hj, zbd_s, if_neg (by decide), zM_at h, zM_R h 1598 133 6 (by decide), zM_ix h 1598 133 6 (by decide) (by omega) (by decide), zM_n h 133 (by decide)]
theorem zo_kept0 (h : zM m am σ w) {x : Int32} (hx : zout (zN σ 1595 0) x) : zf_Mo_kept F w m x = some (-1, w) := by
  unfold zf_Mo_kept
  rw [zM_at h, zo_isP0 h hx, zbd_s, if_pos rfl]
theorem zo_unload (h : zM m am σ w) : ∃ w', zf_Mo_unload F w m = some (nI (zN σ 1588 0), w') ∧ zM m am (zN_s σ 1588 0 0) w' := by
  refine ⟨_, ?_, zM_sfn h 1588 (by decide) (by decide) 0⟩
  unfold zf_Mo_unload
  simp only [zf_let, zM_at h, zM_fn h 1588 (by decide) (by decide)]
  rfl
theorem zo_waitL (h : zM m am σ w) (hI : zI σ) : ∀ (c n k a : Nat), k + c = zN σ 1580 0 → c < n → a + c < 1000 → zf_Mo_waiting_L4 F n w m (nI a) (nI k) = some (nI (a + zwait (zN σ 200) k c), w) := by
  have h0 := zI_msn hI
  intro c
  induction c with
  | zero =>
    intro n k a h1 h2 h3
    obtain ⟨n, rfl⟩ : ∃ q, n = q + 1 := ⟨n - 1, by omega⟩
    unfold zf_Mo_waiting_L4
    rw [zM_at h, zM_fn h 1580 (by decide) (by decide), if_pos ((nI_leI (by omega) (by omega)).mpr (by omega))]
    rfl
  | succ c ih =>
    intro n k a h1 h2 h3
    obtain ⟨n, rfl⟩ : ∃ q, n = q + 1 := ⟨n - 1, by omega⟩
    have hk := zI_wts hI k
    unfold zf_Mo_waiting_L4
    rw [zM_at h, zM_fn h 1580 (by decide) (by decide), if_neg (zn_le (by omega) (by omega) (by omega)), zM_at h, zM_R h 1586 200 200 (by decide), zM_ix h 1586 200 200 (by decide) (by omega) (by decide), zM_n h 200 (by decide)]
    unfold zwait
    by_cases hq : zN σ 200 k = 0
    · rw [if_pos ((zn_z (by omega)).mpr hq), if_pos hq, zf_Mo_waiting_j28, zlt_s, zlt_s, zs1, ih n (k + 1) a (by omega) (by omega) (by omega), Nat.zero_add]
    · rw [if_neg (fun q => hq ((zn_z (by omega)).mp q)), if_neg hq, zf_Mo_waiting_j28, zlt_s, zlt_s, zs1, zs1, ih n (k + 1) (a + 1) (by omega) (by omega) (by omega), Nat.add_assoc]
theorem zo_waiting (hF : 2500 ≤ F) (h : zM m am σ w) (hI : zI σ) : zf_Mo_waiting F w m = some (nI (zwait (zN σ 200) 0 (zN σ 1580 0)), w) := by
  have h0 := zI_msn hI
  unfold zf_Mo_waiting
  rw [zlt_s, zlt_s, show (0 : Int32) = nI 0 from rfl, zo_waitL h hI (zN σ 1580 0) F 0 0 (by omega) (by omega) (by omega), Nat.zero_add]
end ZMOD
