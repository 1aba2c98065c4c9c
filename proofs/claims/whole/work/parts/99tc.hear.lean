/-! hear: the signs that came in, and the number in them -/
theorem zsv_lt {f : Nat → Nat} : ∀ c b, (∀ j, b ≤ j → j < b + c → f j < 2) → zsv f b c < 2 ^ c
  | 0, _, _ => by
    show 0 < 1
    decide
  | c + 1, b, h => by
    show f b + 2 * zsv f (b + 1) c < 2 ^ (c + 1)
    have h1 := h b (by omega) (by omega)
    have h2 := zsv_lt c (b + 1) (fun j k1 k2 => h j (by omega) (by omega))
    rw [Nat.pow_succ]
    omega
theorem zsv_s (f : Nat → Nat) : ∀ c b, zsv f b (c + 1) = zsv f b c + f (b + c) * 2 ^ c
  | 0, b => by
    show f b + 2 * 0 = 0 + f b * 1
    omega
  | c + 1, b => by
    show f b + 2 * zsv f (b + 1) (c + 1) = f b + 2 * zsv f (b + 1) c + f (b + (c + 1)) * 2 ^ (c + 1)
    rw [zsv_s f c (b + 1), show b + 1 + c = b + (c + 1) by omega, Nat.pow_succ, ← Nat.mul_assoc]
    omega
theorem zsv_cg {f g : Nat → Nat} : ∀ c b, (∀ j, b ≤ j → j < b + c → f j = g j) → zsv f b c = zsv g b c
  | 0, _, _ => rfl
  | c + 1, b, h => by
    show f b + 2 * zsv f (b + 1) c = g b + 2 * zsv g (b + 1) c
    rw [h b (by omega) (by omega), zsv_cg c (b + 1) (fun j k1 k2 => h j (by omega) (by omega))]
/-- the number, if there is one -/
def znum (kd S : Nat) (g : Nat → Nat) : Option Nat := if kd = 0 then (if S < 2 then none else if 9 < g 0 then none else if 9 < g 1 then none else if 64 ≤ 10 * g 0 + g 1 then none else some (10 * g 0 + g 1)) else (if S = 0 then none else if g 0 < 32 then none else if 96 ≤ g 0 then none else some (g 0 - 32))
theorem znum_s {kd S : Nat} {g : Nat → Nat} {n : Nat} (h : znum kd S g = some n) : n < 64 ∧ (if kd = 0 then 2 else 1) ≤ S := by
  unfold znum at h
  by_cases hk : kd = 0
  · rw [if_pos hk] at h ⊢
    by_cases h1 : S < 2
    · rw [if_pos h1] at h
      cases h
    rw [if_neg h1] at h
    by_cases h2 : 9 < g 0
    · rw [if_pos h2] at h
      cases h
    rw [if_neg h2] at h
    by_cases h3 : 9 < g 1
    · rw [if_pos h3] at h
      cases h
    rw [if_neg h3] at h
    by_cases h4 : 64 ≤ 10 * g 0 + g 1
    · rw [if_pos h4] at h
      cases h
    rw [if_neg h4] at h
    cases h
    exact ⟨by omega, by omega⟩
  · rw [if_neg hk] at h ⊢
    by_cases h1 : S = 0
    · rw [if_pos h1] at h
      cases h
    rw [if_neg h1] at h
    by_cases h2 : g 0 < 32
    · rw [if_pos h2] at h
      cases h
    rw [if_neg h2] at h
    by_cases h3 : 96 ≤ g 0
    · rw [if_pos h3] at h
      cases h
    rw [if_neg h3] at h
    cases h
    exact ⟨by omega, by omega⟩
/-- without the filling signs at the end -/
def ztr (g : Nat → Nat) (fl fr : Nat) : Nat → Nat
  | 0 => 0
  | c + 1 => if c + 1 ≤ fr then c + 1 else if g c = fl then ztr g fl fr c else c + 1
theorem ztr_le (g : Nat → Nat) (fl fr : Nat) : ∀ c, ztr g fl fr c ≤ c ∧ (fr ≤ c → fr ≤ ztr g fl fr c)
  | 0 => ⟨Nat.le_refl _, fun h => h⟩
  | c + 1 => by
    unfold ztr
    by_cases h1 : c + 1 ≤ fr
    · rw [if_pos h1]
      exact ⟨Nat.le_refl _, fun h => h⟩
    · rw [if_neg h1]
      have := ztr_le g fl fr c
      by_cases h2 : g c = fl
      · rw [if_pos h2]
        exact ⟨by omega, fun _ => this.2 (by omega)⟩
      · rw [if_neg h2]
        exact ⟨Nat.le_refl _, fun h => h⟩
section ZH3
variable {ac : Nat → Nat → Nat} {τ : zB} {am : Nat → Nat} {σ : zA} {w w2 : zw_T} {F m : Nat}
theorem zo_gsL (h : zM m am σ w) {s wd : Nat} (hs : wd * s + wd ≤ 160) : ∀ c n, c ≤ wd → c < n → zf_Mo_gotSign_L26 F n w m (nI s) (nI wd) (nI (zsv (zN σ 140) (wd * s + c) (wd - c))) (nI c + (-1)) = some (nI (zsv (zN σ 140) (wd * s) wd), w) := by
  intro c
  induction c with
  | zero =>
    intro n e1 e2
    obtain ⟨n, rfl⟩ : ∃ q, n = q + 1 := ⟨n - 1, by omega⟩
    rw [zf_Mo_gotSign_L26, if_pos (by decide)]
    rfl
  | succ c ih =>
    intro n e1 e2
    obtain ⟨n, rfl⟩ : ∃ q, n = q + 1 := ⟨n - 1, by omega⟩
    have ih' := ih n (by omega) (by omega)
    have e3 : zsv (zN σ 140) (wd * s + c) (wd - c) = zN σ 140 (wd * s + c) + 2 * zsv (zN σ 140) (wd * s + (c + 1)) (wd - (c + 1)) := by
      rw [show wd - c = (wd - (c + 1)) + 1 by omega]
      rfl
    rw [pk_m1, zf_Mo_gotSign_L26, if_neg (nI_pos (by omega)), zM_at h, zM_R h 1609 140 160 (by decide), zmd, zM_ix h 1609 140 160 (by decide) (by omega) (by decide), zM_n h 140 (by decide), show (2 : Int32) * nI (zsv (zN σ 140) (wd * s + (c + 1)) (wd - (c + 1))) + nI (zN σ 140 (wd * s + c)) = nI (zsv (zN σ 140) (wd * s + c) (wd - c)) from by
      rw [e3, Nat.add_comm (zN σ 140 (wd * s + c))]
      exact zmd 2 _ _, zlt_s, zlt_s, ih']
theorem zo_gs (hF : 2500 ≤ F) (h : zM m am σ w) (hI : zI σ) {i s : Nat} (hi : i < 12) (hr : zJ σ 1608 0 = nI i) (hs : zwide σ i * s + zwide σ i ≤ 160) : zf_Mo_gotSign F w m (nI s) = some (nI (zsv (zN σ 140) (zwide σ i * s) (zwide σ i)), w) := by
  have i1 := zI_knd hI i
  unfold zf_Mo_gotSign
  rw [zM_at h, zM_at h, zM_R h 1578 121 12 (by decide), zM_fj h 1608 (by decide) (by decide), hr, zM_ix h 1578 121 12 (by decide) hi (by decide), zM_n h 121 (by decide)]
  unfold zwide at hs ⊢
  by_cases hz : zN σ 121 i = 0
  · rw [if_pos hz] at hs
    rw [if_pos ((zn_z (by omega)).mpr hz), if_pos hz]
    unfold zf_Mo_gotSign_j18
    rw [zlt_s, zlt_s, zlt_s]
    exact zo_gsL (F := F) h (wd := 4) hs 4 F (by omega) (by omega)
  · rw [if_neg hz] at hs
    rw [if_neg (fun q => hz ((zn_z (by omega)).mp q)), if_neg hz]
    unfold zf_Mo_gotSign_j18
    rw [zlt_s, zlt_s, zlt_s]
    exact zo_gsL (F := F) h (wd := 7) hs 7 F (by omega) (by omega)
/-- the model's number -/
theorem zo_no (hF : 2500 ≤ F) (h : zM m am σ w) (hI : zI σ) {i S : Nat} (hi : i < 12) (hr : zJ σ 1608 0 = nI i) (hS : S ≤ 22) {g : Nat → Nat} (hg : ∀ s, g s = zsv (zN σ 140) (zwide σ i * s) (zwide σ i)) (hb : ∀ s, s < S → g s < 128) : zf_Mo_numberOf F w m (nI S) = some ((znum (zN σ 121 i) S g).elim (-1) nI, w) := by
  have i1 := zI_knd hI i
  have iw : zwide σ i ≤ 7 := by
    unfold zwide
    split <;> omega
  have gs : ∀ s, s < 20 → zf_Mo_gotSign F w m (nI s) = some (nI (g s), w) := by
    intro s hs
    rw [hg s]
    exact zo_gs hF h hI hi hr (by
      have := Nat.mul_le_mul_right s iw
      omega)
  have gs0 : zf_Mo_gotSign F w m (0 : Int32) = some (nI (g 0), w) := gs 0 (by omega)
  have gs1 : zf_Mo_gotSign F w m (1 : Int32) = some (nI (g 1), w) := gs 1 (by omega)
  unfold zf_Mo_numberOf
  rw [zM_at h, zM_at h, zM_R h 1578 121 12 (by decide), zM_fj h 1608 (by decide) (by decide), hr, zM_ix h 1578 121 12 (by decide) hi (by decide), zM_n h 121 (by decide)]
  unfold znum
  by_cases hz : zN σ 121 i = 0
  · rw [if_neg (show ¬ nI (zN σ 121 i) = (1 : Int32) from fun z => by have := (nI_eqI (b := 1) (by omega) (by decide)).mp z; omega), if_pos hz]
    by_cases h1 : S < 2
    · rw [if_pos (show nI S < (2 : Int32) from (nI_ltI (b := 2) (by omega) (by decide)).mpr h1), if_pos h1]
      rfl
    have b0 := hb 0 (by omega)
    have b1 := hb 1 (by omega)
    rw [if_neg (show ¬ nI S < (2 : Int32) from zn_lt (b := 2) (by omega) (by decide) h1), if_neg h1, zM_at h, gs0, zbd_s]
    by_cases h2 : 9 < g 0
    · rw [if_pos (show (9 : Int32) < nI (g 0) from (nI_ltI (a := 9) (by decide) (by omega)).mpr h2), if_pos h2]
      rfl
    rw [if_neg (show ¬ (9 : Int32) < nI (g 0) from zn_lt (a := 9) (by decide) (by omega) h2), if_neg h2, zM_at h, gs1, zbd_s]
    by_cases h3 : 9 < g 1
    · rw [if_neg (show ¬ nI (g 1) ≤ (9 : Int32) from zn_le (b := 9) (by omega) (by decide) (by omega)), if_pos h3]
      rfl
    rw [if_pos (show nI (g 1) ≤ (9 : Int32) from (nI_leI (b := 9) (by omega) (by decide)).mpr (by omega)), if_neg h3, zM_at h, gs0, zbd_s, zM_at h, gs1, zbd_s, show (10 : Int32) * nI (g 0) + nI (g 1) = nI (10 * g 0 + g 1) from zmd 10 _ _, zlt_s]
    by_cases h4 : 64 ≤ 10 * g 0 + g 1
    · rw [if_neg (show ¬ nI (10 * g 0 + g 1) ≤ (63 : Int32) from zn_le (b := 63) (by omega) (by decide) (by omega)), if_pos h4]
      rfl
    · rw [if_pos (show nI (10 * g 0 + g 1) ≤ (63 : Int32) from (nI_leI (b := 63) (by omega) (by decide)).mpr (by omega)), if_neg h4]
      rfl
  · rw [if_pos (show nI (zN σ 121 i) = (1 : Int32) from (nI_eqI (b := 1) (by omega) (by decide)).mpr (by omega)), if_neg hz]
    by_cases h1 : S = 0
    · rw [if_pos (show nI S ≤ (0 : Int32) from (nI_leI (b := 0) (by omega) (by decide)).mpr (by omega)), if_pos h1]
      rfl
    have b0 := hb 0 (by omega)
    rw [if_neg (show ¬ nI S ≤ (0 : Int32) from zn_le (b := 0) (by omega) (by decide) (by omega)), if_neg h1, zM_at h, gs0, zbd_s]
    by_cases h2 : g 0 < 32
    · rw [if_pos (show nI (g 0) < (32 : Int32) from (nI_ltI (b := 32) (by omega) (by decide)).mpr h2), if_pos h2]
      rfl
    rw [if_neg (show ¬ nI (g 0) < (32 : Int32) from zn_lt (b := 32) (by omega) (by decide) h2), if_neg h2, zM_at h, gs0, zbd_s]
    by_cases h3 : 96 ≤ g 0
    · rw [if_pos (show (95 : Int32) < nI (g 0) from (nI_ltI (a := 95) (by decide) (by omega)).mpr (by omega)), if_pos h3]
      rfl
    · rw [if_neg (show ¬ (95 : Int32) < nI (g 0) from zn_lt (a := 95) (by decide) (by omega) (by omega)), if_neg h3, zM_at h, gs0, zbd_s, show nI (g 0) - (32 : Int32) = nI (g 0 - 32) from pk_sub (b := 32) (by omega)]
      rfl
/-- the class's number -/
theorem zc_ni (hC : zC ac τ w) (h0 : zP0 τ) (h1 : zP1 τ σ) (hI : zI σ) {i S : Nat} (hi : i < zN σ 1576 0) (hS : S ≤ 22) {g : Nat → Nat} (hg : ∀ s, s < S → zb_I τ 103 0 s = nI (g s)) (hb : ∀ s, s < S → g s < 128) : zf_Id_numberIn F w (ac 3 i) (some (ac 103 0)) (nI S) = some ((znum (zN σ 121 i) S g).elim (-1) nI, w) := by
  have i1 := zI_knd hI i
  have a3 := zp_a3 h1 hi
  have a103 := zP0_a103 h0
  have l103 := zP0_l103 h0
  have ns := zc_ns (F := F) hC a3 (zP1_tx h1 i hi) i1
  unfold zf_Id_numberIn
  rw [zC_at hC 3 i a3, ns, zbd_s]
  unfold znum
  by_cases hz : zN σ 121 i = 0
  · rw [if_pos hz, if_pos hz]
    by_cases k1 : S < 2
    · rw [if_neg (zn_le (by decide) (by omega) (by omega)), if_pos k1]
      rfl
    have b0 := hb 0 (by omega)
    have b1 := hb 1 (by omega)
    have e0 := hg 0 (by omega)
    have e1 := hg 1 (by omega)
    rw [if_pos ((nI_leI (by decide) (by omega)).mpr (by omega)), zC_at hC 3 i a3, zC_I hC 1130 3 i rfl a3, zP1_tx h1 i hi, if_pos ((zn_z (by omega)).mpr hz), show (0 : Int32) = nI 0 from rfl, zC_ix hC 103 0 a103 (by omega) (by decide), show (1 : Int32) = nI 1 from rfl, zC_ix hC 103 0 a103 (by omega) (by decide), zC_I hC 103 103 0 rfl a103, zC_I hC 103 103 0 rfl a103, e0, e1, if_neg k1]
    unfold zf_Id_decimal
    by_cases k2 : 9 < g 0
    · rw [if_pos (show (9 : Int32) < nI (g 0) from (nI_ltI (a := 9) (by decide) (by omega)).mpr k2), if_pos k2, zbd_s]
      rfl
    rw [if_neg (show ¬ (9 : Int32) < nI (g 0) from zn_lt (a := 9) (by decide) (by omega) k2), if_neg k2]
    by_cases k3 : 9 < g 1
    · rw [if_pos (show (9 : Int32) < nI (g 1) from (nI_ltI (a := 9) (by decide) (by omega)).mpr k3), if_pos k3, zbd_s]
      rfl
    rw [if_neg (show ¬ (9 : Int32) < nI (g 1) from zn_lt (a := 9) (by decide) (by omega) k3), if_neg k3, zbd_s, show (10 : Int32) * nI (g 0) + nI (g 1) = nI (10 * g 0 + g 1) from zmd 10 _ _]
    unfold zf_Id_numberIn_j35
    rw [zlt_s, if_neg (nI_pos (by omega))]
    by_cases k4 : 64 ≤ 10 * g 0 + g 1
    · rw [if_pos (show (64 : Int32) ≤ nI (10 * g 0 + g 1) from (nI_leI (a := 64) (by decide) (by omega)).mpr k4), if_pos k4]
      rfl
    · rw [if_neg (show ¬ (64 : Int32) ≤ nI (10 * g 0 + g 1) from zn_le (a := 64) (by decide) (by omega) k4), if_neg k4]
      rfl
  · rw [if_neg hz, if_neg hz]
    by_cases k1 : S = 0
    · rw [if_neg (zn_le (by decide) (by omega) (by omega)), if_pos k1]
      rfl
    have b0 := hb 0 (by omega)
    have e0 := hg 0 (by omega)
    rw [if_pos ((nI_leI (by decide) (by omega)).mpr (by omega)), zC_at hC 3 i a3, zC_I hC 1130 3 i rfl a3, zP1_tx h1 i hi, if_neg (fun z => hz ((zn_z (by omega)).mp z)), show (0 : Int32) = nI 0 from rfl, zC_ix hC 103 0 a103 (by omega) (by decide), zC_I hC 103 103 0 rfl a103, e0, if_neg k1]
    unfold zf_Id_numberIn_j35
    rw [zlt_s]
    by_cases k2 : g 0 < 32
    · rw [if_pos (show nI (g 0) - (32 : Int32) < 0 from pk_sneg (b := 32) (by decide) k2), if_pos k2]
      rfl
    rw [show nI (g 0) - (32 : Int32) = nI (g 0 - 32) from pk_sub (b := 32) (by omega), if_neg (nI_pos (by omega)), if_neg k2]
    by_cases k3 : 96 ≤ g 0
    · rw [if_pos (show (64 : Int32) ≤ nI (g 0 - 32) from (nI_leI (a := 64) (by decide) (by omega)).mpr (by omega)), if_pos k3]
      rfl
    · rw [if_neg (show ¬ (64 : Int32) ≤ nI (g 0 - 32) from zn_le (a := 64) (by decide) (by omega) (by omega)), if_neg k3]
      rfl
/-- the model trims -/
theorem zo_tr (hF : 2500 ≤ F) (h : zM m am σ w) (hI : zI σ) {i fl fr : Nat} (hi : i < 12) (hr : zJ σ 1608 0 = nI i) {g : Nat → Nat} (hg : ∀ s, g s = zsv (zN σ 140) (zwide σ i * s) (zwide σ i)) (hl : fl < 128) (hfr : fr < 100) {x1 x4 : Int32} : ∀ c n, c ≤ 22 → (∀ s, s < c → g s < 128) → c < n → zf_Mo_finish_L87 F n w m x1 (nI c) x4 (nI fr) (nI fl) = zf_Mo_finish_j111 F w m x1 (nI (ztr g fl fr c)) x4 (nI fr) := by
  have iw : zwide σ i ≤ 7 := by
    unfold zwide
    split <;> omega
  intro c
  induction c with
  | zero =>
    intro n e1 e2 e3
    obtain ⟨n, rfl⟩ : ∃ q, n = q + 1 := ⟨n - 1, by omega⟩
    rw [zf_Mo_finish_L87, if_pos ((nI_leI (by omega) (by omega)).mpr (by omega))]
    rfl
  | succ c ih =>
    intro n e1 e2 e3
    obtain ⟨n, rfl⟩ : ∃ q, n = q + 1 := ⟨n - 1, by omega⟩
    have b := e2 c (by omega)
    rw [zf_Mo_finish_L87]
    unfold ztr
    by_cases h1 : c + 1 ≤ fr
    · rw [if_pos ((nI_leI (by omega) (by omega)).mpr h1), if_pos h1]
    · rw [if_neg (zn_le (by omega) (by omega) h1), if_neg h1, zM_at h, show nI (c + 1) - (1 : Int32) = nI c from pk_sub (a := c + 1) (b := 1) (by omega), zo_gs hF h hI hi hr (by
        have := Nat.mul_le_mul_right c iw
        omega), ← hg c, zbd_s]
      by_cases h2 : g c = fl
      · rw [if_pos (by rw [h2]), if_pos h2, pk_m1, zlt_s, ih n (by omega) (fun s hs => e2 s (by omega)) (by omega)]
      · rw [if_neg (fun z => h2 ((nI_eqI (by omega) (by omega)).mp z)), if_neg h2]
/-- the class trims -/
theorem zc_tr (hC : zC ac τ w) (h0 : zP0 τ) (h1 : zP1 τ σ) {i fl fr : Nat} (hi : i < zN σ 1576 0) (hf : zb_I τ 1136 i 0 = nI fl) {g : Nat → Nat} (hl : fl < 128) (hfr : fr < 100) {x1 x2 : Int32} : ∀ c n, c ≤ 22 → (∀ s, s < c → zb_I τ 103 0 s = nI (g s)) → (∀ s, s < c → g s < 128) → c < n → zf_Ls_store_L20 F n w (ac 5 0) x1 x2 (some (ac 3 i)) (nI fr) (nI c) = zf_Ls_store_j49 F w (ac 5 0) x1 x2 (some (ac 3 i)) (nI fr) (nI (ztr g fl fr c)) := by
  have a3 := zp_a3 h1 hi
  have a103 := zP0_a103 h0
  have l103 := zP0_l103 h0
  intro c
  induction c with
  | zero =>
    intro n e1 e0 e2 e3
    obtain ⟨n, rfl⟩ : ∃ q, n = q + 1 := ⟨n - 1, by omega⟩
    rw [zf_Ls_store_L20, if_pos ((nI_leI (by omega) (by omega)).mpr (by omega))]
    rfl
  | succ c ih =>
    intro n e1 e0 e2 e3
    obtain ⟨n, rfl⟩ : ∃ q, n = q + 1 := ⟨n - 1, by omega⟩
    have b := e2 c (by omega)
    rw [zf_Ls_store_L20]
    unfold ztr
    by_cases k1 : c + 1 ≤ fr
    · rw [if_pos ((nI_leI (by omega) (by omega)).mpr k1), if_pos k1]
    · rw [if_neg (zn_le (by omega) (by omega) k1), if_neg k1, zC_at hC 5 0 (zP0_a5 h0), zC_R hC 1260 5 103 0 rfl rfl (zP0_a5 h0) (zP0_r1260 h0), show nI (c + 1) - (1 : Int32) = nI c from pk_sub (a := c + 1) (b := 1) (by omega), zC_ix hC 103 0 a103 (by omega) (by omega), zC_at hC 3 i a3, zC_I hC 103 103 0 rfl a103, e0 c (by omega), zC_I hC 1136 3 i rfl a3, hf]
      by_cases h2 : g c = fl
      · rw [if_pos (by rw [h2]), if_pos h2, pk_m1, zlt_s, ih n (by omega) (fun s hs => e0 s (by omega)) (fun s hs => e2 s (by omega)) (by omega)]
      · rw [if_neg (fun z => h2 ((nI_eqI (by omega) (by omega)).mp z)), if_neg h2]
end ZH3
