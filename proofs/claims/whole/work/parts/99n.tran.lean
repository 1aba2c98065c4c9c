/-! transmit: the model lays a message -/
/-- j words of message k are laid at place pl -/
def zlyS (σ : zA) (k pl j : Nat) : zA := ((fun κ q => if κ = 201 ∧ pl ≤ q ∧ q < pl + j then 1 else zN σ κ q), (fun κ q => if κ = 129 ∧ pl ≤ q ∧ q < pl + j then zword σ k (q - pl) else zJ σ κ q), zQ σ)
theorem zly_0 (σ : zA) (k pl : Nat) : zlyS σ k pl 0 = σ := by
  refine Prod.ext ?_ (Prod.ext ?_ rfl)
  · funext κ q
    exact if_neg (by omega)
  · funext κ q
    exact if_neg (by omega)
theorem zly_s (σ : zA) (k pl j : Nat) : zN_s (zJ_s (zlyS σ k pl j) 129 (pl + j) (zword σ k j)) 201 (pl + j) 1 = zlyS σ k pl (j + 1) := by
  refine Prod.ext ?_ (Prod.ext ?_ rfl)
  · funext κ q
    show (if κ = 201 ∧ q = pl + j then 1 else if κ = 201 ∧ pl ≤ q ∧ q < pl + j then 1 else zN σ κ q) = (if κ = 201 ∧ pl ≤ q ∧ q < pl + (j + 1) then 1 else zN σ κ q)
    by_cases h1 : κ = 201 ∧ q = pl + j
    · rw [if_pos h1, if_pos (by omega)]
    · rw [if_neg h1]
      by_cases h2 : κ = 201 ∧ pl ≤ q ∧ q < pl + j
      · rw [if_pos h2, if_pos (by omega)]
      · rw [if_neg h2, if_neg (by omega)]
  · funext κ q
    show (if κ = 129 ∧ q = pl + j then zword σ k j else if κ = 129 ∧ pl ≤ q ∧ q < pl + j then zword σ k (q - pl) else zJ σ κ q) = (if κ = 129 ∧ pl ≤ q ∧ q < pl + (j + 1) then zword σ k (q - pl) else zJ σ κ q)
    by_cases h1 : κ = 129 ∧ q = pl + j
    · rw [if_pos h1, if_pos (by omega), h1.2, Nat.add_sub_cancel_left]
    · rw [if_neg h1]
      by_cases h2 : κ = 129 ∧ pl ≤ q ∧ q < pl + j
      · rw [if_pos h2, if_pos (by omega)]
      · rw [if_neg h2, if_neg (by omega)]
theorem zly_I {σ : zA} (hI : zI σ) (k pl j : Nat) : zI (zlyS σ k pl j) := hI
/-- whether message k may begin at place pl -/
def zfit (σ : zA) (k b pl : Nat) : Bool := decide (pl % 16 / 2 = zN σ 120 (zN σ 123 k) % 8) && (decide (pl + znw σ k ≤ 16 * b) && !zany (fun q => !decide (zN σ 201 q = 0)) pl (znw σ k))
def zplace (f : Nat → Bool) : Nat → Nat → Option Nat
  | _, 0 => none
  | s, c + 1 => if f s = true then some s else zplace f (s + 1) c
theorem zplace_s {f : Nat → Bool} : ∀ c s pl, zplace f s c = some pl → s ≤ pl ∧ pl < s + c ∧ f pl = true
  | 0, _, _, h => by cases h
  | c + 1, s, pl, h => by
    unfold zplace at h
    by_cases hf : f s = true
    · rw [if_pos hf] at h
      cases h
      exact ⟨by omega, by omega, hf⟩
    · rw [if_neg hf] at h
      have := zplace_s c (s + 1) pl h
      exact ⟨by omega, by omega, this.2.2⟩
theorem zplace_n {f : Nat → Bool} : ∀ c s, (∀ q, s ≤ q → f q = false) → zplace f s c = none
  | 0, _, _ => rfl
  | c + 1, s, h => by
    unfold zplace
    rw [if_neg (by rw [h s (by omega)]; decide), zplace_n c (s + 1) (fun q hq => h q (by omega))]
theorem zwait_mo {f g : Nat → Nat} : ∀ c s, (∀ j, f j = 0 ∨ f j = g j) → zwait f s c ≤ zwait g s c
  | 0, _, _ => Nat.le_refl _
  | c + 1, s, h => by
    show (if f s = 0 then 0 else 1) + zwait f (s + 1) c ≤ (if g s = 0 then 0 else 1) + zwait g (s + 1) c
    have i1 := zwait_mo c (s + 1) h
    rcases h s with e | e
    · rw [if_pos e]
      omega
    · rw [e]
      omega
section ZTR2
variable {am : Nat → Nat} {σ : zA} {w w2 : zw_T} {F m x : Nat}
theorem zo_la43 (hF : 2500 ≤ F) (h : zM m am σ w) (hI : zI σ) {k pl j : Nat} (hk : k < zN σ 1580 0) (hj : 1 ≤ j) (hj2 : j < 20) (hp : pl + j < 64) {k28 : zw_T → Nat → Int32 → Int32 → Int32 → Option (zw_T)} : ∀ c n t d, t + c = 20 → c < n → d < 2 ^ (1 + t) → ∃ w', zf_Mo_layAt_L43 F k28 n w m (nI k) (nI pl) (nI j) (nI d) (nI t) = k28 w' m (nI k) (nI pl) (nI (j + 1)) ∧ zM m am (zN_s (zJ_s σ 129 (pl + j) (zn_cw (nI (zdat (zobit σ k) (20 * (j - 1) + t) c d)))) 201 (pl + j) 1) w' := by
  intro c
  induction c with
  | zero =>
    intro n t d e1 e2 e3
    obtain ⟨n, rfl⟩ : ∃ q, n = q + 1 := ⟨n - 1, by omega⟩
    have ht : t = 20 := by omega
    subst ht
    have m1 := zM_sj h 129 (by decide) (pl + j) (zn_cw (nI d))
    have m2 := zM_sn m1 201 (by decide) (pl + j) 1
    refine ⟨_, ?_, m2⟩
    unfold zf_Mo_layAt_L43
    rw [if_pos (by decide), zM_at h, zn_cwM hF w (nI d) (zn_h21 e3), zbd_s, zM_R h 1589 129 64 (by decide), nI_add, zM_ix h 1589 129 64 (by decide) hp (by decide), zlt_s, zM_at m1, zM_R m1 1590 201 64 (by decide), zM_ix m1 1590 201 64 (by decide) hp (by decide), zlt_s, zlt_s, show vp_nar .boolean (1 : Int32) = nI 1 from by decide, zs1]
  | succ c ih =>
    intro n t d e1 e2 e3
    obtain ⟨n, rfl⟩ : ∃ q, n = q + 1 := ⟨n - 1, by omega⟩
    have h3 : 2 * d + (if zobit σ k (20 * (j - 1) + t) = true then 1 else 0) < 2 ^ (1 + (t + 1)) := by
      rw [← Nat.add_assoc, Nat.pow_succ]
      split <;> omega
    have e4 : (2 : Int32) * nI d + (if zobit σ k (20 * (j - 1) + t) = true then (1 : Int32) else 0) = nI (2 * d + (if zobit σ k (20 * (j - 1) + t) = true then 1 else 0)) := by
      split
      · exact zmd 2 d 1
      · exact zmd 2 d 0
    obtain ⟨w', r1, r2⟩ := ih n (t + 1) _ (by omega) (by omega) h3
    refine ⟨w', ?_, r2⟩
    unfold zf_Mo_layAt_L43
    rw [if_neg (show ¬ (20 : Int32) ≤ nI t from zn_le (a := 20) (by decide) (by omega) (by omega)), zM_at h, show (20 : Int32) * (nI j - (1 : Int32)) + nI t = nI (20 * (j - 1) + t) from by
      show nI 20 * (nI j - nI 1) + nI t = _
      rw [pk_sub hj, zmd], zo_ob h hI hk (by omega), zbd_s, e4, zlt_s, zlt_s, zs1, r1]
theorem zo_la28 (hF : 2500 ≤ F) (hI : zI σ) {k pl : Nat} (hk : k < zN σ 1580 0) (hp : pl + znw σ k ≤ 64) : ∀ c n j w, j + c = znw σ k → 1 ≤ j → c < n → zM m am (zlyS σ k pl j) w → ∃ w', zf_Mo_layAt_L28 F n w m (nI k) (nI pl) (nI j) = some w' ∧ zM m am (zlyS σ k pl (znw σ k)) w' := by
  have i1 := znw_le hI k
  intro c
  induction c with
  | zero =>
    intro n j w e1 e0 e2 h
    obtain ⟨n, rfl⟩ : ∃ q, n = q + 1 := ⟨n - 1, by omega⟩
    have hj : j = znw σ k := by omega
    refine ⟨w, ?_, hj ▸ h⟩
    have wo := zo_wo (F := F) h (zly_I hI k pl j) hk
    have wo : zf_Mo_wordsOf F w m (nI k) = some (nI (znw σ k), w) := wo
    unfold zf_Mo_layAt_L28
    rw [zM_at h, wo, zbd_s, if_pos ((nI_leI (by omega) (by omega)).mpr (by omega))]
  | succ c ih =>
    intro n j w e1 e0 e2 h
    obtain ⟨n, rfl⟩ : ∃ q, n = q + 1 := ⟨n - 1, by omega⟩
    have wo := zo_wo (F := F) h (zly_I hI k pl j) hk
    have wo : zf_Mo_wordsOf F w m (nI k) = some (nI (znw σ k), w) := wo
    obtain ⟨w1, r1, r2⟩ := zo_la43 hF h (zly_I hI k pl j) (pl := pl) (j := j) hk e0 (by omega) (by omega) (k28 := zf_Mo_layAt_L28 F n) 20 F 0 1 (by omega) (by omega) (by decide)
    have r3 : zM m am (zN_s (zJ_s (zlyS σ k pl j) 129 (pl + j) (zword σ k j)) 201 (pl + j) 1) w1 := by
      have : zword σ k j = zn_cw (nI (zdat (zobit σ k) (20 * (j - 1) + 0) 20 1)) := by
        unfold zword
        rw [if_neg (by omega), Nat.add_zero]
      rw [this]
      exact r2
    rw [zly_s] at r3
    obtain ⟨w', s1, s2⟩ := ih n (j + 1) w1 (by omega) (by omega) (by omega) r3
    refine ⟨w', ?_, s2⟩
    unfold zf_Mo_layAt_L28
    rw [zM_at h, wo, zbd_s, if_neg (zn_le (by omega) (by omega) (by omega)), zlt_s, zlt_s]
    have r1 : zf_Mo_layAt_L43 F (zf_Mo_layAt_L28 F n) F w m (nI k) (nI pl) (nI j) (1 : Int32) (0 : Int32) = _ := r1
    rw [r1, s1]
theorem zo_la (hF : 2500 ≤ F) (h : zM m am σ w) (hI : zI σ) {k pl : Nat} (hk : k < zN σ 1580 0) (hp : pl + znw σ k ≤ 64) : ∃ w', zf_Mo_layAt F w m (nI k) (nI pl) = some w' ∧ zM m am (zlyS σ k pl (znw σ k)) w' := by
  have i0 := znw_le hI k
  have i1 := zI_msn hI
  have i2 := zI_mto hI k hk
  have i3 := zI_idn hI
  have i4 := zI_adr hI (zN σ 123 k)
  have hz : zaddr σ (zN σ 123 k) < 2097152 := by
    unfold zaddr
    split <;> omega
  have m1 := zM_sj h 129 (by decide) pl (zword σ k 0)
  have m2 := zM_sn m1 201 (by decide) pl 1
  have e := zly_s σ k pl 0
  rw [zly_0, Nat.add_zero] at e
  have m3 := m2
  rw [e] at m3
  obtain ⟨w', s1, s2⟩ := zo_la28 hF hI hk hp (znw σ k - 1) F 1 _ (by omega) (by omega) (by omega) m3
  refine ⟨w', ?_, s2⟩
  unfold zf_Mo_layAt
  rw [zM_at h, zM_at h, zM_R h 1581 123 200 (by decide), zM_ix h 1581 123 200 (by decide) (by omega) (by decide), zM_n h 123 (by decide), zM_at h, zo_ad h hI (by omega), zbd_s, zn_cwM hF w _ (zn_h21 hz), zbd_s, zM_R h 1589 129 64 (by decide), zM_ix h 1589 129 64 (by decide) (by omega) (by decide), zlt_s, show zn_cw (nI (zaddr σ (zN σ 123 k))) = zword σ k 0 from (if_pos rfl).symm, zM_at m1, zM_R m1 1590 201 64 (by decide), zM_ix m1 1590 201 64 (by decide) (by omega) (by decide), zlt_s, zlt_s, show vp_nar .boolean (1 : Int32) = nI 1 from by decide]
  exact s1
theorem zo_fi44 (h : zM m am σ w) (hI : zI σ) (h1 : ∀ q, q < 64 → zN σ 201 q < 2) {k pl : Nat} (hk : k < zN σ 1580 0) (hp : pl + znw σ k ≤ 64) : ∀ c n q, q + c = pl + znw σ k → c < n → zf_Mo_fits_L44 F n w m (nI k) (nI pl) 1 (nI q) = some (zd (!zany (fun q => !decide (zN σ 201 q = 0)) q c), w) := by
  intro c
  induction c with
  | zero =>
    intro n q e1 e2
    obtain ⟨n, rfl⟩ : ∃ q, n = q + 1 := ⟨n - 1, by omega⟩
    unfold zf_Mo_fits_L44
    rw [zM_at h, zo_wo h hI hk, zbd_s, nI_add, if_pos ((nI_leI (by omega) (by omega)).mpr (by omega))]
    unfold zf_Mo_fits_j84
    rw [zb_1]
    rfl
  | succ c ih =>
    intro n q e1 e2
    obtain ⟨n, rfl⟩ : ∃ q, n = q + 1 := ⟨n - 1, by omega⟩
    have i6 := h1 q (by omega)
    unfold zf_Mo_fits_L44
    rw [zM_at h, zo_wo h hI hk, zbd_s, nI_add, if_neg (zn_le (by omega) (by omega) (by omega)), if_neg (by decide), zM_at h, zM_R h 1590 201 64 (by decide), zM_ix h 1590 201 64 (by decide) (by omega) (by decide), zM_n h 201 (by decide)]
    unfold zany
    by_cases hz : zN σ 201 q = 0
    · rw [if_pos ((zn_z (by omega)).mpr hz), decide_eq_true hz, Bool.not_true, Bool.false_or]
      unfold zf_Mo_fits_j76
      rw [zlt_s, zlt_s, zs1, ih n (q + 1) (by omega) (by omega)]
    · rw [if_neg (fun q => hz ((zn_z (by omega)).mp q)), decide_eq_false hz, Bool.not_false, Bool.true_or]
      unfold zf_Mo_fits_j76
      rw [zlt_s, zlt_s, zs1]
      cases n with
      | zero => omega
      | succ n =>
        unfold zf_Mo_fits_L44
        rw [zM_at h, zo_wo h hI hk, zbd_s, nI_add, if_pos (show (0 : Int32) = 0 from rfl)]
        unfold zf_Mo_fits_j84
        rw [zb_0]
        split <;> rfl
theorem zo_fi (hF : 2500 ≤ F) (h : zM m am σ w) (hI : zI σ) (h1 : ∀ q, q < 64 → zN σ 201 q < 2) {k pl b : Nat} (hk : k < zN σ 1580 0) (hb : b ≤ 4) (hp : pl < 64) : zf_Mo_fits F w m (nI k) (nI pl) (nI (16 * b)) = some (zd (zfit σ k b pl), w) := by
  have i0 := znw_le hI k
  have i1 := zI_msn hI
  have i2 := zI_mto hI k hk
  have i3 := zI_idn hI
  have i4 := zI_adr hI (zN σ 123 k)
  have k38 : zf_Mo_fits_j38 F w m (nI k) (nI pl) = some (0, w) := by
    unfold zf_Mo_fits_j38 zf_Mo_fits_j39
    rw [zlt_s, zlt_s]
    obtain ⟨n, rfl⟩ : ∃ q, F = q + 1 := ⟨F - 1, by omega⟩
    unfold zf_Mo_fits_L44
    rw [zM_at h, zo_wo h hI hk, zbd_s, nI_add, if_neg (zn_le (by omega) (by omega) (by omega)), if_pos rfl]
    unfold zf_Mo_fits_j84
    rw [zb_0]
  have e1 : zi_rem (nI pl) (16 : Int32) / (2 : Int32) = nI (pl % 16 / 2) := by
    show zi_rem (nI pl) (nI 16) / nI 2 = _
    rw [zq_rem (by omega) (by decide) (by decide), pk_div (by omega) (by decide) (by decide)]
  unfold zf_Mo_fits
  rw [zM_at h, zM_at h, zM_R h 1581 123 200 (by decide), zM_ix h 1581 123 200 (by decide) (by omega) (by decide), zM_n h 123 (by decide), zM_R h 1577 120 12 (by decide), zM_ix h 1577 120 12 (by decide) (by omega) (by decide), zM_n h 120 (by decide), e1, show (8 : Int32) = nI 8 from rfl, zq_rem (by omega) (by decide) (by decide)]
  unfold zfit
  by_cases q1 : pl % 16 / 2 = zN σ 120 (zN σ 123 k) % 8
  · rw [if_pos (by rw [q1]), zM_at h, zo_wo h hI hk, zbd_s, nI_add, decide_eq_true q1, Bool.true_and]
    by_cases q2 : pl + znw σ k ≤ 16 * b
    · rw [if_neg (zn_lt (by omega) (by omega) (by omega)), decide_eq_true q2, Bool.true_and]
      unfold zf_Mo_fits_j39
      rw [zlt_s, zlt_s, zo_fi44 h hI h1 hk (by omega) (znw σ k) F pl rfl (by omega)]
    · rw [if_pos ((nI_ltI (by omega) (by omega)).mpr (by omega)), decide_eq_false q2, Bool.false_and, k38]
      rfl
  · rw [if_neg (fun z => q1 ((nI_eqI (by omega) (by omega)).mp z)), decide_eq_false q1, Bool.false_and, k38]
    rfl
theorem zo_ly (hF : 2500 ≤ F) (h : zM m am σ w) (hI : zI σ) (h1 : ∀ q, q < 64 → zN σ 201 q < 2) {k b : Nat} (hk : k < zN σ 1580 0) (hb : b ≤ 4) : ∀ c n e, e + c = 16 * b → c < n → (zplace (zfit σ k b) e c = none → zf_Mo_lay_L3 F n w m (nI k) (nI (16 * b)) (nI e) = some (-1, w)) ∧ ∀ pl, zplace (zfit σ k b) e c = some pl → ∃ w', zf_Mo_lay_L3 F n w m (nI k) (nI (16 * b)) (nI e) = some (nI (pl + znw σ k), w') ∧ zM m am (zN_s (zlyS σ k pl (znw σ k)) 200 k 0) w' := by
  have i0 := znw_le hI k
  have i1 := zI_msn hI
  intro c
  induction c with
  | zero =>
    intro n e e1 e2
    obtain ⟨n, rfl⟩ : ∃ q, n = q + 1 := ⟨n - 1, by omega⟩
    refine ⟨fun _ => ?_, fun pl z => by cases z⟩
    unfold zf_Mo_lay_L3
    rw [if_pos ((nI_leI (by omega) (by omega)).mpr (by omega))]
  | succ c ih =>
    intro n e e1 e2
    obtain ⟨n, rfl⟩ : ∃ q, n = q + 1 := ⟨n - 1, by omega⟩
    have ih' := ih n (e + 1) (by omega) (by omega)
    by_cases hf : zfit σ k b e = true
    · have hz : zplace (zfit σ k b) e (c + 1) = some e := if_pos hf
      refine ⟨(fun z => by rw [hz] at z; cases z), fun pl z => ?_⟩
      rw [hz] at z
      cases z
      have hp : e + znw σ k ≤ 16 * b := by
        unfold zfit at hf
        rw [Bool.and_eq_true, Bool.and_eq_true] at hf
        exact of_decide_eq_true hf.2.1
      obtain ⟨w1, r1, r2⟩ := zo_la hF h hI hk (pl := e) (by omega)
      have m3 := zM_sn r2 200 (by decide) k 0
      refine ⟨_, ?_, m3⟩
      have wo : zf_Mo_wordsOf F (zw_sI w1 200 (am 200) k (nI 0)) m (nI k) = some (nI (znw σ k), zw_sI w1 200 (am 200) k (nI 0)) := by
        have hI3 : zI (zN_s (zlyS σ k e (znw σ k)) 200 k 0) := by
          obtain ⟨i_idn, i_msn, i_ldn, i_bts, i_pgn, i_b32, i_adr, i_res, i_inj, i_knd, i_cal, i_cal0, i_mto, i_mpr, i_mnu, i_mle, i_wts, i_wtn, i_ld, i_mk, i_air, i_hcn, i_hrs, i_hc0, i_ct0, i_mi0, i_dis, i_kpn, i_kmn, i_kof, i_knu, i_lat⟩ := hI
          refine ⟨i_idn, i_msn, i_ldn, i_bts, i_pgn, i_b32, i_adr, i_res, i_inj, i_knd, i_cal, i_cal0, i_mto, i_mpr, i_mnu, i_mle, fun q => ?_, ?_, i_ld, i_mk, i_air, i_hcn, i_hrs, i_hc0, i_ct0, i_mi0, i_dis, i_kpn, i_kmn, i_kof, i_knu, i_lat⟩
          · show (if 200 = 200 ∧ q = k then 0 else zN σ 200 q) < 2
            split
            · decide
            · exact i_wts q
          · refine Nat.le_trans (zwait_mo (g := zN σ 200) _ _ (fun j => ?_)) i_wtn
            show (if 200 = 200 ∧ j = k then 0 else zN σ 200 j) = 0 ∨ _
            split
            · exact Or.inl rfl
            · rename_i hz
              exact Or.inr (if_neg hz)
        exact zo_wo m3 hI3 hk
      unfold zf_Mo_lay_L3
      rw [if_neg (zn_le (by omega) (by omega) (by omega)), zM_at h, zo_fi hF h hI h1 hk hb (by omega), hf, zbd_s, if_neg (by decide), zM_at h, r1, zbv_s, zM_at r2, zM_R r2 1586 200 200 (by decide), zM_ix r2 1586 200 200 (by decide) (by omega) (by decide), zlt_s, show vp_nar .boolean (0 : Int32) = nI 0 from by decide, zM_at m3, wo, zbd_s, nI_add]
    · have hz : zplace (zfit σ k b) e (c + 1) = zplace (zfit σ k b) (e + 1) c := if_neg hf
      rw [hz]
      have st : zf_Mo_lay_L3 F (n + 1) w m (nI k) (nI (16 * b)) (nI e) = zf_Mo_lay_L3 F n w m (nI k) (nI (16 * b)) (nI (e + 1)) := by
        rw [zf_Mo_lay_L3, if_neg (zn_le (by omega) (by omega) (by omega)), zM_at h, zo_fi hF h hI h1 hk hb (by omega), Bool.eq_false_iff.mpr hf, zbd_s, if_pos (by decide), zlt_s, zs1]
      rw [st]
      exact ih'
end ZTR2
