/-! hear: both sides make room -/
theorem zrm_0 (σ : zA) (p : Nat) : zrm σ p 0 0 = σ := by
  refine Prod.ext ?_ (Prod.ext ?_ rfl)
  · funext κ j
    exact if_neg (by omega)
  · funext κ j
    exact if_neg (by omega)
theorem zrm_j (σ : zA) (p a b : Nat) : zJ_s (zrm σ p a b) 137 (220 * p + b) (zJ σ 137 (220 * p + b + 22)) = zrm σ p a (b + 1) := by
  refine Prod.ext rfl (Prod.ext ?_ rfl)
  funext κ j
  show (if κ = 137 ∧ j = 220 * p + b then zJ σ 137 (220 * p + b + 22) else if κ = 137 ∧ 220 * p ≤ j ∧ j < 220 * p + b then zJ σ 137 (j + 22) else zJ σ κ j) = (if κ = 137 ∧ 220 * p ≤ j ∧ j < 220 * p + (b + 1) then zJ σ 137 (j + 22) else zJ σ κ j)
  by_cases h1 : κ = 137 ∧ j = 220 * p + b
  · rw [if_pos h1, if_pos (by omega), h1.2]
  · rw [if_neg h1]
    by_cases h2 : κ = 137 ∧ 220 * p ≤ j ∧ j < 220 * p + b
    · rw [if_pos h2, if_pos (by omega)]
    · rw [if_neg h2, if_neg (by omega)]
theorem zrm_n (σ : zA) (p t b : Nat) : zN_s (zN_s (zN_s (zN_s (zrm σ p t b) 134 (10 * p + t) (zN σ 134 (10 * p + t + 1))) 135 (10 * p + t) (zN σ 135 (10 * p + t + 1))) 136 (10 * p + t) (zN σ 136 (10 * p + t + 1))) 202 (10 * p + t) (zN σ 202 (10 * p + t + 1)) = zrm σ p (t + 1) b := by
  refine Prod.ext ?_ (Prod.ext rfl rfl)
  funext κ j
  show (if κ = 202 ∧ j = 10 * p + t then zN σ 202 (10 * p + t + 1) else if κ = 136 ∧ j = 10 * p + t then zN σ 136 (10 * p + t + 1) else if κ = 135 ∧ j = 10 * p + t then zN σ 135 (10 * p + t + 1) else if κ = 134 ∧ j = 10 * p + t then zN σ 134 (10 * p + t + 1) else if (κ = 134 ∨ κ = 135 ∨ κ = 136 ∨ κ = 202) ∧ 10 * p ≤ j ∧ j < 10 * p + t then zN σ κ (j + 1) else zN σ κ j) = (if (κ = 134 ∨ κ = 135 ∨ κ = 136 ∨ κ = 202) ∧ 10 * p ≤ j ∧ j < 10 * p + (t + 1) then zN σ κ (j + 1) else zN σ κ j)
  by_cases h1 : κ = 202 ∧ j = 10 * p + t
  · rw [if_pos h1, if_pos (by omega), h1.1, h1.2]
  rw [if_neg h1]
  by_cases h2 : κ = 136 ∧ j = 10 * p + t
  · rw [if_pos h2, if_pos (by omega), h2.1, h2.2]
  rw [if_neg h2]
  by_cases h3 : κ = 135 ∧ j = 10 * p + t
  · rw [if_pos h3, if_pos (by omega), h3.1, h3.2]
  rw [if_neg h3]
  by_cases h4 : κ = 134 ∧ j = 10 * p + t
  · rw [if_pos h4, if_pos (by omega), h4.1, h4.2]
  rw [if_neg h4]
  by_cases h5 : (κ = 134 ∨ κ = 135 ∨ κ = 136 ∨ κ = 202) ∧ 10 * p ≤ j ∧ j < 10 * p + t
  · rw [if_pos h5, if_pos (by omega)]
  · rw [if_neg h5, if_neg (by omega)]
theorem znarb {v : Nat} (h : v < 2) : vp_nar .boolean (nI v) = nI v := by
  match v, h with
  | 0, _ => decide
  | 1, _ => decide
section ZH5
variable {ac : Nat → Nat → Nat} {τ : zB} {am : Nat → Nat} {σ : zA} {w w2 : zw_T} {F m p : Nat}
theorem zo_146 (h : zM m am σ w) (hp : p < 6) (h7 : zN σ 1607 0 = p) : ∃ w', zf_Mo_room_j146 F w m (nI (10 * p)) = some (nI (10 * p + zN σ 133 p), w') ∧ zM m am (zN_s σ 133 p (zN σ 133 p + 1)) w' := by
  have m1 := zM_sn h 133 (by decide) p (zN σ 133 p + 1)
  refine ⟨_, ?_, m1⟩
  have g1 : zw_I w 1607 m 0 = nI p := by rw [zM_fn h 1607 (by decide) (by decide), h7]
  have g2 : zw_I (zw_sI w 133 (am 133) p (nI (zN σ 133 p + 1))) 1607 m 0 = nI p := by
    rw [zM_fn m1 1607 (by decide) (by decide)]
    exact congrArg nI h7
  have g3 : zw_I (zw_sI w 133 (am 133) p (nI (zN σ 133 p + 1))) 133 (am 133) p = nI (zN σ 133 p + 1) := by
    rw [zM_n m1 133 (by decide)]
    exact congrArg nI (if_pos ⟨rfl, rfl⟩)
  unfold zf_Mo_room_j146
  rw [zM_at h, zM_at h, zM_R h 1598 133 6 (by decide), g1, zM_ix h 1598 133 6 (by decide) hp (by decide), zM_ix h 1598 133 6 (by decide) hp (by decide), zM_n h 133 (by decide), zs1, zlt_s, zM_at m1, zM_at m1, zM_R m1 1598 133 6 (by decide), g2, zM_ix m1 1598 133 6 (by decide) hp (by decide), g3, nI_add, show nI (10 * p + (zN σ 133 p + 1)) - (1 : Int32) = nI (10 * p + zN σ 133 p) from pk_sub (b := 1) (by omega)]
theorem zo_r90 (hp : p < 6) {k24 : zw_T → Nat → Int32 → Int32 → Option (Int32 × zw_T)} {t : Nat} (ht : t < 9) : ∀ c n s w, s + c = 22 → c < n → zM m am (zrm σ p (t + 1) (22 * t + s)) w → ∃ w', zf_Mo_room_L90 F k24 n w m (nI (10 * p)) (nI (10 * p + t)) (nI s) = k24 w' m (nI (10 * p)) (nI (10 * p + (t + 1))) ∧ zM m am (zrm σ p (t + 1) (22 * (t + 1))) w' := by
  intro c
  induction c with
  | zero =>
    intro n s w e1 e2 h
    obtain ⟨n, rfl⟩ : ∃ q, n = q + 1 := ⟨n - 1, by omega⟩
    have es : s = 22 := by omega
    subst es
    refine ⟨w, ?_, by rw [show 22 * (t + 1) = 22 * t + 22 by omega]; exact h⟩
    rw [zf_Mo_room_L90, if_pos (by decide), zs1, zlt_s]
    rfl
  | succ c ih =>
    intro n s w e1 e2 h
    obtain ⟨n, rfl⟩ : ∃ q, n = q + 1 := ⟨n - 1, by omega⟩
    have m1 := zM_sj h 137 (by decide) (220 * p + (22 * t + s)) (zJ σ 137 (220 * p + (22 * t + s) + 22))
    have m2 := m1
    rw [zrm_j] at m2
    obtain ⟨w', r1, r2⟩ := ih n (s + 1) _ (by omega) (by omega) m2
    refine ⟨w', ?_, r2⟩
    have e3 : (22 : Int32) * nI (10 * p + t) + (22 : Int32) + nI s = nI (220 * p + (22 * t + s) + 22) := by
      show nI 22 * nI (10 * p + t) + nI 22 + nI s = _
      rw [zmd, nI_add]
      congr 1
      omega
    have e4 : (22 : Int32) * nI (10 * p + t) + nI s = nI (220 * p + (22 * t + s)) := by
      show nI 22 * nI (10 * p + t) + nI s = _
      rw [zmd]
      congr 1
      omega
    have e5 : zJ (zrm σ p (t + 1) (22 * t + s)) 137 (220 * p + (22 * t + s) + 22) = zJ σ 137 (220 * p + (22 * t + s) + 22) := if_neg (by omega)
    rw [zf_Mo_room_L90, if_neg (show ¬ (22 : Int32) ≤ nI s from zn_le (a := 22) (by decide) (by omega) (by omega)), zM_at h, zM_at h, zM_R h 1603 137 1320 (by decide), e3, e4, zM_ix h 1603 137 1320 (by decide) (by omega) (by decide), zM_ix h 1603 137 1320 (by decide) (by omega) (by decide), zM_j h 137 (by decide), e5, zlt_s, zs1, zlt_s, r1]
theorem zo_r24 (hF : 2500 ≤ F) (hI : zI σ) (hp : p < 6) (h7 : zN σ 1607 0 = p) (hk : zN σ 133 p = 10) : ∀ c n t w, t + c = 9 → c < n → zM m am (zrm σ p t (22 * t)) w → ∃ w', zf_Mo_room_L24 F n w m (nI (10 * p)) (nI (10 * p + t)) = some (nI (10 * p + 9), w') ∧ zM m am (zN_s (zdrF σ p) 133 p 10) w' := by
  intro c
  induction c with
  | zero =>
    intro n t w e1 e2 h
    obtain ⟨n, rfl⟩ : ∃ q, n = q + 1 := ⟨n - 1, by omega⟩
    have et : t = 9 := by omega
    subst et
    have h7' : zN (zrm σ p 9 (22 * 9)) 1607 0 = p := h7
    have hk' : zN (zrm σ p 9 (22 * 9)) 133 p = 10 := hk
    have m1 := zM_sn h 133 (by decide) p 9
    obtain ⟨w', r1, r2⟩ := zo_146 (F := F) m1 hp h7
    have ek : zN (zN_s (zrm σ p 9 (22 * 9)) 133 p 9) 133 p = 9 := if_pos ⟨rfl, rfl⟩
    rw [ek] at r1 r2
    refine ⟨w', ?_, r2⟩
    have g1 : zw_I w 1607 m 0 = nI p := by rw [zM_fn h 1607 (by decide) (by decide), h7']
    rw [zf_Mo_room_L24, show nI (10 * p) + (9 : Int32) = nI (10 * p + 9) from nI_add _ 9, if_pos ((nI_leI (by omega) (by omega)).mpr (Nat.le_refl _)), zM_at h, zM_at h, zM_R h 1598 133 6 (by decide), g1, zM_ix h 1598 133 6 (by decide) hp (by decide), zM_ix h 1598 133 6 (by decide) hp (by decide), zM_n h 133 (by decide), hk', show nI 10 - (1 : Int32) = nI 9 from by decide, zlt_s, r1]
  | succ c ih =>
    intro n t w e1 e2 h
    obtain ⟨n, rfl⟩ : ∃ q, n = q + 1 := ⟨n - 1, by omega⟩
    have m1 := zM_sn h 134 (by decide) (10 * p + t) (zN σ 134 (10 * p + t + 1))
    have m2 := zM_sn m1 135 (by decide) (10 * p + t) (zN σ 135 (10 * p + t + 1))
    have m3 := zM_sn m2 136 (by decide) (10 * p + t) (zN σ 136 (10 * p + t + 1))
    have m4 := zM_sn m3 202 (by decide) (10 * p + t) (zN σ 202 (10 * p + t + 1))
    have m5 := m4
    rw [zrm_n] at m5
    obtain ⟨w5, r1, r2⟩ := zo_r90 (F := F) (k24 := zf_Mo_room_L24 F n) hp (t := t) (by omega) 22 F 0 _ (by omega) (by omega) m5
    obtain ⟨w', s1, s2⟩ := ih n (t + 1) w5 (by omega) (by omega) r2
    refine ⟨w', ?_, s2⟩
    have e1 : zN (zrm σ p t (22 * t)) 134 (10 * p + t + 1) = zN σ 134 (10 * p + t + 1) := if_neg (by omega)
    have e2 : zN (zrm σ p t (22 * t)) 135 (10 * p + t + 1) = zN σ 135 (10 * p + t + 1) := if_neg (by omega)
    have e3 : zN (zrm σ p t (22 * t)) 136 (10 * p + t + 1) = zN σ 136 (10 * p + t + 1) := if_neg (by omega)
    have e4 : zN (zrm σ p t (22 * t)) 202 (10 * p + t + 1) = zN σ 202 (10 * p + t + 1) := if_neg (by omega)
    have g2 := (zM_n m1 135 (by decide) (10 * p + t + 1)).trans (congrArg nI e2)
    have g3 := (zM_n m2 136 (by decide) (10 * p + t + 1)).trans (congrArg nI e3)
    have g4 := (zM_n m3 202 (by decide) (10 * p + t + 1)).trans (congrArg nI e4)
    have nb := znarb (zI_mk hI (10 * p + t + 1))
    have r1 : zf_Mo_room_L90 F (zf_Mo_room_L24 F n) F _ m (nI (10 * p)) (nI (10 * p + t)) (0 : Int32) = _ := r1
    rw [zf_Mo_room_L24, show nI (10 * p) + (9 : Int32) = nI (10 * p + 9) from nI_add _ 9, if_neg (zn_le (by omega) (by omega) (by omega)), zs1, zM_at h, zM_at h, zM_R h 1599 134 60 (by decide), zM_ix h 1599 134 60 (by decide) (by omega) (by decide), zM_ix h 1599 134 60 (by decide) (by omega) (by decide), zM_n h 134 (by decide), e1, zlt_s, zM_at m1, zM_at m1, zM_R m1 1600 135 60 (by decide), zM_ix m1 1600 135 60 (by decide) (by omega) (by decide), zM_ix m1 1600 135 60 (by decide) (by omega) (by decide), g2, zlt_s, zM_at m2, zM_at m2, zM_R m2 1601 136 60 (by decide), zM_ix m2 1601 136 60 (by decide) (by omega) (by decide), zM_ix m2 1601 136 60 (by decide) (by omega) (by decide), g3, zlt_s, zM_at m3, zM_at m3, zM_R m3 1602 202 60 (by decide), zM_ix m3 1602 202 60 (by decide) (by omega) (by decide), zM_ix m3 1602 202 60 (by decide) (by omega) (by decide), g4, nb, zlt_s, zlt_s, r1, s1]
theorem zo_rm (hF : 2500 ≤ F) (h : zM m am σ w) (hI : zI σ) (hp : p < 6) (h7 : zN σ 1607 0 = p) : (zN σ 133 p < 10 → ∃ w', zf_Mo_room F w m = some (nI (10 * p + zN σ 133 p), w') ∧ zM m am (zN_s σ 133 p (zN σ 133 p + 1)) w') ∧ (zN σ 133 p = 10 → ∃ w', zf_Mo_room F w m = some (nI (10 * p + 9), w') ∧ zM m am (zN_s (zdrF σ p) 133 p 10) w') := by
  have g1 : zw_I w 1607 m 0 = nI p := by rw [zM_fn h 1607 (by decide) (by decide), h7]
  refine ⟨fun hk => ?_, fun hk => ?_⟩
  · obtain ⟨w', r1, r2⟩ := zo_146 (F := F) h hp h7
    refine ⟨w', ?_, r2⟩
    unfold zf_Mo_room
    rw [zM_at h, g1, show (10 : Int32) * nI p = nI (10 * p) from pk_mul 10 p, zlt_s, zM_at h, zM_at h, zM_R h 1598 133 6 (by decide), g1, zM_ix h 1598 133 6 (by decide) hp (by decide), zM_n h 133 (by decide), if_neg (show ¬ nI (zN σ 133 p) = (10 : Int32) from fun z => by have := (nI_eqI (b := 10) (by omega) (by decide)).mp z; omega), r1]
  · have h' := h
    rw [← zrm_0 σ p] at h'
    obtain ⟨w', r1, r2⟩ := zo_r24 hF hI hp h7 hk 9 F 0 w (by omega) (by omega) h'
    refine ⟨w', ?_, r2⟩
    unfold zf_Mo_room
    rw [zM_at h, g1, show (10 : Int32) * nI p = nI (10 * p) from pk_mul 10 p, zlt_s, zM_at h, zM_at h, zM_R h 1598 133 6 (by decide), g1, zM_ix h 1598 133 6 (by decide) hp (by decide), zM_n h 133 (by decide), hk, if_pos (by decide), zlt_s]
    exact r1
theorem zb_sI_same (τ : zB) {κ i j : Nat} {v : Int32} (h : zb_I τ κ i j = v) : zb_sI τ κ i j v = τ := by
  have e : upd (zb_I τ κ i) j v = zb_I τ κ i := by
    funext b
    by_cases hb : b = j
    · rw [hb, pk_us, h]
    · rw [pk_un hb]
  unfold zb_sI
  rw [e]
  unfold zb_sF
  have : (fun k' a => if k' = κ ∧ a = i then zb_I τ κ i else τ.2.1 k' a) = τ.2.1 := by
    funext k' a
    by_cases h : k' = κ ∧ a = i
    · rw [if_pos h, h.1, h.2]
      rfl
    · rw [if_neg h]
  rw [this]
theorem zb_sI_sI (τ : zB) (κ i j : Nat) (u v : Int32) : zb_sI (zb_sI τ κ i j u) κ i j v = zb_sI τ κ i j v := by
  have e : upd (zb_I (zb_sI τ κ i j u) κ i) j v = upd (zb_I τ κ i) j v := by
    funext b
    by_cases hb : b = j
    · rw [hb, pk_us, pk_us]
    · rw [pk_un hb, pk_un hb, zb_I_sI, if_neg (fun z => hb z.2.2)]
  show zb_sF (zb_sF τ κ i (upd (zb_I τ κ i) j u)) κ i (upd (zb_I (zb_sI τ κ i j u) κ i) j v) = _
  rw [e]
  exact zb_sF_sF τ κ i _ _
/-- the class's next place -/
theorem zc_nx (hC : zC ac τ w) (hI : zI σ) (h2 : zP2 τ σ) {o : Nat → Nat} (h4 : zP4 τ σ o) (hp : p < zN σ 1595 0) : (zN σ 133 p < 10 → zf_Pg_nextStored F w (ac 7 p) = some (some (ac 8 (10 * p + (o p + zN σ 133 p) % 10)), zw_sI w 1388 (ac 7 p) 0 (nI (zN σ 133 p + 1)))) ∧ (zN σ 133 p = 10 → zf_Pg_nextStored F w (ac 7 p) = some (some (ac 8 (10 * p + (o p + 10) % 10)), zw_sI w 1387 (ac 7 p) 0 (nI ((o p + 1) % 10)))) := by
  have i1 := zI_kpn hI p
  have a7 := zp_a7 h2 hp
  have op := zP4_o h4 p hp
  have hd : ∀ K : Option Nat → Option (Option Nat × zw_T), (zf_at w 7 (some (ac 7 p)) fun a1 => zf_at w 7 (some (ac 7 p)) fun a5 => zf_at w 7 (some (ac 7 p)) fun a9 => zf_ix w 407 (zw_R w 1386 a1 0) (zi_rem ((zw_I w 1387 a5 0) + (zw_I w 1388 a9 0)) (10 : Int32)) fun a16 j16 => zf_let (zw_R w 407 a16 j16) K) = K (some (ac 8 (10 * p + (o p + zN σ 133 p) % 10))) := by
    intro K
    rw [zC_at hC 7 p a7, zC_at hC 7 p a7, zC_at hC 7 p a7, zC_R hC 1386 7 407 p rfl rfl a7 (zP2_gr h2 p hp), zC_I hC 1387 7 p rfl a7, zP4_ol h4 p hp, zC_I hC 1388 7 p rfl a7, zP4_n h4 p hp, nI_add, show (10 : Int32) = nI 10 from rfl, zq_rem (by omega) (by decide) (by decide), zC_ix hC 407 p (zp_a407 h2 hp) (by rw [zP2_gl h2 p hp]; omega) (by omega), zC_R hC 407 407 8 p rfl rfl (zp_a407 h2 hp) (zP4_r h4 p _ hp (by omega)), zlt_s]
  refine ⟨fun hk => ?_, fun hk => ?_⟩
  · unfold zf_Pg_nextStored
    rw [hd, zC_at hC 7 p a7, zC_I hC 1388 7 p rfl a7, zP4_n h4 p hp, if_neg (show ¬ (10 : Int32) ≤ nI (zN σ 133 p) from zn_le (a := 10) (by decide) (by omega) (by omega)), zC_at hC 7 p a7, zC_at hC 7 p a7, zC_I hC 1388 7 p rfl a7, zP4_n h4 p hp, zs1, zlt_s]
    rfl
  · unfold zf_Pg_nextStored
    rw [hd, zC_at hC 7 p a7, zC_I hC 1388 7 p rfl a7, zP4_n h4 p hp, hk, if_pos (by decide), zC_at hC 7 p a7, zC_at hC 7 p a7, zC_I hC 1387 7 p rfl a7, zP4_ol h4 p hp, zs1, show (10 : Int32) = nI 10 from rfl, zq_rem (by omega) (by decide) (by decide), zlt_s]
    rfl
/-- both make room -/
theorem zh_rm (hF : 2500 ≤ F) {q : Nat} (hH : zH p q ac τ σ w) : ∃ τ1 σ1 o1 w', zf_Pg_nextStored F w (ac 7 p) = some (some (ac 8 (10 * p + (o1 p + zN σ1 133 p) % 10)), w') ∧ zC ac (zb_sI τ1 1388 p 0 (nI (zN σ1 133 p + 1))) w' ∧ zN σ1 133 p < 10 ∧ zI σ1 ∧ (zP0 τ1 ∧ zP1 τ1 σ1 ∧ zP2 τ1 σ1 ∧ zP3 τ1 σ1 ∧ zP4 τ1 σ1 o1 ∧ zP5 τ1 σ1 ∧ zP6 τ1 σ1 ∧ zP7 τ1 σ1) ∧ zhR p q τ1 σ1 ∧ (∀ κ, κ ≠ 133 → κ ≠ 134 → κ ≠ 135 → κ ≠ 136 → κ ≠ 202 → zN σ1 κ = zN σ κ) ∧ zJ σ1 1608 0 = zJ σ 1608 0 ∧ zb_I τ1 103 0 = zb_I τ 103 0 ∧ zb_R τ1 = zb_R τ ∧ ∀ w2, zM m am σ w2 → ∃ w2', zf_Mo_room F w2 m = some (nI (10 * p + zN σ1 133 p), w2') ∧ zM m am (zN_s σ1 133 p (zN σ1 133 p + 1)) w2' := by
  have hp6 := zH_p6 hH
  obtain ⟨hC, hI, ⟨h0, h1, h2, h3, ⟨o, h4⟩, h5, h6, h7⟩, hR, hp⟩ := hH
  have i1 := zI_kpn hI p
  have a7 := zp_a7 h2 hp
  obtain ⟨n1, n2⟩ := zc_nx (F := F) hC hI h2 h4 hp
  by_cases hk : zN σ 133 p = 10
  · refine ⟨zdrT τ p (o p), zdrF σ p, fun r => if r = p then (o p + 1) % 10 else o r, zw_sI w 1387 (ac 7 p) 0 (nI ((o p + 1) % 10)), ?_, ?_, ?_, zdr_I hI hp, ⟨h0, h1, h2, h3, zdr_P4 hI h4 hp hk, h5, h6, h7⟩, hR, fun κ k1 k2 k3 k4 k5 => ?_, rfl, rfl, rfl, fun w2 h => ?_⟩
    · have e9 : zN (zdrF σ p) 133 p = 9 := if_pos ⟨rfl, rfl⟩
      rw [e9, n2 hk]
      have op := zP4_o h4 p hp
      have eo : (fun r => if r = p then (o p + 1) % 10 else o r) p = (o p + 1) % 10 := if_pos rfl
      rw [eo, show ((o p + 1) % 10 + 9) % 10 = (o p + 10) % 10 by omega]
    · have e9 : zN (zdrF σ p) 133 p = 9 := if_pos ⟨rfl, rfl⟩
      rw [e9]
      unfold zdrT
      rw [zb_sI_sI, zb_sI_same _ (by rw [zb_I_ne _ (by decide), zP4_n h4 p hp, hk])]
      exact zC_sI hC 1387 7 p rfl a7 0 _
    · have e9 : zN (zdrF σ p) 133 p = 9 := if_pos ⟨rfl, rfl⟩
      rw [e9]
      decide
    · funext j
      show (if κ = 133 ∧ j = p then 9 else if (κ = 134 ∨ κ = 135 ∨ κ = 136 ∨ κ = 202) ∧ 10 * p ≤ j ∧ j < 10 * p + 9 then zN σ κ (j + 1) else zN σ κ j) = zN σ κ j
      rw [if_neg (fun z => k1 z.1), if_neg (by omega)]
    · have e9 : zN (zdrF σ p) 133 p = 9 := if_pos ⟨rfl, rfl⟩
      rw [e9]
      exact (zo_rm hF h hI hp6 hR.2.2.1).2 hk
  · exact ⟨τ, σ, o, _, n1 (by omega), zC_sI hC 1388 7 p rfl a7 0 _, by omega, hI, ⟨h0, h1, h2, h3, h4, h5, h6, h7⟩, hR, fun κ _ _ _ _ _ => rfl, rfl, rfl, rfl, fun w2 h => (zo_rm hF h hI hp6 hR.2.2.1).1 (by omega)⟩
end ZH5
