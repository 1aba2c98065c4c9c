/-! hear: a message ends -/
theorem zb_n {ρ : Type} {b : Nat} (hb : b < 2) (K : Option ρ) : zf_b (nI b) K = K := by
  match b, hb with
  | 0, _ => exact zb_0 K
  | 1, _ => exact zb_1 K
theorem zapJ_0 (σ : zA) (y : Nat) (sg : Nat → Int32) : zapJ σ y 0 sg = σ := by
  refine Prod.ext rfl (Prod.ext ?_ rfl)
  funext κ j
  exact if_neg (by omega)
theorem zapJ_s (σ : zA) (y c : Nat) (sg : Nat → Int32) : zJ_s (zapJ σ y c sg) 137 (22 * y + c) (sg c) = zapJ σ y (c + 1) sg := by
  refine Prod.ext rfl (Prod.ext ?_ rfl)
  funext κ j
  show (if κ = 137 ∧ j = 22 * y + c then sg c else if κ = 137 ∧ 22 * y ≤ j ∧ j < 22 * y + c then sg (j - 22 * y) else zJ σ κ j) = (if κ = 137 ∧ 22 * y ≤ j ∧ j < 22 * y + (c + 1) then sg (j - 22 * y) else zJ σ κ j)
  by_cases h1 : κ = 137 ∧ j = 22 * y + c
  · rw [if_pos h1, if_pos (by omega), h1.2, Nat.add_sub_cancel_left]
  · rw [if_neg h1]
    by_cases h2 : κ = 137 ∧ 22 * y ≤ j ∧ j < 22 * y + c
    · rw [if_pos h2, if_pos (by omega)]
    · rw [if_neg h2, if_neg (by omega)]
def zfinN (F : Nat) (w : zw_T) (a0 : Nat) (x4 : Int32) : Option zw_T := zf_at w 10 (some a0) fun a222 => zf_bv (zf_Mo_note F w a222 x4) fun w222 => zf_at w222 10 (some a0) fun a227 => zf_at w222 10 (some a0) fun a232 => zf_let (zw_sI w222 1611 a232 0 ((zw_I w222 1611 a227 0) + (1 : Int32))) fun w232 => zf_Mo_finish_j235 F w232 a0
section ZH7
variable {ac : Nat → Nat → Nat} {τ : zB} {am : Nat → Nat} {σ : zA} {w w2 : zw_T} {F m p q : Nat}
theorem zh_off (hH : zH p q ac τ σ w) : zH p q ac (zb_sR τ 1259 0 0 none) (zJ_s σ 1608 0 (-1)) (zw_sR w 1259 (ac 5 0) 0 none) := by
  obtain ⟨hC, hI, ⟨h0, h1, h2, h3, h4, h5, h6, h7⟩, ⟨r1, r2, r3, r4, r5⟩, hp⟩ := hH
  exact ⟨zC_sR hC 1259 5 2 0 rfl rfl (zP0_a5 h0) 0 (v := none) (fun j hj => by cases hj), hI, ⟨h0, h1, h2, h3, h4, h5, h6, h7⟩, ⟨r1, r2, r3, r4, Or.inl ⟨rfl, rfl⟩⟩, hp⟩
theorem zo_185 (hF : 2500 ≤ F) (hI : zI σ) {i y fr T : Nat} {n : Int32} {g : Nat → Nat} (hi : i < 12) (hr : zJ σ 1608 0 = nI i) (hg : ∀ s, g s = zsv (zN σ 140) (zwide σ i * s) (zwide σ i)) (hy : y < 60) (hT : T ≤ 22) (hfr : 1 ≤ fr) : ∀ c N x w, x + c = T → fr ≤ x → c < N → zM m am (zapJ σ y (x - fr) (fun s => nI (g (fr + s)))) w → ∃ w', zf_Mo_finish_L185 F N w m (nI T) n (nI fr) (nI y) (nI x) = zfinN F w' m n ∧ zM m am (zapJ σ y (T - fr) (fun s => nI (g (fr + s)))) w' := by
  have iw : zwide σ i ≤ 7 := by
    unfold zwide
    split <;> omega
  intro c
  induction c with
  | zero =>
    intro N x w e1 e2 e3 h
    obtain ⟨N, rfl⟩ : ∃ q, N = q + 1 := ⟨N - 1, by omega⟩
    have ex : x = T := by omega
    subst ex
    refine ⟨w, ?_, h⟩
    rw [zf_Mo_finish_L185, if_pos ((nI_leI (by omega) (by omega)).mpr (Nat.le_refl _))]
    rfl
  | succ c ih =>
    intro N x w e1 e2 e3 h
    obtain ⟨N, rfl⟩ : ∃ q, N = q + 1 := ⟨N - 1, by omega⟩
    have m1 := zM_sj h 137 (by decide) (22 * y + (x - fr)) (nI (g (fr + (x - fr))))
    have m2 := m1
    rw [show nI (g (fr + (x - fr))) = (fun s => nI (g (fr + s))) (x - fr) from rfl, zapJ_s, show x - fr + 1 = x + 1 - fr by omega] at m2
    obtain ⟨w', r1, r2⟩ := ih N (x + 1) _ (by omega) (by omega) (by omega) m2
    refine ⟨w', ?_, r2⟩
    have hI' : zI (zapJ σ y (x - fr) (fun s => nI (g (fr + s)))) := hI
    have gs : zf_Mo_gotSign F w m (nI x) = some (nI (zsv (zN σ 140) (zwide σ i * x) (zwide σ i)), w) := zo_gs hF h hI' hi hr (by
      show zwide σ i * x + zwide σ i ≤ 160
      have := Nat.mul_le_mul_right x iw
      omega)
    have e5 : (22 : Int32) * nI y + nI x - nI fr = nI (22 * y + (x - fr)) := by
      show nI 22 * nI y + nI x - nI fr = _
      rw [zmd, pk_sub (by omega)]
      congr 1
      omega
    rw [zf_Mo_finish_L185, if_neg (zn_le (by omega) (by omega) (by omega)), zM_at h, zM_at h, gs, zbd_s, zM_R h 1603 137 1320 (by decide), e5, zM_ix h 1603 137 1320 (by decide) (by omega) (by decide), ← hg x, show nI (g x) = nI (g (fr + (x - fr))) from by rw [show fr + (x - fr) = x by omega], zlt_s, zs1, zlt_s, r1]
/-- what finish comes to -/
theorem zo_fin (hF : 2500 ≤ F) (h : zM m am σ w) (hI : zI σ) {i S fl fr : Nat} {x1 : Int32} {g : Nat → Nat} (hi : i < 12) (hr : zJ σ 1608 0 = nI i) (hN : zN σ 1610 0 < 2 ^ 31) (hS : S = min 22 (zN σ 1610 0 / zwide σ i)) (hg : ∀ s, g s = zsv (zN σ 140) (zwide σ i * s) (zwide σ i)) (hb : ∀ s, s < S → g s < 128) (hfl : fl = if zN σ 121 i = 0 then 12 else 0) (hfr : fr = if zN σ 121 i = 0 then 2 else 1) : zf_Mo_finish F w m x1 = zf_Mo_finish_j111 F w m x1 (nI (ztr g fl fr S)) ((znum (zN σ 121 i) S g).elim (-1) nI) (nI fr) := by
  have i1 := zI_knd hI i
  have hS22 : S ≤ 22 := by omega
  have hfl' : fl < 128 := by
    rw [hfl]
    split <;> decide
  have hfr' : fr < 100 := by
    rw [hfr]
    split <;> decide
  have k46 : zf_Mo_finish_j46 F w m x1 (nI S) = zf_Mo_finish_j111 F w m x1 (nI (ztr g fl fr S)) ((znum (zN σ 121 i) S g).elim (-1) nI) (nI fr) := by
    have e2 : (2 : Int32) - nI (zN σ 121 i) = nI fr := by
      rw [hfr]
      by_cases hz : zN σ 121 i = 0
      · rw [if_pos hz, hz]
        decide
      · rw [if_neg hz, show zN σ 121 i = 1 by omega]
        decide
    have tr := zo_tr (F := F) hF h hI (fl := fl) (fr := fr) hi hr hg hfl' hfr' (x1 := x1) (x4 := (znum (zN σ 121 i) S g).elim (-1) nI) S F hS22 hb (by omega)
    unfold zf_Mo_finish_j46
    rw [zlt_s, zM_at h, zo_no hF h hI hi hr hS22 hg hb, zbd_s, zlt_s, zM_at h, zM_at h, zM_R h 1578 121 12 (by decide), zM_fj h 1608 (by decide) (by decide), hr, zM_ix h 1578 121 12 (by decide) hi (by decide), zM_n h 121 (by decide), e2, zlt_s, zM_at h, zM_at h, zM_R h 1578 121 12 (by decide), zM_fj h 1608 (by decide) (by decide), hr, zM_ix h 1578 121 12 (by decide) hi (by decide), zM_n h 121 (by decide)]
    by_cases hz : zN σ 121 i = 0
    · rw [if_pos hz] at hfl
      rw [if_pos ((zn_z (by omega)).mpr hz)]
      unfold zf_Mo_finish_j85
      rw [zlt_s, show (12 : Int32) = nI fl from by rw [hfl]; rfl, tr]
    · rw [if_neg hz] at hfl
      rw [if_neg (fun z => hz ((zn_z (by omega)).mp z))]
      unfold zf_Mo_finish_j85
      rw [zlt_s, show (0 : Int32) = nI fl from by rw [hfl]; rfl, tr]
  have k26 : zf_Mo_finish_j26 F w m x1 (nI (zwide σ i)) = zf_Mo_finish_j46 F w m x1 (nI S) := by
    have hw : zwide σ i = 4 ∨ zwide σ i = 7 := by
      unfold zwide
      split
      · exact Or.inl rfl
      · exact Or.inr rfl
    unfold zf_Mo_finish_j26 zf_nz
    have hne : ¬ nI (zwide σ i) = 0 := by
      rcases hw with hw | hw <;> rw [hw] <;> decide
    have hdv : zN σ 1610 0 / zwide σ i < 2 ^ 31 := Nat.lt_of_le_of_lt (Nat.div_le_self _ _) hN
    rw [zlt_s, zM_at h, if_neg hne, zM_fn h 1610 (by decide) (by decide), pk_div hN (by omega) (by omega), zlt_s]
    by_cases hz : zN σ 1610 0 / zwide σ i ≤ 22
    · rw [if_pos (show nI (zN σ 1610 0 / zwide σ i) ≤ (22 : Int32) from (nI_leI (b := 22) hdv (by decide)).mpr hz), show zN σ 1610 0 / zwide σ i = S by omega]
    · rw [if_neg (show ¬ nI (zN σ 1610 0 / zwide σ i) ≤ (22 : Int32) from zn_le (b := 22) hdv (by decide) hz), show S = 22 by omega]
      rfl
  rw [← k46, ← k26]
  unfold zf_Mo_finish
  rw [zM_at h, zM_fj h 1608 (by decide) (by decide), hr, if_pos (nI_pos' (by omega)), zM_at h, zM_at h, zM_R h 1578 121 12 (by decide), zM_fj h 1608 (by decide) (by decide), hr, zM_ix h 1578 121 12 (by decide) hi (by decide), zM_n h 121 (by decide)]
  unfold zwide
  by_cases hz : zN σ 121 i = 0
  · rw [if_pos ((zn_z (by omega)).mpr hz), if_pos hz]
    rfl
  · rw [if_neg (fun z => hz ((zn_z (by omega)).mp z)), if_neg hz]
    rfl
end ZH7
