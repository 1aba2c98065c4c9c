/-! transmit: both sides lay one message after the other -/
theorem zwait_d {f g : Nat → Nat} : ∀ c s k, s ≤ k → k < s + c → f k ≠ 0 → g k = 0 → (∀ j, j ≠ k → g j = f j) → zwait f s c = zwait g s c + 1
  | 0, _, _, _, _, _, _, _ => by omega
  | c + 1, s, k, h1, h2, h3, h4, h5 => by
    show (if f s = 0 then 0 else 1) + zwait f (s + 1) c = (if g s = 0 then 0 else 1) + zwait g (s + 1) c + 1
    by_cases e : s = k
    · subst e
      rw [if_neg h3, if_pos h4, zwait_cg (f := g) (g := f) c (s + 1) (fun j j1 _ => h5 j (by omega))]
      omega
    · rw [zwait_d (f := f) (g := g) c (s + 1) k (by omega) (by omega) h3 h4 h5, h5 s e]
      omega
def zlaT (τ : zB) (k i pl L wt : Nat) (f : Nat → Int32) : zB := zb_sI (zb_sI (zb_sI (zb_sF τ 101 0 f) 1138 i 0 (nI (pl + L))) 1325 k 0 0) 1518 0 0 (nI wt)
def zlaF (σ : zA) (k i pl : Nat) : zA := zJ_s (zN_s (zlyS σ k pl (znw σ k)) 200 k 0) 141 i (nI (pl + znw σ k))
section ZTR4
variable {ac : Nat → Nat → Nat} {τ : zB} {am : Nat → Nat} {σ : zA} {w w2 : zw_T} {F m x : Nat}
theorem zla_I (hI : zI σ) (k i pl : Nat) : zI (zlaF σ k i pl) := by
  obtain ⟨i_idn, i_msn, i_ldn, i_bts, i_pgn, i_b32, i_adr, i_res, i_inj, i_knd, i_cal, i_cal0, i_mto, i_mpr, i_mnu, i_mle, i_wts, i_wtn, i_ld, i_mk, i_air, i_hcn, i_hrs, i_hc0, i_ct0, i_mi0, i_dis, i_kpn, i_kmn, i_kof, i_knu, i_lat⟩ := hI
  refine ⟨i_idn, i_msn, i_ldn, i_bts, i_pgn, i_b32, i_adr, i_res, i_inj, i_knd, i_cal, i_cal0, i_mto, i_mpr, i_mnu, i_mle, fun q => ?_, ?_, i_ld, i_mk, i_air, i_hcn, i_hrs, i_hc0, i_ct0, i_mi0, i_dis, i_kpn, i_kmn, i_kof, i_knu, i_lat⟩
  · show (if 200 = 200 ∧ q = k then 0 else zN σ 200 q) < 2
    split
    · decide
    · exact i_wts q
  · refine Nat.le_trans (zwait_mo (g := zN σ 200) _ _ (fun j => ?_)) i_wtn
    show (if 200 = 200 ∧ j = k then 0 else zN σ 200 j) = 0 ∨ _
    split
    · exact Or.inl rfl
    · rename_i hz
      exact Or.inr (if_neg hz)
theorem zla_P (hI : zI σ) (hP : zP τ σ) {k i pl wt : Nat} {f : Nat → Int32} (hk : k < zN σ 1580 0) (hw : zN σ 200 k ≠ 0) (ht : zwait (zN σ 200) 0 (zN σ 1580 0) = wt + 1) : zP (zlaT τ k i pl (znw σ k) wt f) (zlaF σ k i pl) := by
  obtain ⟨h0, h1, h2, h3, ⟨o, h4⟩, h5, h6, h7, h8⟩ := hP
  refine ⟨h0, h1, h2, h3, ⟨o, h4⟩, ?_, h6, h7, h8⟩
  obtain ⟨p5_n, p5_wt, p5_a, p5_sa, p5_wa, p5_r, p5_to, p5_pr, p5_nu, p5_sr, p5_wr, p5_wz, p5_sl, p5_sg, p5_wl, p5_wd⟩ := h5
  refine ⟨p5_n, ?_, p5_a, p5_sa, p5_wa, p5_r, p5_to, p5_pr, p5_nu, p5_sr, p5_wr, fun q hq => ?_, p5_sl, p5_sg, p5_wl, p5_wd⟩
  · have e1 : zb_I (zlaT τ k i pl (znw σ k) wt f) 1518 0 0 = nI wt := by
      unfold zlaT
      rw [zb_I_sI, if_pos ⟨rfl, rfl, rfl⟩]
    have e2 : zwait (zN σ 200) 0 (zN σ 1580 0) = zwait (zN (zlaF σ k i pl) 200) 0 (zN σ 1580 0) + 1 := by
      refine zwait_d _ _ k (by omega) (by omega) hw ?_ (fun j hj => ?_)
      · show (if 200 = 200 ∧ k = k then 0 else zN σ 200 k) = 0
        exact if_pos ⟨rfl, rfl⟩
      · show (if 200 = 200 ∧ j = k then 0 else zN σ 200 j) = zN σ 200 j
        exact if_neg (fun z => hj z.2)
    rw [e1]
    have e3 : zN (zlaF σ k i pl) 1580 0 = zN σ 1580 0 := rfl
    rw [e3]
    congr 1
    omega
  · have hq : q < zN σ 1580 0 := hq
    show zb_I (zlaT τ k i pl (znw σ k) wt f) 1325 q 0 = nI (if 200 = 200 ∧ q = k then 0 else zN σ 200 q)
    unfold zlaT
    rw [zb_I_ne _ (by decide), zb_I_sI]
    by_cases hz : q = k
    · rw [if_pos ⟨rfl, hz, rfl⟩, if_pos ⟨rfl, hz⟩]
      rfl
    · rw [if_neg (fun z => hz z.2.1), if_neg (fun z => hz z.2), zb_I_ne _ (by decide)]
      exact p5_wz q hq
theorem zla_R (hI : zI σ) (h5 : zP5 τ σ) {b k pl wt : Nat} (hL : zLR b τ σ) (hk : k < zN σ 1580 0) (hp : pl + znw σ k ≤ 16 * b) (hb : b ≤ 4) : zLR b (zlaT τ k (zN σ 123 k) pl (znw σ k) wt (va_cpy (zb_I τ 106 k) (zb_I τ 101 0) 0 pl (znw σ k))) (zlaF σ k (zN σ 123 k) pl) := by
  obtain ⟨l1, l2, l3, l4, l5, l6⟩ := hL
  have eJ : ∀ j, zJ (zlaF σ k (zN σ 123 k) pl) 129 j = if 129 = 129 ∧ pl ≤ j ∧ j < pl + znw σ k then zword σ k (j - pl) else zJ σ 129 j := fun j => rfl
  have eN : ∀ j, zN (zlaF σ k (zN σ 123 k) pl) 201 j = if 201 = 201 ∧ pl ≤ j ∧ j < pl + znw σ k then 1 else zN σ 201 j := fun j => rfl
  have eE : ∀ j, zJ (zlaF σ k (zN σ 123 k) pl) 141 j = if 141 = 141 ∧ j = zN σ 123 k then nI (pl + znw σ k) else zJ σ 141 j := fun j => rfl
  refine ⟨l1, fun j hj => ?_, fun j hj => ?_, fun j hj => ?_, fun i hi => ?_, fun i hi => ?_⟩
  · rw [eJ]
    have e1 : zb_I (zlaT τ k (zN σ 123 k) pl (znw σ k) wt (va_cpy (zb_I τ 106 k) (zb_I τ 101 0) 0 pl (znw σ k))) 101 0 j = va_cpy (zb_I τ 106 k) (zb_I τ 101 0) 0 pl (znw σ k) j := by
      unfold zlaT
      rw [zb_I_ne _ (by decide), zb_I_ne _ (by decide), zb_I_ne _ (by decide), zb_I_sF]
    rw [e1]
    by_cases hz : pl ≤ j ∧ j < pl + znw σ k
    · rw [pk_cpy_in hz.1 hz.2, if_pos ⟨rfl, hz⟩, Nat.zero_add]
      exact zP5_wd h5 k _ hk (by omega)
    · rw [pk_cpy_out (by omega), if_neg (fun z => hz z.2)]
      exact l2 j hj
  · rw [eJ, eN]
    by_cases hz : pl ≤ j ∧ j < pl + znw σ k
    · rw [if_pos ⟨rfl, hz⟩, if_pos ⟨rfl, hz⟩]
      exact ⟨fun z => absurd z (by decide), fun z => absurd z (zword_ni hI hk _)⟩
    · rw [if_neg (fun z => hz z.2), if_neg (fun z => hz z.2)]
      exact l3 j hj
  · rw [eN]
    split
    · decide
    · exact l4 j hj
  · have hi : i < zN σ 1576 0 := hi
    rw [eE]
    unfold zlaT
    rw [zb_I_ne _ (by decide), zb_I_ne _ (by decide), zb_I_sI]
    by_cases hz : i = zN σ 123 k
    · rw [if_pos ⟨rfl, hz, rfl⟩, if_pos ⟨rfl, hz⟩]
    · rw [if_neg (fun z => hz z.2.1), if_neg (fun z => hz z.2)]
      exact l5 i hi
  · have hi : i < zN σ 1576 0 := hi
    rw [eE]
    split
    · exact Or.inr ⟨_, hp, rfl⟩
    · exact l6 i hi
theorem zla_R0 {b i : Nat} (hL : zLR b τ σ) : zLR b (zb_sI τ 1138 i 0 (-1)) (zJ_s σ 141 i (-1)) := by
  obtain ⟨l1, l2, l3, l4, l5, l6⟩ := hL
  have eE : ∀ j, zJ (zJ_s σ 141 i (-1)) 141 j = if 141 = 141 ∧ j = i then -1 else zJ σ 141 j := fun j => rfl
  refine ⟨l1, l2, l3, l4, fun j hj => ?_, fun j hj => ?_⟩
  · have hj : j < zN σ 1576 0 := hj
    rw [eE, zb_I_sI]
    by_cases hz : j = i
    · rw [if_pos ⟨rfl, hz, rfl⟩, if_pos ⟨rfl, hz⟩]
    · rw [if_neg (fun z => hz z.2.1), if_neg (fun z => hz z.2)]
      exact l5 j hj
  · have hj : j < zN σ 1576 0 := hj
    rw [eE]
    split
    · exact Or.inl rfl
    · exact l6 j hj
theorem zJ_same (σ : zA) {κ i : Nat} {v : Int32} (h : zJ σ κ i = v) : zJ_s σ κ i v = σ := by
  refine Prod.ext rfl (Prod.ext ?_ rfl)
  funext k j
  show (if k = κ ∧ j = i then v else σ.2.1 k j) = σ.2.1 k j
  by_cases hz : k = κ ∧ j = i
  · rw [if_pos hz, hz.1, hz.2]
    exact h.symm
  · rw [if_neg hz]
/-- one message -/
theorem zt_one (hF : 2500 ≤ F) (hC : zC ac τ w) (hI : zI σ) (hP : zP τ σ) {b : Nat} (hb : b ≤ 4) (hL : zLR b τ σ) {pr k : Nat} (hr : pr < 4) (hk : k < zN σ 1580 0) : ∃ τ' w' σ', (∀ n k36, zf_WP_layMessages_L42 F k36 (n + 1) w (ac 9 0) (nI pr) (nI k) = zf_WP_layMessages_L42 F k36 n w' (ac 9 0) (nI pr) (nI (k + 1))) ∧ zC ac τ' w' ∧ zI σ' ∧ zP τ' σ' ∧ zLR b τ' σ' ∧ zN σ' 1580 0 = zN σ 1580 0 ∧ ∀ w2, zM m am σ w2 → ∃ w2', zM m am σ' w2' ∧ ∀ n k64, zf_Mo_transmit_L70 F k64 (n + 1) w2 m (nI b) (nI pr) (nI k) = zf_Mo_transmit_L70 F k64 n w2' m (nI b) (nI pr) (nI (k + 1)) := by
  have hP' := hP
  obtain ⟨h0, h1, h2, h3, ⟨o, h4⟩, h5, h6, h7, h8⟩ := hP
  have i0 := znw_le hI k
  have i1 := zI_msn hI
  have i2 := zI_mto hI k hk
  have i3 := zI_idn hI
  have i4 := zI_wts hI k
  have i5 := zI_mpr hI k
  have i6 := zI_wtn hI
  have a3 := zp_a3 h1 i2
  have a6 : zb_a τ 6 k = true := (zP5_a h5 k).trans (decide_eq_true hk)
  have a9 := zP0_a9 h0
  by_cases hw : zN σ 200 k = 0
  · refine ⟨τ, w, σ, fun n k36 => ?_, hC, hI, hP', hL, rfl, fun w2 h => ⟨w2, h, fun n k64 => ?_⟩⟩
    · rw [zf_WP_layMessages_L42, zC_at hC 9 0 a9, zC_I hC 1517 9 0 rfl a9, zP5_n h5, if_neg (zn_le (by omega) (by omega) (by omega)), zC_at hC 9 0 a9, zC_R hC 1516 9 405 0 rfl rfl a9 (zP0_r1516 h0), zC_ix hC 405 0 (zP0_a405 h0) (by rw [zP0_l405 h0]; omega) (by omega), zC_R hC 405 405 6 0 rfl rfl (zP0_a405 h0) (zP5_r h5 k hk), zlt_s, zC_at hC 6 k a6, zC_I hC 1325 6 k rfl a6, zP5_wz h5 k hk, if_pos ((zn_z (by omega)).mpr hw)]
      unfold zf_WP_layMessages_j103
      rw [zlt_s, zs1]
    · rw [zf_Mo_transmit_L70, zM_at h, zM_fn h 1580 (by decide) (by decide), if_neg (zn_le (by omega) (by omega) (by omega)), zM_at h, zM_R h 1586 200 200 (by decide), zM_ix h 1586 200 200 (by decide) (by omega) (by decide), zM_n h 200 (by decide), if_pos ((zn_z (by omega)).mpr hw)]
      unfold zf_Mo_transmit_j142
      rw [zlt_s, zs1]
  have hw' : ¬ nI (zN σ 200 k) = 0 := fun z => hw ((zn_z (by omega)).mp z)
  by_cases hq : zN σ 124 k = pr
  · -- it is this one's turn
    have hq' : nI (zN σ 124 k) = nI pr := by rw [hq]
    have cs : ∀ n k36 v w', zf_Ly_lay F w (ac 4 0) (some (ac 6 k)) = some (v, w') → zf_WP_layMessages_L42 F k36 (n + 1) w (ac 9 0) (nI pr) (nI k) = (if v = 0 then zf_WP_layMessages_j103 F k36 (zf_WP_layMessages_L42 F k36 n) w' (ac 9 0) (nI pr) (nI k) else zf_b (0 : Int32) (zf_at w' 6 (some (ac 6 k)) fun a90 => zf_let (zw_sI w' 1325 a90 0 (0 : Int32)) fun w90 => zf_at w90 9 (some (ac 9 0)) fun a95 => zf_at w90 9 (some (ac 9 0)) fun a100 => zf_let (zw_sI w90 1518 a100 0 ((zw_I w90 1518 a95 0) - (1 : Int32))) fun w100 => zf_WP_layMessages_j103 F k36 (zf_WP_layMessages_L42 F k36 n) w100 (ac 9 0) (nI pr) (nI k))) := by
      intro n k36 v w' e
      rw [zf_WP_layMessages_L42, zC_at hC 9 0 a9, zC_I hC 1517 9 0 rfl a9, zP5_n h5, if_neg (zn_le (by omega) (by omega) (by omega)), zC_at hC 9 0 a9, zC_R hC 1516 9 405 0 rfl rfl a9 (zP0_r1516 h0), zC_ix hC 405 0 (zP0_a405 h0) (by rw [zP0_l405 h0]; omega) (by omega), zC_R hC 405 405 6 0 rfl rfl (zP0_a405 h0) (zP5_r h5 k hk), zlt_s, zC_at hC 6 k a6, zC_I hC 1325 6 k rfl a6, zP5_wz h5 k hk, if_neg hw', zC_at hC 6 k a6, zC_I hC 1321 6 k rfl a6, zP5_pr h5 k hk, if_pos hq', zC_at hC 9 0 a9, zC_R hC 1521 9 4 0 rfl rfl a9 (zP0_r1521 h0), zC_at hC 4 0 (zP0_a4 h0), e, zbd_s]
    have ms : ∀ w2, zM m am σ w2 → ∀ n k64, zf_Mo_transmit_L70 F k64 (n + 1) w2 m (nI b) (nI pr) (nI k) = (if zJ σ 141 (zN σ 123 k) < 0 then zf_Mo_transmit_j142 F k64 (zf_Mo_transmit_L70 F k64 n) w2 m (nI b) (nI pr) (nI k) else zf_bd (zf_Mo_lay F w2 m (nI k) (zJ σ 141 (zN σ 123 k)) (nI (16 * b))) fun v138 w138 => zf_ix w138 141 (some (am 141)) (nI (zN σ 123 k)) fun a141 j141 => zf_let (zw_sI w138 141 a141 j141 v138) fun w141 => zf_Mo_transmit_j142 F k64 (zf_Mo_transmit_L70 F k64 n) w141 m (nI b) (nI pr) (nI k)) := by
      intro w2 h n k64
      rw [zf_Mo_transmit_L70, zM_at h, zM_fn h 1580 (by decide) (by decide), if_neg (zn_le (by omega) (by omega) (by omega)), zM_at h, zM_R h 1586 200 200 (by decide), zM_ix h 1586 200 200 (by decide) (by omega) (by decide), zM_n h 200 (by decide), if_neg hw', zM_at h, zM_R h 1582 124 200 (by decide), zM_ix h 1582 124 200 (by decide) (by omega) (by decide), zM_n h 124 (by decide), if_pos hq', zM_at h, zM_at h, zM_R h 1581 123 200 (by decide), zM_ix h 1581 123 200 (by decide) (by omega) (by decide), zM_n h 123 (by decide), zM_R h 1612 141 24 (by decide), zM_ix h 1612 141 24 (by decide) (by omega) (by decide), zM_j h 141 (by decide), zM_at h, zM_at h, zM_R h 1581 123 200 (by decide), zM_ix h 1581 123 200 (by decide) (by omega) (by decide), zM_n h 123 (by decide), zM_at h, zM_at h, zM_R h 1581 123 200 (by decide), zM_ix h 1581 123 200 (by decide) (by omega) (by decide), zM_n h 123 (by decide), zM_R h 1612 141 24 (by decide), zM_ix h 1612 141 24 (by decide) (by omega) (by decide), zM_j h 141 (by decide), zM_at h, show (16 : Int32) * nI b = nI (16 * b) from pk_mul 16 b]
    obtain ⟨lA, lB⟩ := zc_ly hF hC hI hP' hb hL hk
    rcases hL.2.2.2.2.2 _ i2 with hm | ⟨e, he, hm⟩
    · refine ⟨_, _, σ, fun n k36 => ?_, zC_sI hC 1138 3 (zN σ 123 k) rfl a3 0 (-1), hI, hP', ?_, rfl, fun w2 h => ⟨w2, h, fun n k64 => ?_⟩⟩
      · rw [cs n k36 _ _ (lA hm), if_pos rfl]
        unfold zf_WP_layMessages_j103
        rw [zlt_s, zs1]
      · have := zla_R0 (i := zN σ 123 k) hL
        rw [zJ_same σ hm] at this
        exact this
      · rw [ms w2 h, hm, if_pos (by decide)]
        unfold zf_Mo_transmit_j142
        rw [zlt_s, zs1]
    · have hne : ¬ nI e < 0 := nI_pos (by omega)
      obtain ⟨lB, lS⟩ := lB e he hm
      cases hz : zplace (zfit σ k b) e (16 * b - e) with
      | none =>
        refine ⟨_, _, zJ_s σ 141 (zN σ 123 k) (-1), fun n k36 => ?_, zC_sI hC 1138 3 (zN σ 123 k) rfl a3 0 (-1), hI, hP', zla_R0 hL, rfl, fun w2 h => ?_⟩
        · rw [cs n k36 _ _ (lB hz), if_pos rfl]
          unfold zf_WP_layMessages_j103
          rw [zlt_s, zs1]
        · have ly := (zo_ly hF h hI hL.2.2.2.1 hk hb (16 * b - e) F e (by omega) (by omega)).1 hz
          have m1 := zM_sj h 141 (by decide) (zN σ 123 k) (-1)
          refine ⟨_, m1, fun n k64 => ?_⟩
          rw [ms w2 h, hm, if_neg hne]
          unfold zf_Mo_lay
          rw [zlt_s, ly, zbd_s, zM_ix h 1612 141 24 (by decide) (by omega) (by decide), zlt_s]
          unfold zf_Mo_transmit_j142
          rw [zlt_s, zs1]
      | some pl =>
        have hpl := zplace_s _ _ _ hz
        have hf := hpl.2.2
        unfold zfit at hf
        rw [Bool.and_eq_true, Bool.and_eq_true] at hf
        have hp := of_decide_eq_true hf.2.1
        obtain ⟨wt, ht⟩ : ∃ wt, zwait (zN σ 200) 0 (zN σ 1580 0) = wt + 1 := ⟨zwait (fun q => if q = k then 0 else zN σ 200 q) 0 (zN σ 1580 0), zwait_d _ _ k (by omega) (by omega) hw (if_pos rfl) (fun j hj => if_neg hj)⟩
        have c1 := zC_sF hC 101 101 0 rfl (zP0_a101 h0) (va_cpy (zb_I τ 106 k) (zb_I τ 101 0) 0 pl (znw σ k))
        have c2 := zC_sI c1 1138 3 (zN σ 123 k) rfl a3 0 (nI (pl + znw σ k))
        have c3 := zC_sI c2 1325 6 k rfl a6 0 0
        have c4 := zC_sI c3 1518 9 0 rfl a9 0 (nI wt)
        refine ⟨zlaT τ k (zN σ 123 k) pl (znw σ k) wt (va_cpy (zb_I τ 106 k) (zb_I τ 101 0) 0 pl (znw σ k)), _, zlaF σ k (zN σ 123 k) pl, fun n k36 => ?_, c4, zla_I hI k _ pl, zla_P hI hP' hk hw ht, zla_R hI h5 hL hk hp hb, rfl, fun w2 h => ?_⟩
        · have g : zw_I _ 1518 (ac 9 0) 0 = nI (zwait (zN σ 200) 0 (zN σ 1580 0)) := (zC_I c3 1518 9 0 rfl a9 0).trans (zP5_wt h5 :)
          rw [cs n k36 _ _ (lS pl hz), if_neg (by decide), zb_0, zC_at c2 6 k a6, zlt_s, zC_at c3 9 0 a9, zC_at c3 9 0 a9, g, ht, show nI (wt + 1) - (1 : Int32) = nI wt from pk_sub (a := wt + 1) (b := 1) (by omega), zlt_s]
          unfold zf_WP_layMessages_j103
          rw [zlt_s, zs1]
        · obtain ⟨w3, ly, m2⟩ := (zo_ly hF h hI hL.2.2.2.1 hk hb (16 * b - e) F e (by omega) (by omega)).2 pl hz
          have m1 := zM_sj m2 141 (by decide) (zN σ 123 k) (nI (pl + znw σ k))
          refine ⟨_, m1, fun n k64 => ?_⟩
          rw [ms w2 h, hm, if_neg hne]
          unfold zf_Mo_lay
          rw [zlt_s, ly, zbd_s, zM_ix m2 1612 141 24 (by decide) (by omega) (by decide), zlt_s]
          unfold zf_Mo_transmit_j142
          rw [zlt_s, zs1]
  · have hq' : ¬ nI (zN σ 124 k) = nI pr := fun z => hq ((nI_eqI (by omega) (by omega)).mp z)
    refine ⟨τ, w, σ, fun n k36 => ?_, hC, hI, hP', hL, rfl, fun w2 h => ⟨w2, h, fun n k64 => ?_⟩⟩
    · rw [zf_WP_layMessages_L42, zC_at hC 9 0 a9, zC_I hC 1517 9 0 rfl a9, zP5_n h5, if_neg (zn_le (by omega) (by omega) (by omega)), zC_at hC 9 0 a9, zC_R hC 1516 9 405 0 rfl rfl a9 (zP0_r1516 h0), zC_ix hC 405 0 (zP0_a405 h0) (by rw [zP0_l405 h0]; omega) (by omega), zC_R hC 405 405 6 0 rfl rfl (zP0_a405 h0) (zP5_r h5 k hk), zlt_s, zC_at hC 6 k a6, zC_I hC 1325 6 k rfl a6, zP5_wz h5 k hk, if_neg hw', zC_at hC 6 k a6, zC_I hC 1321 6 k rfl a6, zP5_pr h5 k hk, if_neg hq']
      unfold zf_WP_layMessages_j103
      rw [zlt_s, zs1]
    · rw [zf_Mo_transmit_L70, zM_at h, zM_fn h 1580 (by decide) (by decide), if_neg (zn_le (by omega) (by omega) (by omega)), zM_at h, zM_R h 1586 200 200 (by decide), zM_ix h 1586 200 200 (by decide) (by omega) (by decide), zM_n h 200 (by decide), if_neg hw', zM_at h, zM_R h 1582 124 200 (by decide), zM_ix h 1582 124 200 (by decide) (by omega) (by decide), zM_n h 124 (by decide), if_neg hq']
      unfold zf_Mo_transmit_j142
      rw [zlt_s, zs1]
/-- all messages of one priority -/
theorem zt_inr (hF : 2500 ≤ F) {b pr : Nat} (hb : b ≤ 4) (hr : pr < 4) : ∀ c k τ σ w, k + c = zN σ 1580 0 → zC ac τ w → zI σ → zP τ σ → zLR b τ σ → ∃ τ' w' σ', (∀ n k36, c < n → zf_WP_layMessages_L42 F k36 n w (ac 9 0) (nI pr) (nI k) = k36 w' (ac 9 0) (nI pr + (-1))) ∧ zC ac τ' w' ∧ zI σ' ∧ zP τ' σ' ∧ zLR b τ' σ' ∧ ∀ w2, zM m am σ w2 → ∃ w2', zM m am σ' w2' ∧ ∀ n k64, c < n → zf_Mo_transmit_L70 F k64 n w2 m (nI b) (nI pr) (nI k) = k64 w2' m (nI b) (nI pr + (-1)) := by
  intro c
  induction c with
  | zero =>
    intro k τ σ w e1 hC hI hP hL
    have i1 := zI_msn hI
    refine ⟨τ, w, σ, fun n k36 hn => ?_, hC, hI, hP, hL, fun w2 h => ⟨w2, h, fun n k64 hn => ?_⟩⟩
    · obtain ⟨n, rfl⟩ : ∃ q, n = q + 1 := ⟨n - 1, by omega⟩
      rw [zf_WP_layMessages_L42, zC_at hC 9 0 (zP0_a9 hP.1), zC_I hC 1517 9 0 rfl (zP0_a9 hP.1), zP5_n hP.2.2.2.2.2.1, if_pos ((nI_leI (by omega) (by omega)).mpr (by omega)), zlt_s]
    · obtain ⟨n, rfl⟩ : ∃ q, n = q + 1 := ⟨n - 1, by omega⟩
      rw [zf_Mo_transmit_L70, zM_at h, zM_fn h 1580 (by decide) (by decide), if_pos ((nI_leI (by omega) (by omega)).mpr (by omega)), zlt_s]
  | succ c ih =>
    intro k τ σ w e1 hC hI hP hL
    obtain ⟨τ1, w1, σ1, s1, s2, s3, s4, s5, s6, s7⟩ := zt_one (am := am) (m := m) hF hC hI hP hb hL (pr := pr) (k := k) hr (by omega)
    obtain ⟨τ', w', σ', r1, r2, r3, r4, r5, r6⟩ := ih (k + 1) τ1 σ1 w1 (by omega) s2 s3 s4 s5
    refine ⟨τ', w', σ', fun n k36 hn => ?_, r2, r3, r4, r5, fun w2 h => ?_⟩
    · obtain ⟨n, rfl⟩ : ∃ q, n = q + 1 := ⟨n - 1, by omega⟩
      rw [s1, r1 n k36 (by omega)]
    · obtain ⟨w3, t1, t2⟩ := s7 w2 h
      obtain ⟨w4, u1, u2⟩ := r6 w3 t1
      refine ⟨w4, u1, fun n k64 hn => ?_⟩
      obtain ⟨n, rfl⟩ : ∃ q, n = q + 1 := ⟨n - 1, by omega⟩
      rw [t2, u2 n k64 (by omega)]
/-- all priorities -/
theorem zt_outr (hF : 2500 ≤ F) {b : Nat} (hb : b ≤ 4) : ∀ c τ σ w, c ≤ 4 → zC ac τ w → zI σ → zP τ σ → zLR b τ σ → ∃ τ' w' σ', (∀ n, c < n → zf_WP_layMessages_L36 F n w (ac 9 0) (nI c + (-1)) = some w') ∧ zC ac τ' w' ∧ zI σ' ∧ zP τ' σ' ∧ zLR b τ' σ' ∧ ∀ w2, zM m am σ w2 → ∃ w2', zM m am σ' w2' ∧ ∀ n, c < n → ∃ n', zf_Mo_transmit_L64 F n w2 m (nI b) (nI c + (-1)) = zf_Mo_transmit_L64 F (n' + 1) w2' m (nI b) (-1) := by
  intro c
  induction c with
  | zero =>
    intro τ σ w e1 hC hI hP hL
    refine ⟨τ, w, σ, fun n hn => ?_, hC, hI, hP, hL, fun w2 h => ⟨w2, h, fun n hn => ?_⟩⟩
    · obtain ⟨n, rfl⟩ : ∃ q, n = q + 1 := ⟨n - 1, by omega⟩
      rw [zf_WP_layMessages_L36, if_pos (by decide)]
    · obtain ⟨n, rfl⟩ : ∃ q, n = q + 1 := ⟨n - 1, by omega⟩
      exact ⟨n, rfl⟩
  | succ c ih =>
    intro τ σ w e1 hC hI hP hL
    have i1 := zI_msn hI
    obtain ⟨τ1, w1, σ1, s1, s2, s3, s4, s5, s7⟩ := zt_inr (am := am) (m := m) hF (pr := c) hb (by omega) (zN σ 1580 0) 0 τ σ w (by omega) hC hI hP hL
    obtain ⟨τ', w', σ', r1, r2, r3, r4, r5, r6⟩ := ih τ1 σ1 w1 (by omega) s2 s3 s4 s5
    refine ⟨τ', w', σ', fun n hn => ?_, r2, r3, r4, r5, fun w2 h => ?_⟩
    · obtain ⟨n, rfl⟩ : ∃ q, n = q + 1 := ⟨n - 1, by omega⟩
      rw [pk_m1, zf_WP_layMessages_L36, if_neg (nI_pos (by omega)), zlt_s, show (0 : Int32) = nI 0 from rfl, s1 F _ (by omega), r1 n (by omega)]
    · obtain ⟨w3, t1, t2⟩ := s7 w2 h
      obtain ⟨w4, u1, u2⟩ := r6 w3 t1
      refine ⟨w4, u1, fun n hn => ?_⟩
      obtain ⟨n, rfl⟩ : ∃ q, n = q + 1 := ⟨n - 1, by omega⟩
      obtain ⟨n', v1⟩ := u2 n (by omega)
      refine ⟨n', ?_⟩
      rw [pk_m1, zf_Mo_transmit_L64, if_neg (nI_pos (by omega)), zlt_s, show (0 : Int32) = nI 0 from rfl, t2 F _ (by omega), v1]
end ZTR4
