/-! hear: a word is looked at -/
theorem zb20a : ∀ i, i < 32 → bt 1048576 i = decide (i = 20) := by decide +kernel
theorem zb20b : ∀ i, i < 20 → bt 1048575 i = true := by decide +kernel
theorem zn_b20 {D : Nat} (hD : D < 2097152) : (nI D &&& 1048576 = 0) ↔ D < 1048576 := by
  have hb : bt (nI D) 20 = decide (D / 2 ^ 20 % 2 = 1) := zn_bt D 20 (by decide)
  constructor
  · intro h
    have e := congrArg (fun z => bt z 20) h
    have e : bt (nI D &&& 1048576) 20 = bt 0 20 := e
    rw [b_and, zb20a 20 (by decide), b_0, decide_eq_true rfl, Bool.and_true, hb] at e
    have := of_decide_eq_false e
    have : ¬ D / 1048576 % 2 = 1 := this
    omega
  · intro h
    apply b_ext
    intro i hi
    rw [b_and, zb20a i hi, b_0]
    by_cases h20 : i = 20
    · subst h20
      rw [hb, decide_eq_false (show ¬ D / 2 ^ 20 % 2 = 1 from by
        show ¬ D / 1048576 % 2 = 1
        omega), Bool.false_and]
    · rw [decide_eq_false h20, Bool.and_false]
section ZH11
variable {ac : Nat → Nat → Nat} {τ : zB} {am : Nat → Nat} {σ : zA} {w w2 : zw_T} {F m p q : Nat}
theorem zh_j92 (hF : 2500 ≤ F) (hH : zH p q ac τ σ w) (hq : q ≤ 5000) {fr D : Nat} {v x : Int32} (hf : fr < 8) (hD : D < 2097152) (hx : v ^^^ x = zn_cw (nI D)) : ∃ τ' w' σ', zf_Ls_takeWord_j92 F w (ac 5 0) v (nI fr) x = some w' ∧ zH p q ac τ' σ' w' ∧ zN σ' 1592 0 = zN σ 1592 0 ∧ ∀ w2, zM m am σ w2 → ∃ w2', zf_Mo_look_j88 F w2 m (nI fr) (nI D) = some w2' ∧ zM m am σ' w2' := by
  obtain ⟨τ1, w1, σ1, r1, r2, r3, r4, r5⟩ := zh_end (m := m) (am := am) hF hH hq (mk := 0) (by decide)
  obtain ⟨τ', w', σ', s1, s2, s3, s4⟩ := zh_call (m := m) (am := am) hF r2 hf hD
  refine ⟨τ', w', σ', ?_, s2, s3.trans r4, fun w2 h => ?_⟩
  · have r1 : zf_Ls_endMessage F w (ac 5 0) (0 : Int32) = some w1 := r1
    unfold zf_Ls_takeWord_j92
    rw [zH_at5 hH, r1, zbv_s, zH_at5 r2, zH_pg r2, zH_at7 r2, hx]
    exact s1
  · obtain ⟨w3, t1, t2⟩ := r5 w2 h
    obtain ⟨w4, u1, u2⟩ := s4 w3 t2
    refine ⟨w4, ?_, u2⟩
    have t1 : zf_Mo_finish F w2 m (0 : Int32) = some w3 := t1
    unfold zf_Mo_look_j88
    rw [zM_at h, t1, zbv_s, zM_at t2]
    exact u1
theorem zh_word (hF : 2500 ≤ F) (hH : zH p q ac τ σ w) (hq : q + 20 ≤ 5000) {v : Int32} {fr : Nat} (hf : fr < 8) : ∃ τ' w' σ', zf_Ls_takeWord F w (ac 5 0) v (nI fr) = some w' ∧ zH p (q + 20) ac τ' σ' w' ∧ zN σ' 1592 0 = zN σ 1592 0 ∧ ∀ w2, zM m am (zJ_s σ 139 (4 * p) (zJ σ 139 (4 * p) + 32)) w2 → ∃ w2', zf_Mo_look F w2 m v (nI fr) = some w2' ∧ zM m am σ' w2' := by
  have hp6 := zH_p6 hH
  have c0 := zh_c0 hH (zJ σ 139 (4 * p) + 32)
  have pre : zf_Ls_takeWord F w (ac 5 0) v (nI fr) = zf_Ls_takeWord F w (ac 5 0) v (nI fr) := rfl
  have b0 : zN (zJ_s σ 139 (4 * p) (zJ σ 139 (4 * p) + 32)) 1592 0 = zN σ 1592 0 := rfl
  unfold zf_Ls_takeWord at pre ⊢
  clear pre
  rw [zH_at5 hH, zH_pg hH, zH_at7 hH, zH_at7 hH, zh_r0 hH, zlt_s, zn_wrW hF, zbd_s, zlt_s]
  generalize zJ_s σ 139 (4 * p) (zJ σ 139 (4 * p) + 32) = σ0 at c0 b0 ⊢
  generalize zb_sI τ 1389 p 0 (zJ σ 139 (4 * p) + 32) = τ0 at c0 ⊢
  generalize zw_sI w 1389 (ac 7 p) 0 (zJ σ 139 (4 * p) + 32) = w0 at c0 ⊢
  by_cases hw : zn_wr v = -1
  · have c1 := zh_c2 c0 (zJ σ0 139 (4 * p + 2) + 1)
    obtain ⟨τ', w', σ', r1, r2, r3, r4, r5⟩ := zh_end (m := m) (am := am) hF c1 (by omega) (mk := 1) (by decide)
    refine ⟨τ', w', σ', ?_, zH_q r2 (by omega), r4.trans b0, fun w2 h => ?_⟩
    · have r1 : zf_Ls_endMessage F (zw_sI w0 1391 (ac 7 p) 0 (zJ σ0 139 (4 * p + 2) + 1)) (ac 5 0) (1 : Int32) = some w' := r1
      rw [if_pos hw, zH_at5 c0, zH_pg c0, zH_at7 c0, zH_at7 c0, zh_r2 c0, zlt_s, zH_at5 c1, r1, zbv_s]
    · have m1 := zM_sj h 139 (by decide) (4 * p + 2) (zJ σ0 139 (4 * p + 2) + 1)
      obtain ⟨w3, t1, t2⟩ := r5 _ m1
      refine ⟨w3, ?_, t2⟩
      have t1 : zf_Mo_finish F (zw_sI w2 139 (am 139) (4 * p + 2) (zJ σ0 139 (4 * p + 2) + 1)) m (1 : Int32) = some w3 := t1
      unfold zf_Mo_look
      rw [zM_at h, zn_rpM hF, zbd_s, zlt_s, if_pos hw, if_neg (by decide), zM_at h, zM_at h, zM_R h 1606 139 24 (by decide), zH_mp c0 h, show (4 : Int32) * nI p + (2 : Int32) = nI (4 * p + 2) from zmd 4 p 2, zM_ix h 1606 139 24 (by decide) (by omega) (by decide), zM_ix h 1606 139 24 (by decide) (by omega) (by decide), zM_j h 139 (by decide), zlt_s, zM_at m1, t1, zbv_s]
  · have wr0 := zn_wr0 v hw
    obtain ⟨D, hD, eD⟩ : ∃ D, D < 2097152 ∧ zi_ushr (v ^^^ zn_wr v) 11 = nI D := by
      refine ⟨(v ^^^ zn_wr v).toBitVec.toNat / 2048, ?_, ?_⟩
      · have := (v ^^^ zn_wr v).toBitVec.isLt
        omega
      · have l := (v ^^^ zn_wr v).toBitVec.isLt
        have e := zn_of (v ^^^ zn_wr v)
        have e2 : zi_ushr (nI (v ^^^ zn_wr v).toBitVec.toNat) 11 = nI ((v ^^^ zn_wr v).toBitVec.toNat / 2048) := pk_ushrN l 11 11 (by decide)
        rw [← e] at e2
        exact e2
    rw [eD] at wr0
    have ex : zn_cw (nI D) ^^^ v = zn_wr v := by
      rw [wr0, zn_xc v, zn_xa, zn_xx, zn_x0]
    have c1 := zh_c1 c0 (zJ σ0 139 (4 * p + 1) + nI (zn_pc 32 (zn_wr v)))
    have b1 : zN (zJ_s σ0 139 (4 * p + 1) (zJ σ0 139 (4 * p + 1) + nI (zn_pc 32 (zn_wr v)))) 1592 0 = zN σ 1592 0 := b0
    have mp : ∀ w2, zM m am σ0 w2 → zM m am (zJ_s σ0 139 (4 * p + 1) (zJ σ0 139 (4 * p + 1) + nI (zn_pc 32 (zn_wr v)))) (zw_sI w2 139 (am 139) (4 * p + 1) (zJ σ0 139 (4 * p + 1) + nI (zn_pc 32 (zn_wr v)))) ∧ zf_Mo_look F w2 m v (nI fr) = (zf_at (zw_sI w2 139 (am 139) (4 * p + 1) (zJ σ0 139 (4 * p + 1) + nI (zn_pc 32 (zn_wr v)))) 10 (some m) fun a70 => if (zw_I (zw_sI w2 139 (am 139) (4 * p + 1) (zJ σ0 139 (4 * p + 1) + nI (zn_pc 32 (zn_wr v)))) 1608 a70 0) < 0 then (zf_Mo_look_j88 F (zw_sI w2 139 (am 139) (4 * p + 1) (zJ σ0 139 (4 * p + 1) + nI (zn_pc 32 (zn_wr v)))) m (nI fr) (nI D)) else (if nI D < (1048576 : Int32) then (zf_Mo_look_j88 F (zw_sI w2 139 (am 139) (4 * p + 1) (zJ σ0 139 (4 * p + 1) + nI (zn_pc 32 (zn_wr v)))) m (nI fr) (nI D)) else (zf_at (zw_sI w2 139 (am 139) (4 * p + 1) (zJ σ0 139 (4 * p + 1) + nI (zn_pc 32 (zn_wr v)))) 10 (some m) fun a84 => zf_bv (zf_Mo_add F (zw_sI w2 139 (am 139) (4 * p + 1) (zJ σ0 139 (4 * p + 1) + nI (zn_pc 32 (zn_wr v)))) a84 (nI D)) fun w84 => some w84))) := by
      intro w2 h
      refine ⟨zM_sj h 139 (by decide) (4 * p + 1) _, ?_⟩
      unfold zf_Mo_look
      rw [zM_at h, zn_rpM hF, zbd_s, zlt_s, if_neg hw, eD, if_pos (nI_pos' (by omega)), zM_at h, zM_at h, zM_at h, zM_at h, zM_R h 1606 139 24 (by decide), zH_mp c0 h, show (4 : Int32) * nI p + (1 : Int32) = nI (4 * p + 1) from zmd 4 p 1, zM_ix h 1606 139 24 (by decide) (by omega) (by decide), zn_cwM hF w2 (nI D) (zn_h21 hD), zbd_s, ex, zn_on hF, zbd_s, zM_ix h 1606 139 24 (by decide) (by omega) (by decide), zM_j h 139 (by decide), zlt_s]
    rw [if_neg hw, zH_at5 c0, zH_pg c0, zH_at7 c0, zn_bc, zbd_s, zH_at7 c0, zh_r1 c0, zlt_s, eD, zlt_s, zH_at5 c1]
    generalize zJ_s σ0 139 (4 * p + 1) (zJ σ0 139 (4 * p + 1) + nI (zn_pc 32 (zn_wr v))) = σ1 at c1 b1 mp
    generalize zb_sI τ0 1390 p 0 (zJ σ0 139 (4 * p + 1) + nI (zn_pc 32 (zn_wr v))) = τ1 at c1
    generalize zw_sI w0 1390 (ac 7 p) 0 (zJ σ0 139 (4 * p + 1) + nI (zn_pc 32 (zn_wr v))) = w1 at c1 ⊢
    have hx : v ^^^ zn_wr v = zn_cw (nI D) := wr0.symm
    have b20 := zn_b20 hD
    by_cases hr : zb_R τ1 1259 0 0 = none
    · obtain ⟨τ', w', σ', r1, r2, r3, r4⟩ := zh_j92 (m := m) (am := am) hF c1 (by omega) hf hD hx
      have j8 : zJ σ1 1608 0 = -1 := by
        rcases c1.2.2.2.1.2.2.2.2 with ⟨_, k2⟩ | ⟨k, _, k2, _⟩
        · exact k2
        · rw [hr] at k2
          cases k2
      refine ⟨τ', w', σ', ?_, zH_q r2 (by omega), r3.trans b1, fun w2 h => ?_⟩
      · rw [zC_R0 c1.1 1259 5 0 rfl (zP0_a5 c1.2.2.1.1) hr, if_pos rfl, r1]
      · obtain ⟨m1, e⟩ := mp w2 h
        obtain ⟨w3, t1, t2⟩ := r4 _ m1
        refine ⟨w3, ?_, t2⟩
        rw [e, zM_at m1, zM_fj m1 1608 (by decide) (by decide), j8, if_pos (by decide), t1]
    · obtain ⟨k, i, wd, k1, k2, k3, k4, k5, k6, k7, kg⟩ := zh_run c1 hr
      have i3 := zI_idn c1.2.1
      have rc : zw_R w1 1259 (ac 5 0) 0 = some (ac 2 (4 * p + k)) := zC_R c1.1 1259 5 2 0 rfl rfl (zP0_a5 c1.2.2.1.1) k2
      by_cases h20 : D < 1048576
      · obtain ⟨τ', w', σ', r1, r2, r3, r4⟩ := zh_j92 (m := m) (am := am) hF c1 (by omega) hf hD hx
        refine ⟨τ', w', σ', ?_, zH_q r2 (by omega), r3.trans b1, fun w2 h => ?_⟩
        · rw [rc, if_neg (by simp), if_pos (b20.mpr h20), r1]
        · obtain ⟨m1, e⟩ := mp w2 h
          obtain ⟨w3, t1, t2⟩ := r4 _ m1
          refine ⟨w3, ?_, t2⟩
          rw [e, zM_at m1, zM_fj m1 1608 (by decide) (by decide), k7, if_neg (nI_pos (by omega)), if_pos (show nI D < (1048576 : Int32) from (nI_ltI (b := 1048576) (by omega) (by decide)).mpr h20), t1]
      · obtain ⟨τ', w', σ', r1, r2, r3, r4⟩ := zh_add (F := F) (m := m) (am := am) (p := p) (ac := ac) (x1 := nI D &&& (1048575 : Int32)) (y1 := nI D) (fun c hc => by rw [b_and, zb20b c hc, Bool.and_true]) 20 q τ1 σ1 w1 (by omega) (by omega) c1 hr
        refine ⟨τ', w', σ', ?_, r2, r3.trans b1, fun w2 h => ?_⟩
        · have r1' := r1 F (by omega)
          have r1' : zf_Ls_addContent_L3 F F w1 (ac 5 0) (nI D &&& (1048575 : Int32)) (19 : Int32) = some w' := r1'
          rw [rc, if_neg (by simp), if_neg (fun z => h20 (b20.mp z)), zH_at5 c1]
          unfold zf_Ls_addContent
          rw [zlt_s, r1', zbv_s]
        · obtain ⟨m1, e⟩ := mp w2 h
          obtain ⟨w3, t1, t2⟩ := r4 _ m1
          refine ⟨w3, ?_, t1⟩
          have t2' := t2 F (by omega)
          have t2' : zf_Mo_add_L3 F F _ m (nI D) (19 : Int32) = some w3 := t2'
          rw [e, zM_at m1, zM_fj m1 1608 (by decide) (by decide), k7, if_neg (nI_pos (by omega)), if_neg (show ¬ nI D < (1048576 : Int32) from zn_lt (b := 1048576) (by omega) (by decide) h20), zM_at m1]
          unfold zf_Mo_add
          rw [zlt_s, t2', zbv_s]
end ZH11
