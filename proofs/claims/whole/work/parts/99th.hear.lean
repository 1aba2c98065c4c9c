/-! hear: a message ends, on both sides -/
section ZH8
variable {ac : Nat → Nat → Nat} {τ : zB} {am : Nat → Nat} {σ : zA} {w w2 : zw_T} {F m p q : Nat}
/-- the class stores it -/
theorem zc_49 (hC : zC ac τ w) (h0 : zP0 τ) {τ1 : zB} {w1 : zw_T} {R kn i n mk fr T : Nat} {v7 : Nat} (e7 : zw_R w 1257 (ac 5 0) 0 = some (ac 7 v7)) (a7 : zb_a τ 7 v7 = true) (nx : zf_Pg_nextStored F w (ac 7 v7) = some (some (ac 8 R), w1)) (c1 : zC ac (zb_sI τ1 1388 v7 0 (nI kn)) w1) (h01 : zP0 τ1) (a3 : zb_a τ1 3 i = true) (ix : zb_I τ1 1128 i 0 = nI i) (a8 : zb_a τ1 8 R = true) (a104 : zb_a τ1 104 R = true) (l104 : zb_l τ1 104 R = 21) (r8 : zb_R τ1 1451 R 0 = some R) (hm : mk < 2) (h1 : fr ≤ T) (h2 : T ≤ 22) (h3 : 1 ≤ fr) : ∃ w', zf_Ls_store_j49 F w (ac 5 0) (nI n) (nI mk) (some (ac 3 i)) (nI fr) (nI T) = some w' ∧ zC ac (zapT τ1 v7 R kn i n mk (T - fr) (va_cpy (zb_I τ1 103 0) (zb_I τ1 104 R) fr 0 (T - fr))) w' := by
  have c2 := zC_sI c1 1448 8 R rfl a8 0 (nI i)
  have c3 := zC_sI c2 1449 8 R rfl a8 0 (nI n)
  have c4 := zC_sI c3 1450 8 R rfl a8 0 (nI mk)
  have c5 := zC_sI c4 1452 8 R rfl a8 0 (nI (T - fr))
  have c6 := zC_sF c5 104 104 R rfl a104 (va_cpy (zb_I τ1 103 0) (zb_I τ1 104 R) fr 0 (T - fr))
  refine ⟨_, ?_, c6⟩
  have g1 : zw_I w1 1128 (ac 3 i) 0 = nI i := (zC_I c1 1128 3 i rfl a3 0).trans ix
  have l103 := zP0_l103 h01
  have cp := fun K => zC_cp (ρ := zw_T) c5 103 104 0 R rfl rfl (zP0_a103 h01) a104 (sp := fr) (dp := 0) (n := T - fr) (show fr + (T - fr) ≤ zb_l τ1 103 0 by omega) (show 0 + (T - fr) ≤ zb_l τ1 104 R by omega) (show zb_l τ1 103 0 < 2 ^ 31 by omega) (show zb_l τ1 104 R < 2 ^ 31 by omega) (K := K)
  unfold zf_Ls_store_j49
  rw [zC_at hC 5 0 (zP0_a5 h0), e7, zC_at hC 7 v7 a7, nx, zbd_s, zlt_s, zC_at c1 3 i a3, zC_at c1 8 R a8, g1, zlt_s, zC_at c2 8 R a8, zlt_s, zb_n hm, zC_at c3 8 R a8, zlt_s, zC_at c4 8 R a8, pk_sub h1, zlt_s, zC_at c5 5 0 (zP0_a5 h01), zC_at c5 8 R a8, zC_R c5 1260 5 103 0 rfl rfl (zP0_a5 h01) (zP0_r1260 h01), zC_R c5 1451 8 104 R rfl rfl a8 r8, show (0 : Int32) = nI 0 from rfl, cp]
  rfl
/-- the model stores it -/
theorem zo_111 (hF : 2500 ≤ F) (hI : zI σ) {σ1 : zA} {i n mk fr T : Nat} {g : Nat → Nat} (rm : ∃ w', zf_Mo_room F w m = some (nI (10 * p + zN σ1 133 p), w') ∧ zM m am (zN_s σ1 133 p (zN σ1 133 p + 1)) w') (h : zM m am σ w) (hI2 : zI (zapF σ1 p i n mk (T - fr) (fun s => nI (g (fr + s))))) (hp : p < 6) (hk : zN σ1 133 p < 10) (hi : i < 12) (hn : n < 64) (hr : zJ σ1 1608 0 = nI i) (hg : ∀ s, g s = zsv (zN σ1 140) (zwide σ1 i * s) (zwide σ1 i)) (hm : mk < 2) (h1 : fr ≤ T) (h2 : T ≤ 22) (h3 : 1 ≤ fr) : ∃ w', zf_Mo_finish_j111 F w m (nI mk) (nI T) (nI n) (nI fr) = zfinN F w' m (nI n) ∧ zM m am (zapF σ1 p i n mk (T - fr) (fun s => nI (g (fr + s)))) w' := by
  obtain ⟨w1, r1, m1⟩ := rm
  have m2 := zM_sn m1 134 (by decide) (10 * p + zN σ1 133 p) i
  have m3 := zM_sn m2 135 (by decide) (10 * p + zN σ1 133 p) n
  have m4 := zM_sn m3 136 (by decide) (10 * p + zN σ1 133 p) (T - fr)
  have m5 := zM_sn m4 202 (by decide) (10 * p + zN σ1 133 p) mk
  have e0 := zapJ_0 (zN_s (zN_s (zN_s (zN_s (zN_s σ1 133 p (zN σ1 133 p + 1)) 134 (10 * p + zN σ1 133 p) i) 135 (10 * p + zN σ1 133 p) n) 136 (10 * p + zN σ1 133 p) (T - fr)) 202 (10 * p + zN σ1 133 p) mk) (10 * p + zN σ1 133 p) (fun s => nI (g (fr + s)))
  have m6 := m5
  rw [← e0] at m6
  have hI3 : zI (zN_s (zN_s (zN_s (zN_s (zN_s σ1 133 p (zN σ1 133 p + 1)) 134 (10 * p + zN σ1 133 p) i) 135 (10 * p + zN σ1 133 p) n) 136 (10 * p + zN σ1 133 p) (T - fr)) 202 (10 * p + zN σ1 133 p) mk) := hI2
  obtain ⟨w', s1, s2⟩ := zo_185 (F := F) (n := nI n) hF hI3 (i := i) (y := 10 * p + zN σ1 133 p) (fr := fr) (T := T) (g := g) hi hr hg (by omega) h2 h3 (T - fr) F fr _ (by omega) (Nat.le_refl _) (by omega) (by rw [Nat.sub_self]; exact m6)
  refine ⟨w', ?_, s2⟩
  have g1 : zw_I w1 1608 m 0 = nI i := (zM_fj m1 1608 (by decide) (by decide)).trans hr
  unfold zf_Mo_finish_j111
  rw [if_pos (nI_pos' (by omega)), zM_at h, r1, zbd_s, zlt_s, zM_at m1, zM_at m1, zM_R m1 1599 134 60 (by decide), zM_ix m1 1599 134 60 (by decide) (by omega) (by decide), g1, zlt_s, zM_at m2, zM_R m2 1600 135 60 (by decide), zM_ix m2 1600 135 60 (by decide) (by omega) (by decide), zlt_s, zM_at m3, zM_R m3 1601 136 60 (by decide), zM_ix m3 1601 136 60 (by decide) (by omega) (by decide), pk_sub h1, zlt_s, zM_at m4, zM_R m4 1602 202 60 (by decide), zM_ix m4 1602 202 60 (by decide) (by omega) (by decide), znarb hm, zlt_s, zlt_s, s1]
theorem zh_end (hF : 2500 ≤ F) (hH : zH p q ac τ σ w) (hq : q ≤ 5000) {mk : Nat} (hm : mk < 2) : ∃ τ' w' σ', zf_Ls_endMessage F w (ac 5 0) (nI mk) = some w' ∧ zH p q ac τ' σ' w' ∧ zb_R τ' 1259 0 0 = none ∧ zN σ' 1592 0 = zN σ 1592 0 ∧ ∀ w2, zM m am σ w2 → ∃ w2', zf_Mo_finish F w2 m (nI mk) = some w2' ∧ zM m am σ' w2' := by
  have hH' := hH
  have hp6 := zH_p6 hH
  have e7 := zH_pg hH
  obtain ⟨hC, hI, ⟨h0, h1, h2, h3, h4, h5, h6, h7⟩, ⟨r1, r2, r3, r4, r5⟩, hp⟩ := hH
  have a5 := zP0_a5 h0
  have a7 := zp_a7 h2 hp
  rcases r5 with ⟨k1, k2⟩ | ⟨h, k1, k2, k3, kg⟩
  · refine ⟨τ, w, σ, ?_, hH', k1, rfl, fun w2 h => ⟨w2, ?_, h⟩⟩
    · unfold zf_Ls_endMessage
      rw [zC_at hC 5 0 a5, zC_R0 hC 1259 5 0 rfl a5 k1, if_pos rfl]
    · unfold zf_Mo_finish
      rw [zM_at h, zM_fj h 1608 (by decide) (by decide), k2, if_neg (by decide)]
  obtain ⟨i, hi⟩ : ∃ i, zN σ 131 (4 * p + h) = i := ⟨_, rfl⟩
  obtain ⟨g0, gb, g1, g2, g3, g4⟩ := kg
  rw [hi] at k3 g1 g2 g3 g4
  clear g2 g4
  have i1 := zI_idn hI
  have i2 : i < zN σ 1576 0 := by
    rw [← hi]
    exact zI_hrs hI p h hp6 k1
  have i3 := zI_knd hI i
  have a3 := zp_a3 h1 i2
  have a2 := zp_b2 h3 hI hp k1
  have hw : zwide σ i = 4 ∨ zwide σ i = 7 := by
    unfold zwide
    split
    · exact Or.inl rfl
    · exact Or.inr rfl
  obtain ⟨wd, ewd⟩ : ∃ wd, zwide σ i = wd := ⟨_, rfl⟩
  rw [ewd] at hw g1 g3
  obtain ⟨S, eS⟩ : ∃ S, min 22 (zN σ 1610 0 / wd) = S := ⟨_, rfl⟩
  rw [eS] at g1
  have hS : S ≤ 22 := by omega
  obtain ⟨g, eg⟩ : ∃ g : Nat → Nat, ∀ s, g s = zsv (zN σ 140) (wd * s) wd := ⟨_, fun _ => rfl⟩
  have hsg : ∀ s, s < S → zb_I τ 103 0 s = nI (g s) := by
    intro s hs
    rw [eg s]
    exact g3 s (by omega) (by omega)
  have hgb : ∀ s, s < S → g s < 128 := by
    intro s hs
    rw [eg s]
    have hN : wd * s + wd ≤ zN σ 1610 0 ∧ wd * s + wd ≤ 160 := by
      rcases hw with rfl | rfl <;> omega
    refine Nat.lt_of_lt_of_le (zsv_lt wd (wd * s) (fun j j1 j2 => gb j (by omega) (by omega))) ?_
    rcases hw with rfl | rfl <;> decide
  obtain ⟨fr, efr⟩ : ∃ fr, fr = if zN σ 121 i = 0 then 2 else 1 := ⟨_, rfl⟩
  obtain ⟨fl, efl⟩ : ∃ fl, fl = if zN σ 121 i = 0 then 12 else 0 := ⟨_, rfl⟩
  have hfr : 1 ≤ fr ∧ fr ≤ 2 := by
    rw [efr]
    split <;> omega
  have hfl : fl < 128 := by
    rw [efl]
    split <;> omega
  have mf : ∀ w2, zM m am σ w2 → zf_Mo_finish F w2 m (nI mk) = zf_Mo_finish_j111 F w2 m (nI mk) (nI (ztr g fl fr S)) ((znum (zN σ 121 i) S g).elim (-1) nI) (nI fr) := fun w2 h => zo_fin hF h hI (by omega) k3 (by omega) (by rw [ewd, eS]) (fun s => by rw [ewd, eg s]) hgb efl efr
  have cn := zc_ni (F := F) hC h0 h1 hI i2 hS hsg hgb
  have f1 : zw_R w 1259 (ac 5 0) 0 = some (ac 2 (4 * p + h)) := zC_R hC 1259 5 2 0 rfl rfl a5 k2
  have f2 : zw_R w 1064 (ac 2 (4 * p + h)) 0 = some (ac 3 i) := zC_R hC 1064 2 3 (4 * p + h) rfl rfl a2 (by rw [zP3_id h3 p h hp k1, hi])
  have f3 : zw_I w 1261 (ac 5 0) 0 = nI S := (zC_I hC 1261 5 0 rfl a5 0).trans g1
  have f4 : zw_R w 1260 (ac 5 0) 0 = some (ac 103 0) := zC_R hC 1260 5 103 0 rfl rfl a5 (zP0_r1260 h0)
  cases hz : znum (zN σ 121 i) S g with
  | none =>
    rw [hz] at cn
    have cn : zf_Id_numberIn F w (ac 3 i) (some (ac 103 0)) (nI S) = some (-1, w) := cn
    have c1 := zh_c3 hH' (zJ σ 139 (4 * p + 3) + 1)
    have c2 := zh_off c1
    refine ⟨_, _, _, ?_, c2, rfl, rfl, fun w2 h => ?_⟩
    · unfold zf_Ls_endMessage
      rw [zC_at hC 5 0 a5, f1, if_neg (by simp), zC_at hC 5 0 a5, f1, zC_at hC 2 _ a2, zC_at hC 5 0 a5, zC_at hC 5 0 a5, f2, zC_at hC 3 i a3, f4, f3, cn, zbd_s, zlt_s, if_pos rfl, zC_at hC 5 0 a5, e7, zC_at hC 7 p a7, zC_at hC 7 p a7, zh_r3 hH', zlt_s]
      unfold zf_Ls_endMessage_j72
      rw [zH_at5 c1, zlt_s]
    · have m1 := zM_sj h 139 (by decide) (4 * p + 3) (zJ σ 139 (4 * p + 3) + 1)
      have m2 := zM_sfj m1 1608 (by decide) (by decide) (-1)
      refine ⟨_, ?_, m2⟩
      rw [mf w2 h, hz]
      show zf_Mo_finish_j111 F w2 m (nI mk) (nI (ztr g fl fr S)) (-1) (nI fr) = _
      unfold zf_Mo_finish_j111
      rw [if_neg (by decide), zM_at h, zM_at h, zM_R h 1606 139 24 (by decide), zM_fn h 1607 (by decide) (by decide), r3, show (4 : Int32) * nI p + (3 : Int32) = nI (4 * p + 3) from zmd 4 p 3, zM_ix h 1606 139 24 (by decide) (by omega) (by decide), zM_ix h 1606 139 24 (by decide) (by omega) (by decide), zM_j h 139 (by decide), zlt_s]
      unfold zf_Mo_finish_j235
      rw [zM_at m1, zlt_s]
  | some n =>
    rw [hz] at cn
    have cn : zf_Id_numberIn F w (ac 3 i) (some (ac 103 0)) (nI S) = some (nI n, w) := cn
    obtain ⟨hn, hfS⟩ := znum_s hz
    rw [← efr] at hfS
    obtain ⟨t1, t2⟩ := ztr_le g fl fr S
    have t2 := t2 hfS
    obtain ⟨T, eT⟩ : ∃ T, ztr g fl fr S = T := ⟨_, rfl⟩
    rw [eT] at t1 t2
    obtain ⟨τ1, σ1, o1, w1, u1, u2, u3, u4, ⟨v0, v1, v2, v3, v4, v5, v6, v7⟩, u6, u7, u8, u9, u10, u11⟩ := zh_rm (m := m) (am := am) hF hH'
    have p1 : zN σ1 1595 = zN σ 1595 := u7 1595 (by decide) (by decide) (by decide) (by decide) (by decide)
    have p2 : zN σ1 132 = zN σ 132 := u7 132 (by decide) (by decide) (by decide) (by decide) (by decide)
    have p3 : zN σ1 131 = zN σ 131 := u7 131 (by decide) (by decide) (by decide) (by decide) (by decide)
    have p4 : zN σ1 121 = zN σ 121 := u7 121 (by decide) (by decide) (by decide) (by decide) (by decide)
    have p5 : zN σ1 140 = zN σ 140 := u7 140 (by decide) (by decide) (by decide) (by decide) (by decide)
    have p6 : zN σ1 1576 = zN σ 1576 := u7 1576 (by decide) (by decide) (by decide) (by decide) (by decide)
    have p7 : zN σ1 1592 = zN σ 1592 := u7 1592 (by decide) (by decide) (by decide) (by decide) (by decide)
    have p8 : zN σ1 1607 = zN σ 1607 := u7 1607 (by decide) (by decide) (by decide) (by decide) (by decide)
    have p9 : zN σ1 1611 = zN σ 1611 := u7 1611 (by decide) (by decide) (by decide) (by decide) (by decide)
    have hp1 : p < zN σ1 1595 0 := by rw [p1]; exact hp
    have k11 : h < zN σ1 132 p := by rw [p2]; exact k1
    have hi1 : zN σ1 131 (4 * p + h) = i := by rw [p3]; exact hi
    have i21 : i < zN σ1 1576 0 := by rw [p6]; exact i2
    have op := zP4_o v4 p hp1
    have hR10 : 10 * p + (o1 p + zN σ1 133 p) % 10 < 10 * zN σ1 1595 0 := by omega
    obtain ⟨w3, s1, s2⟩ := zc_49 (F := F) (n := n) (mk := mk) (fr := fr) (T := T) hC h0 e7 a7 u1 u2 v0 (zp_a3 v1 i21) (zP1_ix v1 i i21) ((zP4_a v4 _).trans (decide_eq_true hR10)) ((zP4_sa v4 _).trans (decide_eq_true hR10)) (zP4_sl v4 _ hR10) (zP4_sr v4 _ hR10) hm t2 (by omega) hfr.1
    have hI2 := zap_I u4 hp1 u3 (i := i) (num := n) (mk := mk) (L := T - fr) (sg := fun s => nI (g (fr + s))) (by omega) hn hm (by omega)
    have hP42 := zap_P4 u4 v4 hp1 u3 (i := i) (num := n) (mk := mk) (L := T - fr) (f := va_cpy (zb_I τ1 103 0) (zb_I τ1 104 (10 * p + (o1 p + zN σ1 133 p) % 10)) fr 0 (T - fr)) (sg := fun s => nI (g (fr + s))) (by omega) (fun s hs => by
      rw [pk_cpy_in (by omega) (by omega), Nat.sub_zero, u9, hsg _ (by omega)])
    generalize hτ2 : zapT τ1 p (10 * p + (o1 p + zN σ1 133 p) % 10) (zN σ1 133 p + 1) i n mk (T - fr) (va_cpy (zb_I τ1 103 0) (zb_I τ1 104 (10 * p + (o1 p + zN σ1 133 p) % 10)) fr 0 (T - fr)) = τ2 at s2 hP42
    generalize hσ2 : zapF σ1 p i n mk (T - fr) (fun s => nI (g (fr + s))) = σ2 at hI2 hP42
    have G : zP0 τ2 ∧ zP1 τ2 σ2 ∧ zP2 τ2 σ2 ∧ zP3 τ2 σ2 ∧ zP5 τ2 σ2 ∧ zP6 τ2 σ2 ∧ zP7 τ2 σ2 := by
      rw [← hτ2, ← hσ2]
      exact ⟨v0, v1, v2, v3, v5, v6, v7⟩
    obtain ⟨y0, y1, y2, y3, y5, y6, y7⟩ := G
    have q1 : zN σ2 1595 0 = zN σ 1595 0 := by
      rw [← hσ2, ← p1]
      rfl
    have q2 : zN σ2 132 = zN σ 132 := by
      rw [← hσ2, ← p2]
      rfl
    have q3 : zN σ2 131 = zN σ 131 := by
      rw [← hσ2, ← p3]
      rfl
    have q7 : zN σ2 1592 0 = zN σ 1592 0 := by
      rw [← hσ2, ← p7]
      rfl
    have q8 : zN σ2 1607 0 = p := by
      rw [← r3, ← p8, ← hσ2]
      rfl
    have q9 : zN σ2 1611 0 = zN σ 1611 0 := by
      rw [← hσ2, ← p9]
      rfl
    have q10 : zJ σ2 1608 0 = nI i := by
      rw [← k3, ← u8, ← hσ2]
      rfl
    have q11 : zb_R τ2 = zb_R τ := by
      rw [← hτ2, ← u10]
      rfl
    have q12 : zb_I τ2 1258 0 0 = nI (zN σ 1611 0) := by
      rw [← p9, ← u6.2.2.2.1, ← hτ2]
      rfl
    have a22 : zb_a τ2 2 (4 * p + h) = true := zp_b2 y3 hI2 (by rw [q1]; exact hp) (by rw [q2]; exact k1)
    have hp2 : p < zN σ2 1595 0 := by rw [q1]; exact hp
    have k12 : h < zN σ2 132 p := by rw [q2]; exact k1
    have hi2 : zN σ2 131 (4 * p + h) = i := by rw [q3]; exact hi
    obtain ⟨L', G', w4, n1, n2, n3, n4⟩ := zh_nt (m := m) (am := am) (τ := τ2) (σ := σ2) (r := 4 * p + h) (y := 12 * p + i) (n := n) (p := p) (i := i) hF s2 a22 hp6 (by omega) rfl hn (by rw [zP3_la y3 p h hp2 k12, hi2]) (by rw [zP3_ga y3 p h hp2 k12, hi2]) (zI_lat hI2 _) q8 q10
    have hI3 := znt_I hI2 (L' := L') (G' := G') hp6 k12 hi2 n1
    have hP3 := znt_P3 hI2 y3 (L' := L') (G' := G') hp2 k12 hi2
    have c4 := zC_sI n3 1258 5 0 rfl (zP0_a5 y0) 0 (nI (zN σ 1611 0 + 1))
    have c5 := zC_sR c4 1259 5 2 0 rfl rfl (zP0_a5 y0) 0 (v := none) (fun j hj => by cases hj)
    refine ⟨_, _, zJ_s (zN_s (zQ_s (zJ_s σ2 138 (12 * p + i) L') (12 * p + i) G') 1611 0 (zN σ 1611 0 + 1)) 1608 0 (-1), ?_, ⟨c5, hI3, ⟨y0, y1, y2, hP3, ⟨o1, hP42⟩, y5, y6, y7⟩, ⟨?_, ?_, q8, ?_, Or.inl ⟨rfl, rfl⟩⟩, hp2⟩, rfl, q7, fun w2 h => ?_⟩
    · have x1 : zw_R w3 1259 (ac 5 0) 0 = some (ac 2 (4 * p + h)) := zC_R s2 1259 5 2 0 rfl rfl (zP0_a5 y0) (by rw [q11]; exact k2)
      have x2 : zw_I w4 1258 (ac 5 0) 0 = nI (zN σ 1611 0) := (zC_I n3 1258 5 0 rfl (zP0_a5 y0) 0).trans q12
      have ns := zc_ns (F := F) hC a3 (zP1_tx h1 i i2) i3
      rw [← efr] at ns
      have tr := zc_tr (F := F) hC h0 h1 i2 ((zP1_fl h1 i i2).trans (by rw [← efl])) (g := g) hfl (by omega : fr < 100) (x1 := nI n) (x2 := nI mk) S F hS hsg hgb (by omega)
      rw [eT] at tr
      unfold zf_Ls_endMessage
      rw [zC_at hC 5 0 a5, f1, if_neg (by simp), zC_at hC 5 0 a5, f1, zC_at hC 2 _ a2, zC_at hC 5 0 a5, zC_at hC 5 0 a5, f2, zC_at hC 3 i a3, f4, f3, cn, zbd_s, zlt_s, if_neg (show ¬ nI n = (-1 : Int32) from fun z => nI_pos (n := n) (by omega) (by rw [z]; decide)), zC_at hC 5 0 a5]
      unfold zf_Ls_store
      rw [zC_at hC 5 0 a5, f1, zC_at hC 2 _ a2, f2, zlt_s, zC_at hC 3 i a3, ns, zbd_s, zlt_s, zC_at hC 5 0 a5, f3, zlt_s, tr, s1, zbv_s, zC_at s2 5 0 (zP0_a5 y0), x1, zC_at s2 2 _ a22, n2, zbv_s, zC_at n3 5 0 (zP0_a5 y0), zC_at n3 5 0 (zP0_a5 y0), x2, zs1, zlt_s]
      unfold zf_Ls_endMessage_j72
      rw [zC_at c4 5 0 (zP0_a5 y0), zlt_s]
      rfl
    · show zb_R τ2 1257 0 0 = some p
      rw [q11]
      exact r1
    · show zb_R τ2 1256 0 0 = some 0
      rw [q11]
      exact r2
    · show zb_I (zb_sI (zb_sL (zb_sI τ2 1066 (4 * p + h) 0 L') 1065 (4 * p + h) 0 G') 1258 0 0 (nI (zN σ 1611 0 + 1))) 1258 0 0 = nI (zN σ 1611 0 + 1)
      rw [zb_I_sI, if_pos ⟨rfl, rfl, rfl⟩]
    · obtain ⟨w5, z1, z2⟩ := zo_111 (p := p) (i := i) (n := n) (mk := mk) (fr := fr) (T := T) (g := g) hF hI (u11 w2 h) h (by rw [hσ2]; exact hI2) hp6 u3 (by omega) hn (by rw [u8]; exact k3) (fun s => by
        rw [eg s, p5]
        have e : zwide σ1 i = wd := by
          rw [← ewd]
          unfold zwide
          rw [p4]
        rw [e]) hm t2 (by omega) hfr.1
      rw [hσ2] at z2
      obtain ⟨w6, z3, z4⟩ := n4 w5 z2
      have m1 := zM_sfn z4 1611 (by decide) (by decide) (zN σ 1611 0 + 1)
      have m2 := zM_sfj m1 1608 (by decide) (by decide) (-1)
      refine ⟨_, ?_, m2⟩
      have x3 : zw_I w6 1611 m 0 = nI (zN σ 1611 0) := (zM_fn z4 1611 (by decide) (by decide)).trans (congrArg nI q9)
      rw [mf w2 h, hz, eT]
      refine Eq.trans z1 ?_
      unfold zfinN
      rw [zM_at z2, z3, zbv_s, zM_at z4, zM_at z4, x3, zs1, zlt_s]
      unfold zf_Mo_finish_j235
      rw [zM_at m1, zlt_s]
end ZH8
