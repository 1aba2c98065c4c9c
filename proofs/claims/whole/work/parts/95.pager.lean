/-! pager: the call -/
section ZPAG3
variable {ac : Nat → Nat → Nat} {τ : zB} {am : Nat → Nat} {σ : zA} {w w2 : zw_T} {F m x : Nat}
theorem zc_pA (hC : zC ac τ w) (hB : zo_b w) {p a0 : Nat} (h7 : ac 7 p = a0) (a7 : zb_a τ 7 p = true) (n4 : zb_a τ 401 p = false) : ∃ ac' w', (∀ K : zw_T → Option zw_T, (zf_na 128 w 401 (4 : Int32) fun w6 => zf_at w6 7 (some a0) fun a9 => zf_let (zw_sR w6 1384 a9 0 (some (zw_n w))) fun w9 => zf_at w9 7 (some a0) fun a14 => zf_let (zw_sI w9 1385 a14 0 (0 : Int32)) fun w14 => K w14) = K w') ∧ zC ac' (zb_sI (zb_sR (zb_new τ 401 p 4) 1384 p 0 (some p)) 1385 p 0 0) w' ∧ zo_b w' ∧ ∀ a b, a ≠ 401 → ac' a b = ac a b := by
  subst h7
  obtain ⟨ac1, e1, e2, c1⟩ := zC_newE hC hB 401 p 4 (by decide) n4
  have b1 := zo_b_new hB 401 4
  have d4 : zb_a (zb_new τ 401 p 4) 401 p = true := by rw [zb_a_new, if_pos ⟨rfl, rfl⟩]
  have x7 := e2 7 p (by omega)
  have c2 := zC_sR c1 1384 7 401 p rfl rfl a7 0 (v := some p) (fun j hj => by cases hj; exact d4)
  have c2' : zC ac1 _ (zw_sR (zw_new w 401 4) 1384 (ac1 7 p) 0 (some (ac1 401 p))) := c2
  have c3 := zC_sI c2' 1385 7 p rfl a7 0 0
  refine ⟨ac1, _, fun K => ?_, c3, b1, fun a b h => e2 a b (fun z => h z.1)⟩
  rw [show (4 : Int32) = nI 4 from rfl, znaE (by decide) (by decide), ← e1, ← x7, zC_at c1 7 p a7, zlt_s, zC_at c2' 7 p a7, zlt_s]
theorem zc_pB (hC : zC ac τ w) (hB : zo_b w) {p a0 : Nat} (h7 : ac 7 p = a0) (a7 : zb_a τ 7 p = true) (n4 : zb_a τ 407 p = false) : ∃ ac' w', (∀ K : zw_T → Option zw_T, (zf_na 128 w 407 (10 : Int32) fun w20 => zf_at w20 7 (some a0) fun a23 => zf_let (zw_sR w20 1386 a23 0 (some (zw_n w))) fun w23 => zf_at w23 7 (some a0) fun a28 => zf_let (zw_sI w23 1387 a28 0 (0 : Int32)) fun w28 => zf_at w28 7 (some a0) fun a33 => zf_let (zw_sI w28 1388 a33 0 (0 : Int32)) fun w33 => zf_at w33 7 (some a0) fun a38 => zf_let (zw_sI w33 1389 a38 0 (0 : Int32)) fun w38 => zf_at w38 7 (some a0) fun a43 => zf_let (zw_sI w38 1390 a43 0 (0 : Int32)) fun w43 => zf_at w43 7 (some a0) fun a48 => zf_let (zw_sI w43 1391 a48 0 (0 : Int32)) fun w48 => zf_at w48 7 (some a0) fun a53 => zf_let (zw_sI w48 1392 a53 0 (0 : Int32)) fun w53 => K w53) = K w') ∧ zC ac' (zb_sI (zb_sI (zb_sI (zb_sI (zb_sI (zb_sI (zb_sR (zb_new τ 407 p 10) 1386 p 0 (some p)) 1387 p 0 0) 1388 p 0 0) 1389 p 0 0) 1390 p 0 0) 1391 p 0 0) 1392 p 0 0) w' ∧ zo_b w' ∧ ∀ a b, a ≠ 407 → ac' a b = ac a b := by
  subst h7
  obtain ⟨ac1, e1, e2, c1⟩ := zC_newE hC hB 407 p 10 (by decide) n4
  have b1 := zo_b_new hB 407 10
  have d4 : zb_a (zb_new τ 407 p 10) 407 p = true := by rw [zb_a_new, if_pos ⟨rfl, rfl⟩]
  have x7 := e2 7 p (by omega)
  have c2 := zC_sR c1 1386 7 407 p rfl rfl a7 0 (v := some p) (fun j hj => by cases hj; exact d4)
  have c2' : zC ac1 _ (zw_sR (zw_new w 407 10) 1386 (ac1 7 p) 0 (some (ac1 407 p))) := c2
  have c3 := zC_sI c2' 1387 7 p rfl a7 0 0
  have c4 := zC_sI c3 1388 7 p rfl a7 0 0
  have c5 := zC_sI c4 1389 7 p rfl a7 0 0
  have c6 := zC_sI c5 1390 7 p rfl a7 0 0
  have c7 := zC_sI c6 1391 7 p rfl a7 0 0
  have c8 := zC_sI c7 1392 7 p rfl a7 0 0
  refine ⟨ac1, _, fun K => ?_, c8, b1, fun a b h => e2 a b (fun z => h z.1)⟩
  rw [show (10 : Int32) = nI 10 from rfl, znaE (by decide) (by decide), ← e1, ← x7, zC_at c1 7 p a7, zlt_s, zC_at c2' 7 p a7, zlt_s, zC_at c3 7 p a7, zlt_s, zC_at c4 7 p a7, zlt_s, zC_at c5 7 p a7, zlt_s, zC_at c6 7 p a7, zlt_s, zC_at c7 7 p a7, zlt_s]
theorem zc_rgQ (hC : zC ac τ w) (hB : zo_b w) {o : Nat → Nat} {p r a0 : Nat} (h7 : ac 7 p = a0) {i : Int32} (hi : i = nI r) (hr : r < 10) (hQ : zPQ τ σ o p r) : ∃ ac' τ' w', (∀ K : zw_T → Option zw_T, (zf_at w 7 (some a0) fun a65 => zf_let (zw_new w 8 0) fun w69 => zf_bv (zf_Sd_init F w69 (zw_n w)) fun w73 => zf_at w73 8 (some (zw_n w)) fun b76 => zf_ix w73 407 (zw_R w 1386 a65 0) i fun a76 j76 => zf_let (zw_sR w73 407 a76 j76 (some b76)) fun w76 => K w76) = K w') ∧ zC ac' τ' w' ∧ zPQ τ' σ o p (r + 1) ∧ zo_b w' ∧ ac' 7 p = a0 ∧ ∀ a b, a ≠ 104 → a ≠ 8 → ac' a b = ac a b := by
  have hQ' := hQ
  obtain ⟨h0, h1, ⟨g1, g2, g3, g4, g5, g6, g7, g8, g9, g10, g11⟩, h3, ⟨q1, q2, q3⟩, h5⟩ := hQ
  obtain ⟨ac', w', r1, r2, r3, r4⟩ := zc_rg (F := F) hC hB hi hr ((g3 p).trans (decide_eq_true (by omega))) ((g8 p).trans (decide_eq_true (by omega))) (g9 p (by omega)) (g10 p (by omega)) ((q1 _).trans (decide_eq_false (by omega))) ((q2 _).trans (decide_eq_false (by omega)))
  subst h7
  exact ⟨ac', zrgT τ p r, w', r1, r2, zPQ_s hr hQ', r3, r4 7 p (by decide) (by decide), r4⟩
theorem zc_pgi (hC : zC ac (zb_new τ 7 (zN σ 1595 0) 0) w) (hB : zo_b w) {σ' : zA} {o : Nat → Nat} (hQ : zPQ (zpgT τ (zN σ 1595 0)) σ' o (zN σ 1595 0) 0) (n1 : zb_a τ 401 (zN σ 1595 0) = false) (n2 : zb_a τ 407 (zN σ 1595 0) = false) : ∃ ac' τ' w', zf_Pg_init F w (ac 7 (zN σ 1595 0)) = some w' ∧ zC ac' τ' w' ∧ zPQ τ' σ' o (zN σ 1595 0) 10 ∧ ∀ a b, a ≠ 401 → a ≠ 407 → a ≠ 104 → a ≠ 8 → ac' a b = ac a b := by
  have a7 : zb_a (zb_new τ 7 (zN σ 1595 0) 0) 7 (zN σ 1595 0) = true := by rw [zb_a_new, if_pos ⟨rfl, rfl⟩]
  obtain ⟨acA, wA, kA, cA, bA, eA⟩ := zc_pA hC hB (a0 := ac 7 (zN σ 1595 0)) rfl a7 n1
  obtain ⟨acB, wB, kB, cB, bB, eB⟩ := zc_pB cA bA (a0 := ac 7 (zN σ 1595 0)) (eA 7 _ (by decide)) a7 n2
  have sB : acB 7 (zN σ 1595 0) = ac 7 (zN σ 1595 0) := (eB 7 _ (by decide)).trans (eA 7 _ (by decide))
  obtain ⟨ac0, τ0, w0, k0, c0, q0, b0, s0, e0⟩ := zc_rgQ (F := F) cB bB sB (i := (0 : Int32)) (r := 0) rfl (by decide) hQ
  obtain ⟨ac1, τ1, w1, k1, c1, q1, b1, s1, e1⟩ := zc_rgQ (F := F) c0 b0 s0 (i := (1 : Int32)) (r := 1) rfl (by decide) q0
  obtain ⟨ac2, τ2, w2, k2, c2, q2, b2, s2, e2⟩ := zc_rgQ (F := F) c1 b1 s1 (i := (2 : Int32)) (r := 2) rfl (by decide) q1
  obtain ⟨ac3, τ3, w3, k3, c3, q3, b3, s3, e3⟩ := zc_rgQ (F := F) c2 b2 s2 (i := (3 : Int32)) (r := 3) rfl (by decide) q2
  obtain ⟨ac4, τ4, w4, k4, c4, q4, b4, s4, e4⟩ := zc_rgQ (F := F) c3 b3 s3 (i := (4 : Int32)) (r := 4) rfl (by decide) q3
  obtain ⟨ac5, τ5, w5, k5, c5, q5, b5, s5, e5⟩ := zc_rgQ (F := F) c4 b4 s4 (i := (5 : Int32)) (r := 5) rfl (by decide) q4
  obtain ⟨ac6, τ6, w6, k6, c6, q6, b6, s6, e6⟩ := zc_rgQ (F := F) c5 b5 s5 (i := (6 : Int32)) (r := 6) rfl (by decide) q5
  obtain ⟨ac7, τ7, w7, k7, c7, q7, b7, s7, e7⟩ := zc_rgQ (F := F) c6 b6 s6 (i := (7 : Int32)) (r := 7) rfl (by decide) q6
  obtain ⟨ac8, τ8, w8, k8, c8, q8, b8, s8, e8⟩ := zc_rgQ (F := F) c7 b7 s7 (i := (8 : Int32)) (r := 8) rfl (by decide) q7
  obtain ⟨ac9, τ9, w9, k9, c9, q9, b9, s9, e9⟩ := zc_rgQ (F := F) c8 b8 s8 (i := (9 : Int32)) (r := 9) rfl (by decide) q8
  refine ⟨ac9, τ9, w9, ?_, c9, q9, fun a b h1 h2 h3 h4 => ?_⟩
  · unfold zf_Pg_init
    rw [kA, kB, k0, k1, k2, k3, k4, k5, k6, k7, k8, k9]
  · rw [e9 a b h3 h4, e8 a b h3 h4, e7 a b h3 h4, e6 a b h3 h4, e5 a b h3 h4, e4 a b h3 h4, e3 a b h3 h4, e2 a b h3 h4, e1 a b h3 h4, e0 a b h3 h4, eB a b h2, eA a b h1]
end ZPAG3
