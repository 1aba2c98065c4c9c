/-! pager -/
theorem znaE {ρ : Type} {bd : Nat} {w : zw_T} {kd n : Nat} {K : zw_T → Option ρ} (hn : n ≤ bd) (hb : bd < 2 ^ 31) : zf_na bd w kd (nI n) K = K (zw_new w kd n) := by
  unfold zf_na
  have h1 : (nI n).toNatClampNeg = n := nI_clamp (by omega)
  rw [h1, if_pos ⟨nI_pos (by omega), hn⟩]
theorem zb_a_new (τ : zB) (r i n a b : Nat) : zb_a (zb_new τ r i n) a b = if a = r ∧ b = i then true else zb_a τ a b := by
  show (if a = r ∧ b = i then (true, n) else τ.1 a b).1 = _
  by_cases h : a = r ∧ b = i
  · rw [if_pos h, if_pos h]
  · rw [if_neg h, if_neg h]
    rfl
theorem zb_l_new (τ : zB) (r i n a b : Nat) : zb_l (zb_new τ r i n) a b = if a = r ∧ b = i then n else zb_l τ a b := by
  show (if a = r ∧ b = i then (true, n) else τ.1 a b).2 = _
  by_cases h : a = r ∧ b = i
  · rw [if_pos h, if_pos h]
  · rw [if_neg h, if_neg h]
    rfl
theorem zb_I_new (τ : zB) (r i n k a b : Nat) : zb_I (zb_new τ r i n) k a b = if zrw k = r ∧ a = i then 0 else zb_I τ k a b := by
  show (if zrw k = r ∧ a = i then fun _ => 0 else τ.2.1 k a) b = _
  by_cases h : zrw k = r ∧ a = i
  · rw [if_pos h, if_pos h]
  · rw [if_neg h, if_neg h]
    rfl
theorem zb_R_new (τ : zB) (r i n k a b : Nat) : zb_R (zb_new τ r i n) k a b = if zrw k = r ∧ a = i then none else zb_R τ k a b := by
  show (if zrw k = r ∧ a = i then fun _ => none else τ.2.2.1 k a) b = _
  by_cases h : zrw k = r ∧ a = i
  · rw [if_pos h, if_pos h]
  · rw [if_neg h, if_neg h]
    rfl
theorem zb_R_sR (τ : zB) (κ i j : Nat) (v : Option Nat) (k a b : Nat) : zb_R (zb_sR τ κ i j v) k a b = if k = κ ∧ a = i ∧ b = j then v else zb_R τ k a b := rfl
/-- a new Stored, number q -/
def zsdT (τ : zB) (q : Nat) : zB := zb_sI (zb_sR (zb_new (zb_sI (zb_sI (zb_sI τ 1448 q 0 (-1)) 1449 q 0 (-1)) 1450 q 0 0) 104 q 21) 1451 q 0 (some q)) 1452 q 0 0
def zrgT (τ : zB) (p r : Nat) : zB := zb_sR (zsdT (zb_new τ 8 (10 * p + r) 0) (10 * p + r)) 407 p r (some (10 * p + r))
section ZPAG
variable {ac : Nat → Nat → Nat} {τ : zB} {am : Nat → Nat} {σ : zA} {w w2 : zw_T} {F m x : Nat}
theorem zc_sd2 (hC : zC ac τ w) (hB : zo_b w) {q : Nat} (a8 : zb_a τ 8 q = true) (n4 : zb_a τ 104 q = false) : ∃ ac' w', (zf_na 128 w 104 (21 : Int32) fun w22 => zf_at w22 8 (some (ac 8 q)) fun a24 => zf_let (zw_sR w22 1451 a24 0 (some (zw_n w))) fun w24 => zf_at w24 8 (some (ac 8 q)) fun a29 => zf_let (zw_sI w24 1452 a29 0 (0 : Int32)) fun w29 => some w29) = some w' ∧ zC ac' (zb_sI (zb_sR (zb_new τ 104 q 21) 1451 q 0 (some q)) 1452 q 0 0) w' ∧ zo_b w' ∧ ∀ a b, a ≠ 104 → ac' a b = ac a b := by
  obtain ⟨ac1, e1, e2, c4⟩ := zC_newE hC hB 104 q 21 (by decide) n4
  have b4 := zo_b_new hB 104 21
  have x8 := e2 8 q (by omega)
  have d4 : zb_a (zb_new τ 104 q 21) 104 q = true := by rw [zb_a_new, if_pos ⟨rfl, rfl⟩]
  have c5 := zC_sR c4 1451 8 104 q rfl rfl a8 0 (v := some q) (fun j hj => by cases hj; exact d4)
  have c5' : zC ac1 _ (zw_sR (zw_new w 104 21) 1451 (ac1 8 q) 0 (some (ac1 104 q))) := c5
  have c6 := zC_sI c5' 1452 8 q rfl a8 0 0
  refine ⟨ac1, _, ?_, c6, b4, fun a b h => e2 a b (fun z => h z.1)⟩
  rw [show (21 : Int32) = nI 21 from rfl, znaE (by decide) (by decide), ← e1, ← x8, zC_at c4 8 q a8, zlt_s, zC_at c5' 8 q a8, zlt_s]
theorem zc_sdi (hC : zC ac τ w) (hB : zo_b w) {q : Nat} (a8 : zb_a τ 8 q = true) (n4 : zb_a τ 104 q = false) : ∃ ac' w', zf_Sd_init F w (ac 8 q) = some w' ∧ zC ac' (zsdT τ q) w' ∧ zo_b w' ∧ ∀ a b, a ≠ 104 → ac' a b = ac a b := by
  have c1 := zC_sI hC 1448 8 q rfl a8 0 (-1)
  have c2 := zC_sI c1 1449 8 q rfl a8 0 (-1)
  have c3 := zC_sI c2 1450 8 q rfl a8 0 0
  obtain ⟨ac', w', r1, r2, r3, r4⟩ := zc_sd2 c3 hB a8 n4
  refine ⟨ac', w', ?_, r2, r3, r4⟩
  unfold zf_Sd_init
  rw [zC_at hC 8 q a8, zlt_s, zC_at c1 8 q a8, zlt_s, zb_0, zC_at c2 8 q a8, zlt_s]
  exact r1
/-- one place of the ring -/
theorem zc_rg (hC : zC ac τ w) (hB : zo_b w) {p r : Nat} {i : Int32} (hi : i = nI r) (hr : r < 10) (a7 : zb_a τ 7 p = true) (a4 : zb_a τ 407 p = true) (l4 : zb_l τ 407 p = 10) (r7 : zb_R τ 1386 p 0 = some p) (n8 : zb_a τ 8 (10 * p + r) = false) (n4 : zb_a τ 104 (10 * p + r) = false) : ∃ ac' w', (∀ K : zw_T → Option zw_T, (zf_at w 7 (some (ac 7 p)) fun a65 => zf_let (zw_new w 8 0) fun w69 => zf_bv (zf_Sd_init F w69 (zw_n w)) fun w73 => zf_at w73 8 (some (zw_n w)) fun b76 => zf_ix w73 407 (zw_R w 1386 a65 0) i fun a76 j76 => zf_let (zw_sR w73 407 a76 j76 (some b76)) fun w76 => K w76) = K w') ∧ zC ac' (zrgT τ p r) w' ∧ zo_b w' ∧ ∀ a b, a ≠ 104 → a ≠ 8 → ac' a b = ac a b := by
  subst hi
  obtain ⟨ac1, e1, e2, c1⟩ := zC_newE hC hB 8 (10 * p + r) 0 (by decide) n8
  have b1 := zo_b_new hB 8 0
  have d8 : zb_a (zb_new τ 8 (10 * p + r) 0) 8 (10 * p + r) = true := by rw [zb_a_new, if_pos ⟨rfl, rfl⟩]
  obtain ⟨ac2, w2, f1, c2, b2, e3⟩ := zc_sdi (F := F) c1 b1 d8 n4
  have c3 := zC_sR c2 407 407 8 p rfl rfl a4 r (v := some (10 * p + r)) (fun j hj => by cases hj; exact d8)
  refine ⟨ac2, _, fun K => ?_, c3, b2, fun a b h1 h2 => (e3 a b h1).trans (e2 a b (fun z => h2 z.1))⟩
  have x8 := e3 8 (10 * p + r) (by decide)
  have x4 : ac2 407 p = ac 407 p := (e3 407 p (by decide)).trans (e2 407 p (by omega))
  rw [zC_at hC 7 p a7, zlt_s, ← e1, f1, zbv_s, ← x8, zC_at c2 8 _ d8, zC_R hC 1386 7 407 p rfl rfl a7 r7, ← x4, zC_ix c2 407 p a4 (show r < zb_l τ 407 p by rw [l4]; exact hr) (by omega), zlt_s]
  rfl
end ZPAG
