/-! the class is made -/
section ZINI
variable {ac : Nat → Nat → Nat} {τ : zB} {w : zw_T} {F : Nat} {ρ : Type}
/-- an array for a field of an object -/
theorem zc_arr (hC : zC ac τ w) (hB : zo_b w) (bd r f κ n : Nat) {a0 : Nat} {y : Int32} (h9 : ac r 0 = a0) (a9 : zb_a τ r 0 = true) (hr : zrw f = r) (ht : ztg f = κ) (hy : y = nI n) (hn : n ≤ bd) (hb : bd < 2 ^ 31) (hk : κ ≠ 0) (hrk : r ≠ κ) (nk : zb_a τ κ 0 = false) : ∃ ac' w', (∀ K : zw_T → Option zw_T, (zf_na bd w κ y fun w7 => zf_at w7 r (some a0) fun a10 => zf_let (zw_sR w7 f a10 0 (some (zw_n w))) fun w10 => K w10) = K w') ∧ zC ac' (zb_sR (zb_new τ κ 0 n) f 0 0 (some 0)) w' ∧ zo_b w' ∧ ∀ a b, a ≠ κ → ac' a b = ac a b := by
  subst h9
  subst hy
  obtain ⟨ac1, e1, e2, c1⟩ := zC_newE hC hB κ 0 n hk nk
  have b1 := zo_b_new hB κ n
  have d4 : zb_a (zb_new τ κ 0 n) κ 0 = true := by rw [zb_a_new, if_pos ⟨rfl, rfl⟩]
  have a9' : zb_a (zb_new τ κ 0 n) r 0 = true := by rw [zb_a_new, if_neg (fun z => hrk z.1)]; exact a9
  have x7 := e2 r 0 (fun z => hrk z.1)
  have c2 := zC_sR c1 f r κ 0 hr ht a9' 0 (v := some 0) (fun j hj => by cases hj; exact d4)
  refine ⟨ac1, _, fun K => ?_, c2, b1, fun a b h => e2 a b (fun z => h z.1)⟩
  rw [znaE hn hb, ← e1, ← x7, zC_at c1 r 0 a9', zlt_s]
  rfl
/-- an int field of an object -/
theorem zc_fld (hC : zC ac τ w) (hB : zo_b w) (r g : Nat) {a0 : Nat} (v : Int32) (h9 : ac r 0 = a0) (a9 : zb_a τ r 0 = true) (hr : zrw g = r) : ∃ w', (∀ K : zw_T → Option zw_T, (zf_at w r (some a0) fun a10 => zf_let (zw_sI w g a10 0 v) fun w10 => K w10) = K w') ∧ zC ac (zb_sI τ g 0 0 v) w' ∧ zo_b w' := by
  subst h9
  refine ⟨_, fun K => ?_, zC_sI hC g r 0 hr a9 0 v, hB⟩
  rw [zC_at hC r 0 a9, zlt_s]
/-- a field without an object -/
theorem zc_nul (hC : zC ac τ w) (hB : zo_b w) (r g : Nat) {a0 : Nat} (h9 : ac r 0 = a0) (a9 : zb_a τ r 0 = true) (hr : zrw g = r) : ∃ w', (∀ K : zw_T → Option zw_T, (zf_at w r (some a0) fun a10 => zf_let (zw_sR w g a10 0 none) fun w10 => K w10) = K w') ∧ zC ac (zb_sR τ g 0 0 none) w' ∧ zo_b w' := by
  subst h9
  refine ⟨_, fun K => ?_, zC_sR hC g r _ 0 hr rfl a9 0 (v := none) (fun j hj => by cases hj), hB⟩
  rw [zC_at hC r 0 a9, zlt_s]
  rfl
/-- a reference to an object that is there -/
theorem zc_put (hC : zC ac τ w) (hB : zo_b w) (r g t : Nat) {a0 b0 : Nat} (h9 : ac r 0 = a0) (ht0 : ac t 0 = b0) (a9 : zb_a τ r 0 = true) (at0 : zb_a τ t 0 = true) (hr : zrw g = r) (ht : ztg g = t) : ∃ w', (∀ K : zw_T → Option zw_T, (zf_at w r (some a0) fun a10 => zf_let (zw_sR w g a10 0 (some b0)) fun w10 => K w10) = K w') ∧ zC ac (zb_sR τ g 0 0 (some 0)) w' ∧ zo_b w' := by
  subst h9
  subst ht0
  refine ⟨_, fun K => ?_, zC_sR hC g r t 0 hr ht a9 0 (v := some 0) (fun j hj => by cases hj; exact at0), hB⟩
  rw [zC_at hC r 0 a9, zlt_s]
  rfl
def zτ0 : zB := ((fun _ _ => (false, 0)), (fun _ _ _ => 0), (fun _ _ _ => none), fun _ _ _ => 0)
theorem zC_0 (ac : Nat → Nat → Nat) (n : Nat) : zC ac zτ0 (zw_E0 n) := ⟨fun _ _ h => (by cases h), fun _ _ _ h => (by cases h), fun _ _ h => (by cases h), fun _ _ _ h => (by cases h), fun _ _ h => (by cases h), fun _ _ _ _ h => (by cases h)⟩
theorem zb_a_s (τ : zB) (κ i j : Nat) (v : Int32) (r q : Nat) : zb_a (zb_sI τ κ i j v) r q = zb_a τ r q := rfl
theorem zb_a_R (τ : zB) (κ i j : Nat) (v : Option Nat) (r q : Nat) : zb_a (zb_sR τ κ i j v) r q = zb_a τ r q := rfl
theorem zC_ini (F n : Nat) : ∃ ac τ w, zf_WP_init F (zw_new (zw_E0 n) 9 0) n = some w ∧ ac 9 0 = n ∧ zC ac τ w ∧ zP τ zσ0 := by
  obtain ⟨ac0, e0, -, c0⟩ := zC_newE (zC_0 (fun _ _ => 0) n) (fun a ha => absurd rfl ha) 9 0 0 (by decide) rfl
  have e0 : ac0 9 0 = n := e0
  have b0 : zo_b (zw_new (zw_E0 n) 9 0) := zo_b_new (fun a ha => absurd rfl ha) 9 0
  obtain ⟨ac1, w1, k1, c1, b1, s1⟩ := zc_arr c0 b0 256 9 1512 402 12 (y := (12 : Int32)) e0 rfl rfl rfl rfl (by decide) (by decide) (by decide) (by decide) rfl
  have e1 : ac1 9 0 = n := (s1 9 0 (by decide)).trans e0
  obtain ⟨w2, k2, c2, b2⟩ := zc_fld c1 b1 9 1513 0 e1 rfl rfl
  obtain ⟨ac3, w3, k3, c3, b3, s3⟩ := zc_arr c2 b2 256 9 1514 406 6 (y := (6 : Int32)) e1 rfl rfl rfl rfl (by decide) (by decide) (by decide) (by decide) rfl
  have e3 : ac3 9 0 = n := (s3 9 0 (by decide)).trans e1
  obtain ⟨w4, k4, c4, b4⟩ := zc_fld c3 b3 9 1515 0 e3 rfl rfl
  obtain ⟨ac5, w5, k5, c5, b5, s5⟩ := zc_arr c4 b4 256 9 1516 405 200 (y := (200 : Int32)) e3 rfl rfl rfl rfl (by decide) (by decide) (by decide) (by decide) rfl
  have e5 : ac5 9 0 = n := (s5 9 0 (by decide)).trans e3
  obtain ⟨w6, k6, c6, b6⟩ := zc_fld c5 b5 9 1517 0 e5 rfl rfl
  obtain ⟨w7, k7, c7, b7⟩ := zc_fld c6 b6 9 1518 0 e5 rfl rfl
  obtain ⟨ac8, w8, k8, c8, b8, s8⟩ := zc_arr c7 b7 256 9 1519 100 20 (y := (20 : Int32)) e5 rfl rfl rfl rfl (by decide) (by decide) (by decide) (by decide) rfl
  have e8 : ac8 9 0 = n := (s8 9 0 (by decide)).trans e5
  obtain ⟨w9, k9, c9, b9⟩ := zc_fld c8 b8 9 1520 0 e8 rfl rfl
  obtain ⟨ac10, d10, s10', c10⟩ := zC_newE c9 b9 4 0 0 (by decide) rfl
  have b10 := zo_b_new b9 4 0
  have s10 : ∀ a b, a ≠ 4 → ac10 a b = _ := fun a b h => s10' a b (fun z => h z.1)
  have e10 : ac10 9 0 = n := (s10 9 0 (by decide)).trans e8
  obtain ⟨ac11, w11, k11, c11, b11, s11⟩ := zc_arr c10 b10 128 4 1192 101 64 (y := (64 : Int32)) d10 rfl rfl rfl rfl (by decide) (by decide) (by decide) (by decide) rfl
  have d11 := (s11 4 0 (by decide)).trans d10
  have e11 : ac11 9 0 = n := (s11 9 0 (by decide)).trans e10
  obtain ⟨w12, k12, c12, b12⟩ := zc_fld c11 b11 4 1193 0 d11 rfl rfl
  obtain ⟨w13, k13, c13, b13⟩ := zc_put c12 b12 9 1521 4 e11 d11 rfl rfl rfl rfl
  obtain ⟨ac14, d14, s14', c14⟩ := zC_newE c13 b13 1 0 0 (by decide) rfl
  have b14 := zo_b_new b13 1 0
  have s14 : ∀ a b, a ≠ 1 → ac14 a b = _ := fun a b h => s14' a b (fun z => h z.1)
  have e14 : ac14 9 0 = n := (s14 9 0 (by decide)).trans e11
  obtain ⟨ac15, w15, k15, c15, b15, s15⟩ := zc_arr c14 b14 128 1 1000 102 70 (y := (70 : Int32)) d14 rfl rfl rfl rfl (by decide) (by decide) (by decide) (by decide) rfl
  have d15 := (s15 1 0 (by decide)).trans d14
  have e15 : ac15 9 0 = n := (s15 9 0 (by decide)).trans e14
  obtain ⟨w16, k16, c16, b16⟩ := zc_fld c15 b15 1 1001 0 d15 rfl rfl
  obtain ⟨w17, k17, c17, b17⟩ := zc_put c16 b16 9 1522 1 e15 d15 rfl rfl rfl rfl
  obtain ⟨ac18, d18, s18', c18⟩ := zC_newE c17 b17 5 0 0 (by decide) rfl
  have b18 := zo_b_new b17 5 0
  have s18 : ∀ a b, a ≠ 5 → ac18 a b = _ := fun a b h => s18' a b (fun z => h z.1)
  have e18 : ac18 9 0 = n := (s18 9 0 (by decide)).trans e15
  obtain ⟨w19, k19, c19, b19⟩ := zc_nul c18 b18 5 1256 d18 rfl rfl
  obtain ⟨w20, k20, c20, b20⟩ := zc_nul c19 b19 5 1257 d18 rfl rfl
  obtain ⟨w21, k21, c21, b21⟩ := zc_fld c20 b20 5 1258 0 d18 rfl rfl
  obtain ⟨w22, k22, c22, b22⟩ := zc_nul c21 b21 5 1259 d18 rfl rfl
  obtain ⟨ac23, w23, k23, c23, b23, s23⟩ := zc_arr c22 b22 128 5 1260 103 22 (y := (22 : Int32)) d18 rfl rfl rfl rfl (by decide) (by decide) (by decide) (by decide) rfl
  have d23 := (s23 5 0 (by decide)).trans d18
  have e23 : ac23 9 0 = n := (s23 9 0 (by decide)).trans e18
  obtain ⟨w24, k24, c24, b24⟩ := zc_fld c23 b23 5 1261 0 d23 rfl rfl
  obtain ⟨w25, k25, c25, b25⟩ := zc_fld c24 b24 5 1262 0 d23 rfl rfl
  obtain ⟨w26, k26, c26, b26⟩ := zc_fld c25 b25 5 1263 0 d23 rfl rfl
  obtain ⟨w27, k27, c27, b27⟩ := zc_put c26 b26 9 1523 5 e23 d23 rfl rfl rfl rfl
  refine ⟨ac23, _, w27, ?_, e23, c27, ?_⟩
  · unfold zf_WP_init
    rw [k1, k2, k3, k4, k5, k6, k7, k8, k9, zlt_s]
    unfold zf_Ly_init
    rw [k11, k12, zbv_s, k13, zlt_s]
    unfold zf_Ai_init
    rw [k15, k16, zbv_s, k17, zlt_s]
    unfold zf_Ls_init
    rw [k19, k20, k21, k22, k23, k24, k25, k26, zbv_s, k27]
  · have nl : ∀ j : Nat, false = decide (j < 0) := fun j => (decide_eq_false (Nat.not_lt_zero j)).symm
    refine ⟨⟨rfl, rfl, rfl, rfl, rfl, rfl, rfl, rfl, rfl, rfl, rfl, rfl, rfl, rfl, rfl, rfl, rfl, rfl, rfl, rfl, rfl, rfl, rfl, rfl, rfl, rfl, rfl, rfl⟩, ⟨rfl, nl, fun j hj => absurd hj (Nat.not_lt_zero j), fun j hj => absurd hj (Nat.not_lt_zero j), fun j hj => absurd hj (Nat.not_lt_zero j), fun j hj => absurd hj (Nat.not_lt_zero j), fun j hj => absurd hj (Nat.not_lt_zero j), fun j hj => absurd hj (Nat.not_lt_zero j), fun j hj => absurd hj (Nat.not_lt_zero j), fun j hj => absurd hj (Nat.not_lt_zero j), fun j hj => absurd hj (Nat.not_lt_zero j), fun j hj => absurd hj (Nat.not_lt_zero j), fun j hj => absurd hj (Nat.not_lt_zero j)⟩, ⟨rfl, nl, fun j hj => absurd hj (Nat.not_lt_zero j), nl, fun j hj => absurd hj (Nat.not_lt_zero j), fun j hj => absurd hj (Nat.not_lt_zero j), fun j hj => absurd hj (Nat.not_lt_zero j), nl, fun j hj => absurd hj (Nat.not_lt_zero j), fun j hj => absurd hj (Nat.not_lt_zero j), fun j hj => absurd hj (Nat.not_lt_zero j), fun j hj => absurd hj (Nat.not_lt_zero j), fun j hj => absurd hj (Nat.not_lt_zero j), fun j hj => absurd hj (Nat.not_lt_zero j)⟩, ⟨fun i => ?_, fun p h hp => absurd hp (Nat.not_lt_zero p), fun p h hp => absurd hp (Nat.not_lt_zero p), fun p h hp => absurd hp (Nat.not_lt_zero p), fun p h hp => absurd hp (Nat.not_lt_zero p)⟩, ⟨fun _ => 0, nl, nl, fun j hj => absurd hj (Nat.not_lt_zero j), fun j hj => absurd hj (Nat.not_lt_zero j), fun p h hp => absurd hp (Nat.not_lt_zero p), fun j hj => absurd hj (Nat.not_lt_zero j), fun j hj => absurd hj (Nat.not_lt_zero j), fun j hj => absurd hj (Nat.not_lt_zero j), fun p h hp => absurd hp (Nat.not_lt_zero p), fun p h hp => absurd hp (Nat.not_lt_zero p), fun p h hp => absurd hp (Nat.not_lt_zero p), fun p h hp => absurd hp (Nat.not_lt_zero p), fun p h s hp => absurd hp (Nat.not_lt_zero p)⟩, ⟨rfl, rfl, nl, nl, nl, fun j hj => absurd hj (Nat.not_lt_zero j), fun j hj => absurd hj (Nat.not_lt_zero j), fun j hj => absurd hj (Nat.not_lt_zero j), fun j hj => absurd hj (Nat.not_lt_zero j), fun j hj => absurd hj (Nat.not_lt_zero j), fun j hj => absurd hj (Nat.not_lt_zero j), fun j hj => absurd hj (Nat.not_lt_zero j), fun j hj => absurd hj (Nat.not_lt_zero j), fun k s hk => absurd hk (Nat.not_lt_zero k), fun j hj => absurd hj (Nat.not_lt_zero j), fun k s hk => absurd hk (Nat.not_lt_zero k)⟩, ⟨rfl, fun j hj => absurd hj (Nat.not_lt_zero j)⟩, ⟨rfl, fun j hj => absurd hj (Nat.not_lt_zero j)⟩, rfl⟩
    show false = (decide (i / 4 < 0) && decide (i % 4 < 0))
    rw [decide_eq_false (Nat.not_lt_zero _), Bool.false_and]
theorem zI_0 : zI zσ0 := ⟨Nat.zero_le _, Nat.zero_le _, Nat.zero_le _, Nat.zero_le _, Nat.zero_le _, rfl, fun _ => (show 0 < 2097152 from (Nat.le_of_ble_eq_true rfl)), fun i hi => absurd hi (Nat.not_lt_zero i), fun i j hi => absurd hi (Nat.not_lt_zero i), fun _ => (show 0 < 2 from (Nat.le_of_ble_eq_true rfl)), fun _ => Nat.zero_le _, fun _ _ => rfl, fun k hk => absurd hk (Nat.not_lt_zero k), fun _ => (show 0 < 4 from (Nat.le_of_ble_eq_true rfl)), fun _ => (show 0 < 64 from (Nat.le_of_ble_eq_true rfl)), fun _ => Nat.zero_le _, fun _ => (show 0 < 2 from (Nat.le_of_ble_eq_true rfl)), Nat.zero_le _, fun j hj => absurd hj (Nat.not_lt_zero j), fun _ => (show 0 < 2 from (Nat.le_of_ble_eq_true rfl)), fun _ => (show 0 < 2 from (Nat.le_of_ble_eq_true rfl)), fun _ => Nat.zero_le _, fun p h _ hh => absurd hh (Nat.not_lt_zero h), fun _ _ => ⟨rfl, rfl⟩, fun _ _ _ _ => rfl, fun _ _ _ _ _ => rfl, fun p h k _ hh => absurd hh (Nat.not_lt_zero h), fun _ => Nat.zero_le _, fun _ => Nat.zero_le _, fun _ => (show 0 < 12 from (Nat.le_of_ble_eq_true rfl)), fun _ => (show 0 < 64 from (Nat.le_of_ble_eq_true rfl)), fun _ => Or.inr ⟨0, (Nat.le_of_ble_eq_true rfl), rfl⟩⟩
end ZINI
