/-! call: the numbers after it -/
theorem zwait_s (f : Nat → Nat) : ∀ c s, zwait f s (c + 1) = zwait f s c + (if f (s + c) = 0 then 0 else 1)
  | 0, s => by
    show (if f s = 0 then 0 else 1) + 0 = 0 + _
    rw [Nat.add_zero, Nat.zero_add, Nat.add_zero]
  | c + 1, s => by
    show (if f s = 0 then 0 else 1) + zwait f (s + 1) (c + 1) = ((if f s = 0 then 0 else 1) + zwait f (s + 1) c) + _
    rw [zwait_s f c (s + 1), show s + 1 + c = s + (c + 1) by omega]
    omega
theorem zwait_cg {f g : Nat → Nat} : ∀ c s, (∀ j, s ≤ j → j < s + c → f j = g j) → zwait f s c = zwait g s c
  | 0, _, _ => rfl
  | c + 1, s, h => by
    show (if f s = 0 then 0 else 1) + zwait f (s + 1) c = (if g s = 0 then 0 else 1) + zwait g (s + 1) c
    rw [h s (by omega) (by omega), zwait_cg c (s + 1) (fun j h1 h2 => h j (by omega) (by omega))]
def zcaF (σ : zA) (i pr : Nat) : zA := ((fun κ j => if κ = 1588 ∧ j = 0 then 0 else if κ = 200 ∧ j = zN σ 1580 0 then 1 else zN (zca1 σ i pr) κ j), (fun κ j => if κ = 127 ∧ 20 * zN σ 1580 0 + 0 ≤ j ∧ j < 20 * zN σ 1580 0 + 0 + zN σ 1588 0 then zJ σ 128 (j - 20 * zN σ 1580 0) else zJ σ κ j), zQ σ)
theorem zca_eq (σ : zA) (i pr : Nat) : zcaS σ i pr = zcaF σ i pr := by
  have h1 : zN (zcaS σ i pr) = (zcaF σ i pr).1 := by
    funext κ j
    show (if κ = 1588 ∧ j = 0 then 0 else if κ = 200 ∧ j = zN σ 1580 0 then 1 else zN (zcpS (zN σ 1580 0) (zN σ 1588 0) 0 (zca1 σ i pr)) κ j) = _
    rw [zcp_N]
    rfl
  have h2 : zJ (zcaS σ i pr) = (zcaF σ i pr).2.1 := by
    funext κ j
    show zJ (zcpS (zN σ 1580 0) (zN σ 1588 0) 0 (zca1 σ i pr)) κ j = _
    rw [zcp_J]
    rfl
  have h3 : zQ (zcaS σ i pr) = (zcaF σ i pr).2.2 := by
    show zQ (zcpS (zN σ 1580 0) (zN σ 1588 0) 0 (zca1 σ i pr)) = _
    rw [zcp_Q]
    rfl
  exact Prod.ext h1 (Prod.ext h2 h3)
section ZCALL9
variable {τ : zB} {σ : zA}
theorem zca_I (hI : zI σ) {i pr : Nat} (hi : i < zN σ 1576 0) (hp : pr < 4) (hm : zN σ 1580 0 < 200) (hw : zwait (zN σ 200) 0 (zN σ 1580 0) < 60) : zI (zcaF σ i pr) := by
  have s5 : zN (zcaF σ i pr) 1580 0 = zN σ 1580 0 + 1 := rfl
  have n2 : ∀ q, zN (zcaF σ i pr) 122 q = if 122 = 122 ∧ q = i then zN σ 122 i + 1 else zN σ 122 q := fun q => rfl
  have n3 : ∀ q, zN (zcaF σ i pr) 123 q = if 123 = 123 ∧ q = zN σ 1580 0 then i else zN σ 123 q := fun q => rfl
  have n4 : ∀ q, zN (zcaF σ i pr) 124 q = if 124 = 124 ∧ q = zN σ 1580 0 then pr else zN σ 124 q := fun q => rfl
  have n5 : ∀ q, zN (zcaF σ i pr) 125 q = if 125 = 125 ∧ q = zN σ 1580 0 then zN σ 122 i % 64 else zN σ 125 q := fun q => rfl
  have n6 : ∀ q, zN (zcaF σ i pr) 126 q = if 126 = 126 ∧ q = zN σ 1580 0 then zN σ 1588 0 else zN σ 126 q := fun q => rfl
  have n0 : ∀ q, zN (zcaF σ i pr) 200 q = if 200 = 200 ∧ q = zN σ 1580 0 then 1 else zN σ 200 q := fun q => rfl
  obtain ⟨i_idn, i_msn, i_ldn, i_bts, i_pgn, i_b32, i_adr, i_res, i_inj, i_knd, i_cal, i_cal0, i_mto, i_mpr, i_mnu, i_mle, i_wts, i_wtn, i_ld, i_mk, i_air, i_hcn, i_hrs, i_hc0, i_ct0, i_mi0, i_dis, i_kpn, i_kmn, i_kof, i_knu, i_lat⟩ := hI
  refine ⟨i_idn, hm, Nat.zero_le _, i_bts, i_pgn, i_b32, i_adr, i_res, i_inj, i_knd, fun q => ?_, fun q hq => ?_, fun q hq => ?_, fun q => ?_, fun q => ?_, fun q => ?_, fun q => ?_, ?_, fun j hj => absurd hj (Nat.not_lt_zero j), i_mk, i_air, i_hcn, i_hrs, i_hc0, i_ct0, i_mi0, i_dis, i_kpn, i_kmn, i_kof, i_knu, i_lat⟩
  · rw [n2, s5]
    have := i_cal q
    have := i_cal i
    split <;> omega
  · have hq : zN σ 1576 0 ≤ q := hq
    rw [n2, if_neg (by omega)]
    exact i_cal0 q hq
  · rw [s5] at hq
    rw [n3]
    show _ < zN σ 1576 0
    by_cases hz : q = zN σ 1580 0
    · rw [if_pos ⟨rfl, hz⟩]
      exact hi
    · rw [if_neg (fun z => hz z.2)]
      exact i_mto q (by omega)
  · rw [n4]
    split
    · exact hp
    · exact i_mpr q
  · rw [n5]
    split
    · exact Nat.mod_lt _ (by decide)
    · exact i_mnu q
  · rw [n6]
    split
    · exact i_ldn
    · exact i_mle q
  · rw [n0]
    split
    · decide
    · exact i_wts q
  · rw [s5, zwait_s, zwait_cg (g := zN σ 200) (zN σ 1580 0) 0 (fun j _ h2 => by rw [n0, if_neg (by omega)])]
    split <;> omega
end ZCALL9
