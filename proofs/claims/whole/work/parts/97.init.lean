/-! the model is made -/
def zw_E0 (n : Nat) : zw_T := ((fun _ => (0, 0)), (fun _ _ _ => 0), (fun _ _ _ => none), (fun _ _ _ => 0), n)
def zMl (L : List (Nat × Nat × Nat)) (v : Nat → Nat → Int32) (m : Nat) (am : Nat → Nat) (w : zw_T) : Prop := (zw_ty w m).1 = 10 ∧ (∀ κ, 1000 ≤ κ → am κ = m) ∧ (∀ q ∈ L, zw_R w q.1 m 0 = some (am q.2.1) ∧ zw_ty w (am q.2.1) = q.2) ∧ (∀ κ i, zw_I w κ (am κ) i = v κ i) ∧ (∀ i, zw_L w 300 (am 300) i = 0) ∧ zo_b w ∧ ∀ κ, (zw_ty w (am κ)).1 ≠ 0
theorem zat_e {ρ : Type} {w : zw_T} {kd a : Nat} {K : Nat → Option ρ} (h : (zw_ty w a).1 = kd) : zf_at w kd (some a) K = K a := if_pos h
def zup (am : Nat → Nat) (κ a : Nat) : Nat → Nat := fun k => if k = κ then a else am k
theorem zMl_s {L : List (Nat × Nat × Nat)} {v : Nat → Nat → Int32} {m : Nat} {am : Nat → Nat} {w : zw_T} (h : zMl L v m am w) (f κ n : Nat) {y : Int32} (hy : y = nI n) (hn : n ≤ 4096) (hk : κ < 1000) (hk0 : κ ≠ 0) (hL : ∀ q ∈ L, q.1 ≠ f ∧ q.2.1 ≠ κ) (hv : ∀ i, v κ i = 0) : ∃ am' w', (∀ K : zw_T → Option zw_T, (zf_na 4096 w κ y fun w7 => zf_at w7 10 (some m) fun a9 => zf_let (zw_sR w7 f a9 0 (some (zw_n w))) fun w9 => K w9) = K w') ∧ zMl ((f, κ, n) :: L) v m am' w' := by
  subst hy
  obtain ⟨h1, h2, h3, h4, h5, h6, h7⟩ := h
  have ne : ∀ k, am k ≠ zw_n w := fun k e => by
    have := h6 _ (h7 k)
    omega
  have nm : m ≠ zw_n w := by
    have := ne 1000
    rw [h2 1000 (by decide)] at this
    exact this
  have t0 : ∀ a, a ≠ zw_n w → zw_ty (zw_new w κ n) a = zw_ty w a := fun a ha => va_up_ne _ _ ha
  have tm : (zw_ty (zw_new w κ n) m).1 = 10 := by rw [t0 m nm]; exact h1
  have am1 : ∀ k, k ≠ κ → zup am κ (zw_n w) k = am k := fun k hq => if_neg hq
  have am0 : zup am κ (zw_n w) κ = zw_n w := if_pos rfl
  have R1 : ∀ k a b, a ≠ zw_n w → zw_R (zw_new w κ n) k a b = zw_R w k a b := fun k a b ha => congrFun (if_neg ha : (if a = zw_n w then fun _ => none else w.2.2.1 k a) = w.2.2.1 k a) b
  have RR : ∀ g, zw_R (zw_sR (zw_new w κ n) f m 0 (some (zw_n w))) g m 0 = if g = f then some (zw_n w) else zw_R w g m 0 := by
    intro g
    show zw_u2 (zw_new w κ n).2.2.1 f m (va_up (zw_R (zw_new w κ n) f m) 0 (some (zw_n w))) g m 0 = _
    unfold zw_u2
    by_cases hg : g = f
    · rw [if_pos ⟨hg, rfl⟩, if_pos hg]
      exact va_up_self _ _ _
    · rw [if_neg (fun z => hg z.1), if_neg hg]
      exact R1 g m 0 nm
  refine ⟨zup am κ (zw_n w), zw_sR (zw_new w κ n) f m 0 (some (zw_n w)), fun K => ?_, tm, fun k hk2 => ?_, fun q hq => ?_, fun k i => ?_, fun i => ?_, zo_b_new h6 κ n, fun k => ?_⟩
  · rw [znaE hn (by decide)]
    show zf_at (zw_new w κ n) 10 (some m) _ = _
    unfold zf_at
    exact if_pos tm
  · rw [am1 k (by omega), h2 k hk2]
  · rcases List.mem_cons.mp hq with rfl | hq
    · refine ⟨?_, ?_⟩
      · show zw_R _ f m 0 = some (zup am κ (zw_n w) κ)
        rw [RR, if_pos rfl, am0]
      · show zw_ty (zw_new w κ n) (zup am κ (zw_n w) κ) = (κ, n)
        rw [am0]
        exact zw_new_ty
    · obtain ⟨g1, g2⟩ := hL q hq
      obtain ⟨g3, g4⟩ := h3 q hq
      refine ⟨?_, ?_⟩
      · rw [RR, if_neg g1, am1 _ g2]
        exact g3
      · show zw_ty (zw_new w κ n) _ = _
        rw [am1 _ g2, t0 _ (ne _)]
        exact g4
  · show zw_I (zw_new w κ n) k (zup am κ (zw_n w) k) i = _
    by_cases hq : k = κ
    · rw [hq, am0, hv]
      exact congrFun (if_pos rfl : (if zw_n w = zw_n w then fun _ => (0 : Int32) else w.2.1 κ (zw_n w)) = fun _ => 0) i
    · rw [am1 k hq, ← h4 k i]
      exact congrFun (if_neg (ne k) : (if am k = zw_n w then fun _ => (0 : Int32) else w.2.1 k (am k)) = w.2.1 k (am k)) i
  · show zw_L (zw_new w κ n) 300 (zup am κ (zw_n w) 300) i = _
    by_cases hq : 300 = κ
    · rw [← hq, show zup am 300 (zw_n w) 300 = zw_n w from if_pos rfl]
      exact congrFun (if_pos rfl : (if zw_n w = zw_n w then fun _ => (0 : Int64) else w.2.2.2.1 300 (zw_n w)) = fun _ => 0) i
    · rw [am1 300 hq, ← h5 i]
      exact congrFun (if_neg (ne 300) : (if am 300 = zw_n w then fun _ => (0 : Int64) else w.2.2.2.1 300 (am 300)) = w.2.2.2.1 300 (am 300)) i
  · show (zw_ty (zw_new w κ n) _).1 ≠ 0
    by_cases hq : k = κ
    · rw [hq, am0, zw_new_ty]
      exact hk0
    · rw [am1 k hq, t0 _ (ne k)]
      exact h7 k
def zv1 : Nat → Nat → Int32 := fun κ i => if κ = 1608 ∧ i = 0 then -1 else 0
def zσ0 : zA := ((fun _ _ => 0), zv1, fun _ => 0)
theorem zMl_f {L : List (Nat × Nat × Nat)} {m : Nat} {am : Nat → Nat} {w : zw_T} (h : zMl L (fun _ _ => 0) m am w) : zMl L zv1 m am (zw_sI w 1608 m 0 (-1)) := by
  obtain ⟨h1, h2, h3, h4, h5, h6, h7⟩ := h
  refine ⟨h1, h2, h3, fun k i => ?_, h5, h6, h7⟩
  rw [zw_sI_r, h4 k i]
  unfold zv1
  by_cases hq : k = 1608
  · subst hq
    rw [h2 1608 (by decide)]
    by_cases hi : i = 0
    · rw [if_pos ⟨rfl, rfl, hi⟩, if_pos ⟨rfl, hi⟩]
    · rw [if_neg (fun z => hi z.2.2), if_neg (fun z => hi z.2)]
  · rw [if_neg (fun z => hq z.1), if_neg (fun z => hq z.1)]
theorem zMl_0 (k : Nat) : zMl [] (fun _ _ => 0) k (fun _ => k) (zw_new (zw_E0 k) 10 0) := by
  have e : zw_ty (zw_new (zw_E0 k) 10 0) k = (10, 0) := zw_new_ty (w := zw_E0 k)
  refine ⟨by rw [e], fun _ _ => rfl, fun q hq => absurd hq List.not_mem_nil, fun κ i => ?_, fun i => ?_, zo_b_new (fun a ha => absurd rfl ha) 10 0, fun κ => by rw [e]; decide⟩
  · exact congrFun (if_pos rfl : (if k = zw_n (zw_E0 k) then fun _ => (0 : Int32) else (zw_E0 k).2.1 κ k) = fun _ => 0) i
  · exact congrFun (if_pos rfl : (if k = zw_n (zw_E0 k) then fun _ => (0 : Int64) else (zw_E0 k).2.2.2.1 300 k) = fun _ => 0) i
theorem zM_ini (F k : Nat) : ∃ am w, zf_Mo_init F (zw_new (zw_E0 k) 10 0) k = some w ∧ zM k am zσ0 w := by
  have h0 := zMl_0 k
  obtain ⟨am0, w0, k0, g0⟩ := zMl_s h0 1577 120 12 (y := (12 : Int32)) rfl (by decide) (by decide) (by decide) (by decide) (fun i => rfl)
  obtain ⟨am1, w1, k1, g1⟩ := zMl_s g0 1578 121 12 (y := (12 : Int32)) rfl (by decide) (by decide) (by decide) (by decide) (fun i => rfl)
  obtain ⟨am2, w2, k2, g2⟩ := zMl_s g1 1579 122 12 (y := (12 : Int32)) rfl (by decide) (by decide) (by decide) (by decide) (fun i => rfl)
  obtain ⟨am3, w3, k3, g3⟩ := zMl_s g2 1581 123 200 (y := (200 : Int32)) rfl (by decide) (by decide) (by decide) (by decide) (fun i => rfl)
  obtain ⟨am4, w4, k4, g4⟩ := zMl_s g3 1582 124 200 (y := (200 : Int32)) rfl (by decide) (by decide) (by decide) (by decide) (fun i => rfl)
  obtain ⟨am5, w5, k5, g5⟩ := zMl_s g4 1583 125 200 (y := (200 : Int32)) rfl (by decide) (by decide) (by decide) (by decide) (fun i => rfl)
  obtain ⟨am6, w6, k6, g6⟩ := zMl_s g5 1584 126 200 (y := (200 : Int32)) rfl (by decide) (by decide) (by decide) (by decide) (fun i => rfl)
  obtain ⟨am7, w7, k7, g7⟩ := zMl_s g6 1585 127 4000 (y := (4000 : Int32)) rfl (by decide) (by decide) (by decide) (by decide) (fun i => rfl)
  obtain ⟨am8, w8, k8, g8⟩ := zMl_s g7 1586 200 200 (y := (200 : Int32)) rfl (by decide) (by decide) (by decide) (by decide) (fun i => rfl)
  obtain ⟨am9, w9, k9, g9⟩ := zMl_s g8 1587 128 20 (y := (20 : Int32)) rfl (by decide) (by decide) (by decide) (by decide) (fun i => rfl)
  obtain ⟨am10, w10, k10, g10⟩ := zMl_s g9 1589 129 64 (y := (64 : Int32)) rfl (by decide) (by decide) (by decide) (by decide) (fun i => rfl)
  obtain ⟨am11, w11, k11, g11⟩ := zMl_s g10 1590 201 64 (y := (64 : Int32)) rfl (by decide) (by decide) (by decide) (by decide) (fun i => rfl)
  obtain ⟨am12, w12, k12, g12⟩ := zMl_s g11 1591 130 2240 (y := (2240 : Int32)) rfl (by decide) (by decide) (by decide) (by decide) (fun i => rfl)
  obtain ⟨am13, w13, k13, g13⟩ := zMl_s g12 1596 131 24 (y := (24 : Int32)) rfl (by decide) (by decide) (by decide) (by decide) (fun i => rfl)
  obtain ⟨am14, w14, k14, g14⟩ := zMl_s g13 1597 132 6 (y := (6 : Int32)) rfl (by decide) (by decide) (by decide) (by decide) (fun i => rfl)
  obtain ⟨am15, w15, k15, g15⟩ := zMl_s g14 1598 133 6 (y := (6 : Int32)) rfl (by decide) (by decide) (by decide) (by decide) (fun i => rfl)
  obtain ⟨am16, w16, k16, g16⟩ := zMl_s g15 1599 134 60 (y := (60 : Int32)) rfl (by decide) (by decide) (by decide) (by decide) (fun i => rfl)
  obtain ⟨am17, w17, k17, g17⟩ := zMl_s g16 1600 135 60 (y := (60 : Int32)) rfl (by decide) (by decide) (by decide) (by decide) (fun i => rfl)
  obtain ⟨am18, w18, k18, g18⟩ := zMl_s g17 1601 136 60 (y := (60 : Int32)) rfl (by decide) (by decide) (by decide) (by decide) (fun i => rfl)
  obtain ⟨am19, w19, k19, g19⟩ := zMl_s g18 1602 202 60 (y := (60 : Int32)) rfl (by decide) (by decide) (by decide) (by decide) (fun i => rfl)
  obtain ⟨am20, w20, k20, g20⟩ := zMl_s g19 1603 137 1320 (y := (1320 : Int32)) rfl (by decide) (by decide) (by decide) (by decide) (fun i => rfl)
  obtain ⟨am21, w21, k21, g21⟩ := zMl_s g20 1604 300 72 (y := (72 : Int32)) rfl (by decide) (by decide) (by decide) (by decide) (fun i => rfl)
  obtain ⟨am22, w22, k22, g22⟩ := zMl_s g21 1605 138 72 (y := (72 : Int32)) rfl (by decide) (by decide) (by decide) (by decide) (fun i => rfl)
  obtain ⟨am23, w23, k23, g23⟩ := zMl_s g22 1606 139 24 (y := (24 : Int32)) rfl (by decide) (by decide) (by decide) (by decide) (fun i => rfl)
  have hf := zMl_f g23
  obtain ⟨am24, w24, k24, g24⟩ := zMl_s hf 1609 140 160 (y := (160 : Int32)) rfl (by decide) (by decide) (by decide) (by decide) (fun i => rfl)
  obtain ⟨am25, w25, k25, g25⟩ := zMl_s g24 1612 141 24 (y := (24 : Int32)) rfl (by decide) (by decide) (by decide) (by decide) (fun i => rfl)
  refine ⟨am25, w25, ?_, ?_⟩
  · unfold zf_Mo_init
    rw [k0, k1, k2, k3, k4, k5, k6, k7, k8, k9, k10, k11, k12, k13, k14, k15, k16, k17, k18, k19, k20, k21, k22, k23, zat_e g23.1, zlt_s, k24, k25]
  · obtain ⟨h1, h2, h3, h4, h5, h6, h7⟩ := g25
    refine ⟨h1, h2, fun q hq => h3 q ((by decide : ∀ q ∈ zk_t, q ∈ ([(1612, 141, 24), (1609, 140, 160), (1606, 139, 24), (1605, 138, 72), (1604, 300, 72), (1603, 137, 1320), (1602, 202, 60), (1601, 136, 60), (1600, 135, 60), (1599, 134, 60), (1598, 133, 6), (1597, 132, 6), (1596, 131, 24), (1591, 130, 2240), (1590, 201, 64), (1589, 129, 64), (1587, 128, 20), (1586, 200, 200), (1585, 127, 4000), (1584, 126, 200), (1583, 125, 200), (1582, 124, 200), (1581, 123, 200), (1579, 122, 12), (1578, 121, 12), (1577, 120, 12)] : List (Nat × Nat × Nat))) q hq), fun κ i => ?_, h5⟩
    rw [h4 κ i]
    show zv1 κ i = if κ ∈ zk_i then zv1 κ i else nI 0
    by_cases hq : κ ∈ zk_i
    · rw [if_pos hq]
    · rw [if_neg hq]
      unfold zv1
      rw [if_neg]
      · rfl
      · rintro ⟨rfl, -⟩
        exact hq (by decide)
