/-! pager, whole -/
def zP2q (τ : zB) (σ : zA) (p : Nat) : Prop := (zb_I τ 1515 0 0 = nI p) ∧ (∀ q, q < p → zb_R τ 406 0 q = some q) ∧ (∀ q, zb_a τ 7 q = decide (q < p + 1)) ∧ (∀ q, zb_a τ 401 q = decide (q < p + 1)) ∧ (∀ q, q < p + 1 → zb_l τ 401 q = 4) ∧ (∀ q, q < p + 1 → zb_R τ 1384 q 0 = some q) ∧ (∀ q, q < p + 1 → zb_I τ 1385 q 0 = nI (zN σ 132 q)) ∧ (∀ q, zb_a τ 407 q = decide (q < p + 1)) ∧ (∀ q, q < p + 1 → zb_l τ 407 q = 10) ∧ (∀ q, q < p + 1 → zb_R τ 1386 q 0 = some q) ∧ (∀ q, q < p + 1 → zb_I τ 1389 q 0 = zJ σ 139 (4 * q)) ∧ (∀ q, q < p + 1 → zb_I τ 1390 q 0 = zJ σ 139 (4 * q + 1)) ∧ (∀ q, q < p + 1 → zb_I τ 1391 q 0 = zJ σ 139 (4 * q + 2)) ∧ (∀ q, q < p + 1 → zb_I τ 1392 q 0 = zJ σ 139 (4 * q + 3))
def zP4q (τ : zB) (σ : zA) (o : Nat → Nat) (p r : Nat) : Prop := (∀ i, zb_a τ 8 i = decide (i < 10 * p + r)) ∧ (∀ i, zb_a τ 104 i = decide (i < 10 * p + r)) ∧ (∀ i, i < 10 * p + r → zb_l τ 104 i = 21) ∧ (∀ i, i < 10 * p + r → zb_R τ 1451 i 0 = some i) ∧ (∀ q k, k < 10 → 10 * q + k < 10 * p + r → zb_R τ 407 q k = some (10 * q + k)) ∧ (∀ q, q < p + 1 → o q < 10) ∧ (∀ q, q < p + 1 → zb_I τ 1387 q 0 = nI (o q)) ∧ (∀ q, q < p + 1 → zb_I τ 1388 q 0 = nI (zN σ 133 q)) ∧ (∀ q k, q < p → k < zN σ 133 q → zb_I τ 1448 (10 * q + (o q + k) % 10) 0 = nI (zN σ 134 (10 * q + k))) ∧ (∀ q k, q < p → k < zN σ 133 q → zb_I τ 1449 (10 * q + (o q + k) % 10) 0 = nI (zN σ 135 (10 * q + k))) ∧ (∀ q k, q < p → k < zN σ 133 q → zb_I τ 1450 (10 * q + (o q + k) % 10) 0 = nI (zN σ 202 (10 * q + k))) ∧ (∀ q k, q < p → k < zN σ 133 q → zb_I τ 1452 (10 * q + (o q + k) % 10) 0 = nI (zN σ 136 (10 * q + k))) ∧ (∀ q k s, q < p → k < zN σ 133 q → s < zN σ 136 (10 * q + k) → zb_I τ 104 (10 * q + (o q + k) % 10) s = zJ σ 137 (22 * (10 * q + k) + s))
def zPQ (τ : zB) (σ : zA) (o : Nat → Nat) (p r : Nat) : Prop := zP0 τ ∧ zP1 τ σ ∧ zP2q τ σ p ∧ zP3 τ σ ∧ zP4q τ σ o p r ∧ zP5 τ σ ∧ zP6 τ σ ∧ zP7 τ σ ∧ zP8 τ
section ZPAG2
variable {ac : Nat → Nat → Nat} {τ : zB} {am : Nat → Nat} {σ : zA} {w w2 : zw_T} {F m x : Nat}
theorem zrg_I (τ : zB) {p r κ i b : Nat} (h : i ≠ 10 * p + r) : zb_I (zrgT τ p r) κ i b = zb_I τ κ i b := by
  show zb_I (zsdT (zb_new τ 8 (10 * p + r) 0) (10 * p + r)) κ i b = _
  unfold zsdT
  rw [zb_I_sI, if_neg (fun z => h z.2.1)]
  show zb_I (zb_new (zb_sI (zb_sI (zb_sI (zb_new τ 8 (10 * p + r) 0) 1448 (10 * p + r) 0 (-1)) 1449 (10 * p + r) 0 (-1)) 1450 (10 * p + r) 0 0) 104 (10 * p + r) 21) κ i b = _
  rw [zb_I_new, if_neg (fun z => h z.2), zb_I_sI, if_neg (fun z => h z.2.1), zb_I_sI, if_neg (fun z => h z.2.1), zb_I_sI, if_neg (fun z => h z.2.1), zb_I_new, if_neg (fun z => h z.2)]
theorem zPQ_s {o : Nat → Nat} {p r : Nat} (hr : r < 10) (h : zPQ τ σ o p r) : zPQ (zrgT τ p r) σ o p (r + 1) := by
  obtain ⟨h0, h1, h2, h3, ⟨q1, q2, q3, q4, q5, q6, q7, q8, q9, q10, q11, q12, q13⟩, h5, h6, h7, h8⟩ := h
  have ne : ∀ q k, q < p → 10 * q + (o q + k) % 10 ≠ 10 * p + r := fun q k hq => by omega
  refine ⟨h0, h1, h2, h3, ⟨fun i => ?_, fun i => ?_, fun i hi => ?_, fun i hi => ?_, fun q k hk hq => ?_, q6, q7, q8, fun q k a b => (zrg_I τ (ne q k a)).trans (q9 q k a b), fun q k a b => (zrg_I τ (ne q k a)).trans (q10 q k a b), fun q k a b => (zrg_I τ (ne q k a)).trans (q11 q k a b), fun q k a b => (zrg_I τ (ne q k a)).trans (q12 q k a b), fun q k s a b c => (zrg_I τ (ne q k a)).trans (q13 q k s a b c)⟩, h5, h6, h7, h8⟩
  · show zb_a (zb_new τ 8 (10 * p + r) 0) 8 i = _
    rw [zb_a_new]
    by_cases hq : i = 10 * p + r
    · rw [if_pos ⟨rfl, hq⟩, decide_eq_true (by omega)]
    · rw [if_neg (fun z => hq z.2), q1 i]
      exact decide_eq_decide.mpr (by omega)
  · show zb_a (zb_new (zb_sI (zb_sI (zb_sI (zb_new τ 8 (10 * p + r) 0) 1448 (10 * p + r) 0 (-1)) 1449 (10 * p + r) 0 (-1)) 1450 (10 * p + r) 0 0) 104 (10 * p + r) 21) 104 i = _
    rw [zb_a_new]
    by_cases hq : i = 10 * p + r
    · rw [if_pos ⟨rfl, hq⟩, decide_eq_true (by omega)]
    · rw [if_neg (fun z => hq z.2)]
      show zb_a τ 104 i = _
      rw [q2 i]
      exact decide_eq_decide.mpr (by omega)
  · show zb_l (zb_new (zb_sI (zb_sI (zb_sI (zb_new τ 8 (10 * p + r) 0) 1448 (10 * p + r) 0 (-1)) 1449 (10 * p + r) 0 (-1)) 1450 (10 * p + r) 0 0) 104 (10 * p + r) 21) 104 i = _
    rw [zb_l_new]
    by_cases hq : i = 10 * p + r
    · rw [if_pos ⟨rfl, hq⟩]
    · rw [if_neg (fun z => hq z.2)]
      exact q3 i (by omega)
  · show zb_R (zb_sR (zb_new (zb_sI (zb_sI (zb_sI (zb_new τ 8 (10 * p + r) 0) 1448 (10 * p + r) 0 (-1)) 1449 (10 * p + r) 0 (-1)) 1450 (10 * p + r) 0 0) 104 (10 * p + r) 21) 1451 (10 * p + r) 0 (some (10 * p + r))) 1451 i 0 = _
    rw [zb_R_sR]
    by_cases hq : i = 10 * p + r
    · rw [if_pos ⟨rfl, hq, rfl⟩, hq]
    · rw [if_neg (fun z => hq z.2.1)]
      show zb_R (zb_new τ 8 (10 * p + r) 0) 1451 i 0 = _
      rw [zb_R_new, if_neg (fun z => hq z.2)]
      exact q4 i (by omega)
  · show (if 407 = 407 ∧ q = p ∧ k = r then some (10 * p + r) else zb_R τ 407 q k) = _
    by_cases hz : q = p ∧ k = r
    · rw [if_pos ⟨rfl, hz.1, hz.2⟩, hz.1, hz.2]
    · rw [if_neg (fun z => hz z.2)]
      exact q5 q k hk (by omega)
/-- the pager's own fields -/
def zpgT (τ : zB) (p : Nat) : zB := zb_sI (zb_sI (zb_sI (zb_sI (zb_sI (zb_sI (zb_sR (zb_new (zb_sI (zb_sR (zb_new (zb_new τ 7 p 0) 401 p 4) 1384 p 0 (some p)) 1385 p 0 0) 407 p 10) 1386 p 0 (some p)) 1387 p 0 0) 1388 p 0 0) 1389 p 0 0) 1390 p 0 0) 1391 p 0 0) 1392 p 0 0
theorem zpg_I (τ : zB) {p κ i b : Nat} (hk : zrw κ ≠ 401) (hk2 : zrw κ ≠ 407) : zb_I (zpgT τ p) κ i b = if zrw κ = 7 ∧ i = p then 0 else zb_I τ κ i b := by
  unfold zpgT
  by_cases h : i = p
  · subst h
    by_cases h7 : zrw κ = 7
    · rw [if_pos ⟨h7, rfl⟩]
      rw [zb_I_sI]; split; · rfl
      rw [zb_I_sI]; split; · rfl
      rw [zb_I_sI]; split; · rfl
      rw [zb_I_sI]; split; · rfl
      rw [zb_I_sI]; split; · rfl
      rw [zb_I_sI]; split; · rfl
      show zb_I (zb_new (zb_sI (zb_sR (zb_new (zb_new τ 7 i 0) 401 i 4) 1384 i 0 (some i)) 1385 i 0 0) 407 i 10) κ i b = 0
      rw [zb_I_new, if_neg (fun z => hk2 z.1), zb_I_sI]; split; · rfl
      show zb_I (zb_new (zb_new τ 7 i 0) 401 i 4) κ i b = 0
      rw [zb_I_new, if_neg (fun z => hk z.1), zb_I_new, if_pos ⟨h7, rfl⟩]
    · have n7 : ∀ κ', zrw κ' = 7 → κ ≠ κ' := fun κ' e z => h7 (by rw [z]; exact e)
      rw [if_neg (fun z => h7 z.1), zb_I_ne _ (n7 1392 rfl), zb_I_ne _ (n7 1391 rfl), zb_I_ne _ (n7 1390 rfl), zb_I_ne _ (n7 1389 rfl), zb_I_ne _ (n7 1388 rfl), zb_I_ne _ (n7 1387 rfl)]
      show zb_I (zb_new (zb_sI (zb_sR (zb_new (zb_new τ 7 i 0) 401 i 4) 1384 i 0 (some i)) 1385 i 0 0) 407 i 10) κ i b = _
      rw [zb_I_new, if_neg (fun z => hk2 z.1), zb_I_ne _ (n7 1385 rfl)]
      show zb_I (zb_new (zb_new τ 7 i 0) 401 i 4) κ i b = _
      rw [zb_I_new, if_neg (fun z => hk z.1), zb_I_new, if_neg (fun z => h7 z.1)]
  · rw [if_neg (fun z => h z.2), zb_I_sI, if_neg (fun z => h z.2.1), zb_I_sI, if_neg (fun z => h z.2.1), zb_I_sI, if_neg (fun z => h z.2.1), zb_I_sI, if_neg (fun z => h z.2.1), zb_I_sI, if_neg (fun z => h z.2.1), zb_I_sI, if_neg (fun z => h z.2.1)]
    show zb_I (zb_new (zb_sI (zb_sR (zb_new (zb_new τ 7 p 0) 401 p 4) 1384 p 0 (some p)) 1385 p 0 0) 407 p 10) κ i b = _
    rw [zb_I_new, if_neg (fun z => h z.2), zb_I_sI, if_neg (fun z => h z.2.1)]
    show zb_I (zb_new (zb_new τ 7 p 0) 401 p 4) κ i b = _
    rw [zb_I_new, if_neg (fun z => h z.2), zb_I_new, if_neg (fun z => h z.2)]
end ZPAG2
