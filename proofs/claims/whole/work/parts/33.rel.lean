/-! what the class holds of the numbers -/
def zLat (x : Int32) : Prop := x = -1 ∨ ∃ l, l < 64 ∧ x = nI l
def zaddr (σ : zA) (j : Nat) : Nat := 4 * (zN σ 120 j / 8) + (if zN σ 121 j = 0 then 0 else 3)
def zwide (σ : zA) (j : Nat) : Nat := if zN σ 121 j = 0 then 4 else 7
def zfront (σ : zA) (j : Nat) : Nat := if zN σ 121 j = 0 then 2 else 1
/-- sign s of those that message k goes out as -/
def zsent (σ : zA) (k s : Nat) : Int32 := if zN σ 121 (zN σ 123 k) = 0 then (if s = 0 then nI (zN σ 125 k / 10) else if s = 1 then nI (zN σ 125 k % 10) else if s < zN σ 126 k + 2 then zJ σ 127 (20 * k + s - 2) else 12) else (if s = 0 then nI (32 + zN σ 125 k) else if s < zN σ 126 k + 1 then zJ σ 127 (20 * k + s - 1) else 0)
def zobit (σ : zA) (k i : Nat) : Bool := bt (zsent σ k (i / zwide σ (zN σ 123 k))) (i % zwide σ (zN σ 123 k))
def zdat (f : Nat → Bool) : Nat → Nat → Nat → Nat
  | _, 0, d => d
  | s, c + 1, d => zdat f (s + 1) c (2 * d + (if f s = true then 1 else 0))
def zword (σ : zA) (k j : Nat) : Int32 := if j = 0 then zn_cw (nI (zaddr σ (zN σ 123 k))) else zn_cw (nI (zdat (zobit σ k) (20 * (j - 1)) 20 1))
def znw (σ : zA) (k : Nat) : Nat := 1 + ((zN σ 126 k + zfront σ (zN σ 123 k)) * zwide σ (zN σ 123 k) + 19) / 20
def zhears (σ : zA) (p i : Nat) : Bool := zany (fun q => decide (zN σ 131 q = i)) (4 * p) (zN σ 132 p)
def zP0 (τ : zB) : Prop := (zb_a τ 9 0 = true) ∧ (zb_a τ 402 0 = true) ∧ (zb_l τ 402 0 = 12) ∧ (zb_a τ 406 0 = true) ∧ (zb_l τ 406 0 = 6) ∧ (zb_a τ 405 0 = true) ∧ (zb_l τ 405 0 = 200) ∧ (zb_a τ 100 0 = true) ∧ (zb_l τ 100 0 = 20) ∧ (zb_a τ 101 0 = true) ∧ (zb_l τ 101 0 = 64) ∧ (zb_a τ 102 0 = true) ∧ (zb_l τ 102 0 = 70) ∧ (zb_a τ 103 0 = true) ∧ (zb_l τ 103 0 = 22) ∧ (zb_a τ 4 0 = true) ∧ (zb_a τ 1 0 = true) ∧ (zb_a τ 5 0 = true) ∧ (zb_R τ 1512 0 0 = some 0) ∧ (zb_R τ 1514 0 0 = some 0) ∧ (zb_R τ 1516 0 0 = some 0) ∧ (zb_R τ 1519 0 0 = some 0) ∧ (zb_R τ 1521 0 0 = some 0) ∧ (zb_R τ 1522 0 0 = some 0) ∧ (zb_R τ 1523 0 0 = some 0) ∧ (zb_R τ 1192 0 0 = some 0) ∧ (zb_R τ 1000 0 0 = some 0) ∧ (zb_R τ 1260 0 0 = some 0)
theorem zP0_a9 {τ : zB} (h : zP0 τ) : zb_a τ 9 0 = true := h.1
theorem zP0_a402 {τ : zB} (h : zP0 τ) : zb_a τ 402 0 = true := h.2.1
theorem zP0_l402 {τ : zB} (h : zP0 τ) : zb_l τ 402 0 = 12 := h.2.2.1
theorem zP0_a406 {τ : zB} (h : zP0 τ) : zb_a τ 406 0 = true := h.2.2.2.1
theorem zP0_l406 {τ : zB} (h : zP0 τ) : zb_l τ 406 0 = 6 := h.2.2.2.2.1
theorem zP0_a405 {τ : zB} (h : zP0 τ) : zb_a τ 405 0 = true := h.2.2.2.2.2.1
theorem zP0_l405 {τ : zB} (h : zP0 τ) : zb_l τ 405 0 = 200 := h.2.2.2.2.2.2.1
theorem zP0_a100 {τ : zB} (h : zP0 τ) : zb_a τ 100 0 = true := h.2.2.2.2.2.2.2.1
theorem zP0_l100 {τ : zB} (h : zP0 τ) : zb_l τ 100 0 = 20 := h.2.2.2.2.2.2.2.2.1
theorem zP0_a101 {τ : zB} (h : zP0 τ) : zb_a τ 101 0 = true := h.2.2.2.2.2.2.2.2.2.1
theorem zP0_l101 {τ : zB} (h : zP0 τ) : zb_l τ 101 0 = 64 := h.2.2.2.2.2.2.2.2.2.2.1
theorem zP0_a102 {τ : zB} (h : zP0 τ) : zb_a τ 102 0 = true := h.2.2.2.2.2.2.2.2.2.2.2.1
theorem zP0_l102 {τ : zB} (h : zP0 τ) : zb_l τ 102 0 = 70 := h.2.2.2.2.2.2.2.2.2.2.2.2.1
theorem zP0_a103 {τ : zB} (h : zP0 τ) : zb_a τ 103 0 = true := h.2.2.2.2.2.2.2.2.2.2.2.2.2.1
theorem zP0_l103 {τ : zB} (h : zP0 τ) : zb_l τ 103 0 = 22 := h.2.2.2.2.2.2.2.2.2.2.2.2.2.2.1
theorem zP0_a4 {τ : zB} (h : zP0 τ) : zb_a τ 4 0 = true := h.2.2.2.2.2.2.2.2.2.2.2.2.2.2.2.1
theorem zP0_a1 {τ : zB} (h : zP0 τ) : zb_a τ 1 0 = true := h.2.2.2.2.2.2.2.2.2.2.2.2.2.2.2.2.1
theorem zP0_a5 {τ : zB} (h : zP0 τ) : zb_a τ 5 0 = true := h.2.2.2.2.2.2.2.2.2.2.2.2.2.2.2.2.2.1
theorem zP0_r1512 {τ : zB} (h : zP0 τ) : zb_R τ 1512 0 0 = some 0 := h.2.2.2.2.2.2.2.2.2.2.2.2.2.2.2.2.2.2.1
theorem zP0_r1514 {τ : zB} (h : zP0 τ) : zb_R τ 1514 0 0 = some 0 := h.2.2.2.2.2.2.2.2.2.2.2.2.2.2.2.2.2.2.2.1
theorem zP0_r1516 {τ : zB} (h : zP0 τ) : zb_R τ 1516 0 0 = some 0 := h.2.2.2.2.2.2.2.2.2.2.2.2.2.2.2.2.2.2.2.2.1
theorem zP0_r1519 {τ : zB} (h : zP0 τ) : zb_R τ 1519 0 0 = some 0 := h.2.2.2.2.2.2.2.2.2.2.2.2.2.2.2.2.2.2.2.2.2.1
theorem zP0_r1521 {τ : zB} (h : zP0 τ) : zb_R τ 1521 0 0 = some 0 := h.2.2.2.2.2.2.2.2.2.2.2.2.2.2.2.2.2.2.2.2.2.2.1
theorem zP0_r1522 {τ : zB} (h : zP0 τ) : zb_R τ 1522 0 0 = some 0 := h.2.2.2.2.2.2.2.2.2.2.2.2.2.2.2.2.2.2.2.2.2.2.2.1
theorem zP0_r1523 {τ : zB} (h : zP0 τ) : zb_R τ 1523 0 0 = some 0 := h.2.2.2.2.2.2.2.2.2.2.2.2.2.2.2.2.2.2.2.2.2.2.2.2.1
theorem zP0_r1192 {τ : zB} (h : zP0 τ) : zb_R τ 1192 0 0 = some 0 := h.2.2.2.2.2.2.2.2.2.2.2.2.2.2.2.2.2.2.2.2.2.2.2.2.2.1
theorem zP0_r1000 {τ : zB} (h : zP0 τ) : zb_R τ 1000 0 0 = some 0 := h.2.2.2.2.2.2.2.2.2.2.2.2.2.2.2.2.2.2.2.2.2.2.2.2.2.2.1
theorem zP0_r1260 {τ : zB} (h : zP0 τ) : zb_R τ 1260 0 0 = some 0 := h.2.2.2.2.2.2.2.2.2.2.2.2.2.2.2.2.2.2.2.2.2.2.2.2.2.2.2
def zP1 (τ : zB) (σ : zA) : Prop := (zb_I τ 1513 0 0 = nI (zN σ 1576 0)) ∧ (∀ j, zb_a τ 3 j = decide (j < zN σ 1576 0)) ∧ (∀ j, j < zN σ 1576 0 → zb_R τ 402 0 j = some j) ∧ (∀ j, j < zN σ 1576 0 → zb_I τ 1128 j 0 = nI j) ∧ (∀ j, j < zN σ 1576 0 → zb_I τ 1129 j 0 = nI (zN σ 120 j)) ∧ (∀ j, j < zN σ 1576 0 → zb_I τ 1130 j 0 = nI (zN σ 121 j)) ∧ (∀ j, j < zN σ 1576 0 → zb_I τ 1131 j 0 = nI (zN σ 120 j % 8)) ∧ (∀ j, j < zN σ 1576 0 → zb_I τ 1132 j 0 = zn_cw (nI (zaddr σ j))) ∧ (∀ j, j < zN σ 1576 0 → zb_I τ 1133 j 0 = nI (if zN σ 121 j = 0 then 0 else 32)) ∧ (∀ j, j < zN σ 1576 0 → zb_I τ 1134 j 0 = nI (if zN σ 121 j = 0 then 11 else 126)) ∧ (∀ j, j < zN σ 1576 0 → zb_I τ 1135 j 0 = nI (zwide σ j)) ∧ (∀ j, j < zN σ 1576 0 → zb_I τ 1136 j 0 = nI (if zN σ 121 j = 0 then 12 else 0)) ∧ (∀ j, j < zN σ 1576 0 → zb_I τ 1137 j 0 = nI (zN σ 122 j))
theorem zP1_n {τ : zB} {σ : zA} (h : zP1 τ σ) : zb_I τ 1513 0 0 = nI (zN σ 1576 0) := h.1
theorem zP1_a {τ : zB} {σ : zA} (h : zP1 τ σ) : ∀ j, zb_a τ 3 j = decide (j < zN σ 1576 0) := h.2.1
theorem zP1_r {τ : zB} {σ : zA} (h : zP1 τ σ) : ∀ j, j < zN σ 1576 0 → zb_R τ 402 0 j = some j := h.2.2.1
theorem zP1_ix {τ : zB} {σ : zA} (h : zP1 τ σ) : ∀ j, j < zN σ 1576 0 → zb_I τ 1128 j 0 = nI j := h.2.2.2.1
theorem zP1_ad {τ : zB} {σ : zA} (h : zP1 τ σ) : ∀ j, j < zN σ 1576 0 → zb_I τ 1129 j 0 = nI (zN σ 120 j) := h.2.2.2.2.1
theorem zP1_tx {τ : zB} {σ : zA} (h : zP1 τ σ) : ∀ j, j < zN σ 1576 0 → zb_I τ 1130 j 0 = nI (zN σ 121 j) := h.2.2.2.2.2.1
theorem zP1_fr {τ : zB} {σ : zA} (h : zP1 τ σ) : ∀ j, j < zN σ 1576 0 → zb_I τ 1131 j 0 = nI (zN σ 120 j % 8) := h.2.2.2.2.2.2.1
theorem zP1_aw {τ : zB} {σ : zA} (h : zP1 τ σ) : ∀ j, j < zN σ 1576 0 → zb_I τ 1132 j 0 = zn_cw (nI (zaddr σ j)) := h.2.2.2.2.2.2.2.1
theorem zP1_lo {τ : zB} {σ : zA} (h : zP1 τ σ) : ∀ j, j < zN σ 1576 0 → zb_I τ 1133 j 0 = nI (if zN σ 121 j = 0 then 0 else 32) := h.2.2.2.2.2.2.2.2.1
theorem zP1_hi {τ : zB} {σ : zA} (h : zP1 τ σ) : ∀ j, j < zN σ 1576 0 → zb_I τ 1134 j 0 = nI (if zN σ 121 j = 0 then 11 else 126) := h.2.2.2.2.2.2.2.2.2.1
theorem zP1_sb {τ : zB} {σ : zA} (h : zP1 τ σ) : ∀ j, j < zN σ 1576 0 → zb_I τ 1135 j 0 = nI (zwide σ j) := h.2.2.2.2.2.2.2.2.2.2.1
theorem zP1_fl {τ : zB} {σ : zA} (h : zP1 τ σ) : ∀ j, j < zN σ 1576 0 → zb_I τ 1136 j 0 = nI (if zN σ 121 j = 0 then 12 else 0) := h.2.2.2.2.2.2.2.2.2.2.2.1
theorem zP1_ca {τ : zB} {σ : zA} (h : zP1 τ σ) : ∀ j, j < zN σ 1576 0 → zb_I τ 1137 j 0 = nI (zN σ 122 j) := h.2.2.2.2.2.2.2.2.2.2.2.2
def zP2 (τ : zB) (σ : zA) : Prop := (zb_I τ 1515 0 0 = nI (zN σ 1595 0)) ∧ (∀ p, zb_a τ 7 p = decide (p < zN σ 1595 0)) ∧ (∀ p, p < zN σ 1595 0 → zb_R τ 406 0 p = some p) ∧ (∀ p, zb_a τ 401 p = decide (p < zN σ 1595 0)) ∧ (∀ p, p < zN σ 1595 0 → zb_l τ 401 p = 4) ∧ (∀ p, p < zN σ 1595 0 → zb_R τ 1384 p 0 = some p) ∧ (∀ p, p < zN σ 1595 0 → zb_I τ 1385 p 0 = nI (zN σ 132 p)) ∧ (∀ p, zb_a τ 407 p = decide (p < zN σ 1595 0)) ∧ (∀ p, p < zN σ 1595 0 → zb_l τ 407 p = 10) ∧ (∀ p, p < zN σ 1595 0 → zb_R τ 1386 p 0 = some p) ∧ (∀ p, p < zN σ 1595 0 → zb_I τ 1389 p 0 = zJ σ 139 (4 * p)) ∧ (∀ p, p < zN σ 1595 0 → zb_I τ 1390 p 0 = zJ σ 139 (4 * p + 1)) ∧ (∀ p, p < zN σ 1595 0 → zb_I τ 1391 p 0 = zJ σ 139 (4 * p + 2)) ∧ (∀ p, p < zN σ 1595 0 → zb_I τ 1392 p 0 = zJ σ 139 (4 * p + 3))
theorem zP2_n {τ : zB} {σ : zA} (h : zP2 τ σ) : zb_I τ 1515 0 0 = nI (zN σ 1595 0) := h.1
theorem zP2_a {τ : zB} {σ : zA} (h : zP2 τ σ) : ∀ p, zb_a τ 7 p = decide (p < zN σ 1595 0) := h.2.1
theorem zP2_r {τ : zB} {σ : zA} (h : zP2 τ σ) : ∀ p, p < zN σ 1595 0 → zb_R τ 406 0 p = some p := h.2.2.1
theorem zP2_ha {τ : zB} {σ : zA} (h : zP2 τ σ) : ∀ p, zb_a τ 401 p = decide (p < zN σ 1595 0) := h.2.2.2.1
theorem zP2_hl {τ : zB} {σ : zA} (h : zP2 τ σ) : ∀ p, p < zN σ 1595 0 → zb_l τ 401 p = 4 := h.2.2.2.2.1
theorem zP2_hr {τ : zB} {σ : zA} (h : zP2 τ σ) : ∀ p, p < zN σ 1595 0 → zb_R τ 1384 p 0 = some p := h.2.2.2.2.2.1
theorem zP2_hn {τ : zB} {σ : zA} (h : zP2 τ σ) : ∀ p, p < zN σ 1595 0 → zb_I τ 1385 p 0 = nI (zN σ 132 p) := h.2.2.2.2.2.2.1
theorem zP2_ga {τ : zB} {σ : zA} (h : zP2 τ σ) : ∀ p, zb_a τ 407 p = decide (p < zN σ 1595 0) := h.2.2.2.2.2.2.2.1
theorem zP2_gl {τ : zB} {σ : zA} (h : zP2 τ σ) : ∀ p, p < zN σ 1595 0 → zb_l τ 407 p = 10 := h.2.2.2.2.2.2.2.2.1
theorem zP2_gr {τ : zB} {σ : zA} (h : zP2 τ σ) : ∀ p, p < zN σ 1595 0 → zb_R τ 1386 p 0 = some p := h.2.2.2.2.2.2.2.2.2.1
theorem zP2_c0 {τ : zB} {σ : zA} (h : zP2 τ σ) : ∀ p, p < zN σ 1595 0 → zb_I τ 1389 p 0 = zJ σ 139 (4 * p) := h.2.2.2.2.2.2.2.2.2.2.1
theorem zP2_c1 {τ : zB} {σ : zA} (h : zP2 τ σ) : ∀ p, p < zN σ 1595 0 → zb_I τ 1390 p 0 = zJ σ 139 (4 * p + 1) := h.2.2.2.2.2.2.2.2.2.2.2.1
theorem zP2_c2 {τ : zB} {σ : zA} (h : zP2 τ σ) : ∀ p, p < zN σ 1595 0 → zb_I τ 1391 p 0 = zJ σ 139 (4 * p + 2) := h.2.2.2.2.2.2.2.2.2.2.2.2.1
theorem zP2_c3 {τ : zB} {σ : zA} (h : zP2 τ σ) : ∀ p, p < zN σ 1595 0 → zb_I τ 1392 p 0 = zJ σ 139 (4 * p + 3) := h.2.2.2.2.2.2.2.2.2.2.2.2.2
def zP3 (τ : zB) (σ : zA) : Prop := (∀ i, zb_a τ 2 i = (decide (i / 4 < zN σ 1595 0) && decide (i % 4 < zN σ 132 (i / 4)))) ∧ (∀ p h, p < zN σ 1595 0 → h < zN σ 132 p → zb_R τ 401 p h = some (4 * p + h)) ∧ (∀ p h, p < zN σ 1595 0 → h < zN σ 132 p → zb_R τ 1064 (4 * p + h) 0 = some (zN σ 131 (4 * p + h))) ∧ (∀ p h, p < zN σ 1595 0 → h < zN σ 132 p → zb_L τ 1065 (4 * p + h) 0 = zQ σ (12 * p + zN σ 131 (4 * p + h))) ∧ (∀ p h, p < zN σ 1595 0 → h < zN σ 132 p → zb_I τ 1066 (4 * p + h) 0 = zJ σ 138 (12 * p + zN σ 131 (4 * p + h)))
theorem zP3_a {τ : zB} {σ : zA} (h : zP3 τ σ) : ∀ i, zb_a τ 2 i = (decide (i / 4 < zN σ 1595 0) && decide (i % 4 < zN σ 132 (i / 4))) := h.1
theorem zP3_r {τ : zB} {σ : zA} (h : zP3 τ σ) : ∀ p h, p < zN σ 1595 0 → h < zN σ 132 p → zb_R τ 401 p h = some (4 * p + h) := h.2.1
theorem zP3_id {τ : zB} {σ : zA} (h : zP3 τ σ) : ∀ p h, p < zN σ 1595 0 → h < zN σ 132 p → zb_R τ 1064 (4 * p + h) 0 = some (zN σ 131 (4 * p + h)) := h.2.2.1
theorem zP3_ga {τ : zB} {σ : zA} (h : zP3 τ σ) : ∀ p h, p < zN σ 1595 0 → h < zN σ 132 p → zb_L τ 1065 (4 * p + h) 0 = zQ σ (12 * p + zN σ 131 (4 * p + h)) := h.2.2.2.1
theorem zP3_la {τ : zB} {σ : zA} (h : zP3 τ σ) : ∀ p h, p < zN σ 1595 0 → h < zN σ 132 p → zb_I τ 1066 (4 * p + h) 0 = zJ σ 138 (12 * p + zN σ 131 (4 * p + h)) := h.2.2.2.2
def zP4 (τ : zB) (σ : zA) (o : Nat → Nat) : Prop := (∀ i, zb_a τ 8 i = decide (i < 10 * zN σ 1595 0)) ∧ (∀ i, zb_a τ 104 i = decide (i < 10 * zN σ 1595 0)) ∧ (∀ i, i < 10 * zN σ 1595 0 → zb_l τ 104 i = 21) ∧ (∀ i, i < 10 * zN σ 1595 0 → zb_R τ 1451 i 0 = some i) ∧ (∀ p q, p < zN σ 1595 0 → q < 10 → zb_R τ 407 p q = some (10 * p + q)) ∧ (∀ p, p < zN σ 1595 0 → o p < 10) ∧ (∀ p, p < zN σ 1595 0 → zb_I τ 1387 p 0 = nI (o p)) ∧ (∀ p, p < zN σ 1595 0 → zb_I τ 1388 p 0 = nI (zN σ 133 p)) ∧ (∀ p k, p < zN σ 1595 0 → k < zN σ 133 p → zb_I τ 1448 (10 * p + (o p + k) % 10) 0 = nI (zN σ 134 (10 * p + k))) ∧ (∀ p k, p < zN σ 1595 0 → k < zN σ 133 p → zb_I τ 1449 (10 * p + (o p + k) % 10) 0 = nI (zN σ 135 (10 * p + k))) ∧ (∀ p k, p < zN σ 1595 0 → k < zN σ 133 p → zb_I τ 1450 (10 * p + (o p + k) % 10) 0 = nI (zN σ 202 (10 * p + k))) ∧ (∀ p k, p < zN σ 1595 0 → k < zN σ 133 p → zb_I τ 1452 (10 * p + (o p + k) % 10) 0 = nI (zN σ 136 (10 * p + k))) ∧ (∀ p k s, p < zN σ 1595 0 → k < zN σ 133 p → s < zN σ 136 (10 * p + k) → zb_I τ 104 (10 * p + (o p + k) % 10) s = zJ σ 137 (22 * (10 * p + k) + s))
theorem zP4_a {τ : zB} {σ : zA} {o : Nat → Nat} (h : zP4 τ σ o) : ∀ i, zb_a τ 8 i = decide (i < 10 * zN σ 1595 0) := h.1
theorem zP4_sa {τ : zB} {σ : zA} {o : Nat → Nat} (h : zP4 τ σ o) : ∀ i, zb_a τ 104 i = decide (i < 10 * zN σ 1595 0) := h.2.1
theorem zP4_sl {τ : zB} {σ : zA} {o : Nat → Nat} (h : zP4 τ σ o) : ∀ i, i < 10 * zN σ 1595 0 → zb_l τ 104 i = 21 := h.2.2.1
theorem zP4_sr {τ : zB} {σ : zA} {o : Nat → Nat} (h : zP4 τ σ o) : ∀ i, i < 10 * zN σ 1595 0 → zb_R τ 1451 i 0 = some i := h.2.2.2.1
theorem zP4_r {τ : zB} {σ : zA} {o : Nat → Nat} (h : zP4 τ σ o) : ∀ p q, p < zN σ 1595 0 → q < 10 → zb_R τ 407 p q = some (10 * p + q) := h.2.2.2.2.1
theorem zP4_o {τ : zB} {σ : zA} {o : Nat → Nat} (h : zP4 τ σ o) : ∀ p, p < zN σ 1595 0 → o p < 10 := h.2.2.2.2.2.1
theorem zP4_ol {τ : zB} {σ : zA} {o : Nat → Nat} (h : zP4 τ σ o) : ∀ p, p < zN σ 1595 0 → zb_I τ 1387 p 0 = nI (o p) := h.2.2.2.2.2.2.1
theorem zP4_n {τ : zB} {σ : zA} {o : Nat → Nat} (h : zP4 τ σ o) : ∀ p, p < zN σ 1595 0 → zb_I τ 1388 p 0 = nI (zN σ 133 p) := h.2.2.2.2.2.2.2.1
theorem zP4_id {τ : zB} {σ : zA} {o : Nat → Nat} (h : zP4 τ σ o) : ∀ p k, p < zN σ 1595 0 → k < zN σ 133 p → zb_I τ 1448 (10 * p + (o p + k) % 10) 0 = nI (zN σ 134 (10 * p + k)) := h.2.2.2.2.2.2.2.2.1
theorem zP4_nu {τ : zB} {σ : zA} {o : Nat → Nat} (h : zP4 τ σ o) : ∀ p k, p < zN σ 1595 0 → k < zN σ 133 p → zb_I τ 1449 (10 * p + (o p + k) % 10) 0 = nI (zN σ 135 (10 * p + k)) := h.2.2.2.2.2.2.2.2.2.1
theorem zP4_mk {τ : zB} {σ : zA} {o : Nat → Nat} (h : zP4 τ σ o) : ∀ p k, p < zN σ 1595 0 → k < zN σ 133 p → zb_I τ 1450 (10 * p + (o p + k) % 10) 0 = nI (zN σ 202 (10 * p + k)) := h.2.2.2.2.2.2.2.2.2.2.1
theorem zP4_sn {τ : zB} {σ : zA} {o : Nat → Nat} (h : zP4 τ σ o) : ∀ p k, p < zN σ 1595 0 → k < zN σ 133 p → zb_I τ 1452 (10 * p + (o p + k) % 10) 0 = nI (zN σ 136 (10 * p + k)) := h.2.2.2.2.2.2.2.2.2.2.2.1
theorem zP4_sg {τ : zB} {σ : zA} {o : Nat → Nat} (h : zP4 τ σ o) : ∀ p k s, p < zN σ 1595 0 → k < zN σ 133 p → s < zN σ 136 (10 * p + k) → zb_I τ 104 (10 * p + (o p + k) % 10) s = zJ σ 137 (22 * (10 * p + k) + s) := h.2.2.2.2.2.2.2.2.2.2.2.2
def zP5 (τ : zB) (σ : zA) : Prop := (zb_I τ 1517 0 0 = nI (zN σ 1580 0)) ∧ (zb_I τ 1518 0 0 = nI (zwait (zN σ 200) 0 (zN σ 1580 0))) ∧ (∀ k, zb_a τ 6 k = decide (k < zN σ 1580 0)) ∧ (∀ k, zb_a τ 105 k = decide (k < zN σ 1580 0)) ∧ (∀ k, zb_a τ 106 k = decide (k < zN σ 1580 0)) ∧ (∀ k, k < zN σ 1580 0 → zb_R τ 405 0 k = some k) ∧ (∀ k, k < zN σ 1580 0 → zb_R τ 1320 k 0 = some (zN σ 123 k)) ∧ (∀ k, k < zN σ 1580 0 → zb_I τ 1321 k 0 = nI (zN σ 124 k)) ∧ (∀ k, k < zN σ 1580 0 → zb_I τ 1322 k 0 = nI (zN σ 125 k)) ∧ (∀ k, k < zN σ 1580 0 → zb_R τ 1323 k 0 = some k) ∧ (∀ k, k < zN σ 1580 0 → zb_R τ 1324 k 0 = some k) ∧ (∀ k, k < zN σ 1580 0 → zb_I τ 1325 k 0 = nI (zN σ 200 k)) ∧ (∀ k, k < zN σ 1580 0 → zb_l τ 105 k = zN σ 126 k) ∧ (∀ k s, k < zN σ 1580 0 → s < zN σ 126 k → zb_I τ 105 k s = zJ σ 127 (20 * k + s)) ∧ (∀ k, k < zN σ 1580 0 → zb_l τ 106 k = znw σ k) ∧ (∀ k j, k < zN σ 1580 0 → j < znw σ k → zb_I τ 106 k j = zword σ k j)
theorem zP5_n {τ : zB} {σ : zA} (h : zP5 τ σ) : zb_I τ 1517 0 0 = nI (zN σ 1580 0) := h.1
theorem zP5_wt {τ : zB} {σ : zA} (h : zP5 τ σ) : zb_I τ 1518 0 0 = nI (zwait (zN σ 200) 0 (zN σ 1580 0)) := h.2.1
theorem zP5_a {τ : zB} {σ : zA} (h : zP5 τ σ) : ∀ k, zb_a τ 6 k = decide (k < zN σ 1580 0) := h.2.2.1
theorem zP5_sa {τ : zB} {σ : zA} (h : zP5 τ σ) : ∀ k, zb_a τ 105 k = decide (k < zN σ 1580 0) := h.2.2.2.1
theorem zP5_wa {τ : zB} {σ : zA} (h : zP5 τ σ) : ∀ k, zb_a τ 106 k = decide (k < zN σ 1580 0) := h.2.2.2.2.1
theorem zP5_r {τ : zB} {σ : zA} (h : zP5 τ σ) : ∀ k, k < zN σ 1580 0 → zb_R τ 405 0 k = some k := h.2.2.2.2.2.1
theorem zP5_to {τ : zB} {σ : zA} (h : zP5 τ σ) : ∀ k, k < zN σ 1580 0 → zb_R τ 1320 k 0 = some (zN σ 123 k) := h.2.2.2.2.2.2.1
theorem zP5_pr {τ : zB} {σ : zA} (h : zP5 τ σ) : ∀ k, k < zN σ 1580 0 → zb_I τ 1321 k 0 = nI (zN σ 124 k) := h.2.2.2.2.2.2.2.1
theorem zP5_nu {τ : zB} {σ : zA} (h : zP5 τ σ) : ∀ k, k < zN σ 1580 0 → zb_I τ 1322 k 0 = nI (zN σ 125 k) := h.2.2.2.2.2.2.2.2.1
theorem zP5_sr {τ : zB} {σ : zA} (h : zP5 τ σ) : ∀ k, k < zN σ 1580 0 → zb_R τ 1323 k 0 = some k := h.2.2.2.2.2.2.2.2.2.1
theorem zP5_wr {τ : zB} {σ : zA} (h : zP5 τ σ) : ∀ k, k < zN σ 1580 0 → zb_R τ 1324 k 0 = some k := h.2.2.2.2.2.2.2.2.2.2.1
theorem zP5_wz {τ : zB} {σ : zA} (h : zP5 τ σ) : ∀ k, k < zN σ 1580 0 → zb_I τ 1325 k 0 = nI (zN σ 200 k) := h.2.2.2.2.2.2.2.2.2.2.2.1
theorem zP5_sl {τ : zB} {σ : zA} (h : zP5 τ σ) : ∀ k, k < zN σ 1580 0 → zb_l τ 105 k = zN σ 126 k := h.2.2.2.2.2.2.2.2.2.2.2.2.1
theorem zP5_sg {τ : zB} {σ : zA} (h : zP5 τ σ) : ∀ k s, k < zN σ 1580 0 → s < zN σ 126 k → zb_I τ 105 k s = zJ σ 127 (20 * k + s) := h.2.2.2.2.2.2.2.2.2.2.2.2.2.1
theorem zP5_wl {τ : zB} {σ : zA} (h : zP5 τ σ) : ∀ k, k < zN σ 1580 0 → zb_l τ 106 k = znw σ k := h.2.2.2.2.2.2.2.2.2.2.2.2.2.2.1
theorem zP5_wd {τ : zB} {σ : zA} (h : zP5 τ σ) : ∀ k j, k < zN σ 1580 0 → j < znw σ k → zb_I τ 106 k j = zword σ k j := h.2.2.2.2.2.2.2.2.2.2.2.2.2.2.2
def zP6 (τ : zB) (σ : zA) : Prop := (zb_I τ 1520 0 0 = nI (zN σ 1588 0)) ∧ (∀ j, j < zN σ 1588 0 → zb_I τ 100 0 j = zJ σ 128 j)
theorem zP6_n {τ : zB} {σ : zA} (h : zP6 τ σ) : zb_I τ 1520 0 0 = nI (zN σ 1588 0) := h.1
theorem zP6_d {τ : zB} {σ : zA} (h : zP6 τ σ) : ∀ j, j < zN σ 1588 0 → zb_I τ 100 0 j = zJ σ 128 j := h.2
def zP7 (τ : zB) (σ : zA) : Prop := (zb_I τ 1001 0 0 = nI (zN σ 1592 0)) ∧ (∀ i, i < zN σ 1592 0 → bt (zb_I τ 102 0 (i / 32)) (31 - i % 32) = decide (zN σ 130 i = 1))
theorem zP7_n {τ : zB} {σ : zA} (h : zP7 τ σ) : zb_I τ 1001 0 0 = nI (zN σ 1592 0) := h.1
theorem zP7_d {τ : zB} {σ : zA} (h : zP7 τ σ) : ∀ i, i < zN σ 1592 0 → bt (zb_I τ 102 0 (i / 32)) (31 - i % 32) = decide (zN σ 130 i = 1) := h.2
def zP8 (τ : zB) : Prop := (zb_R τ 1259 0 0 = none)
theorem zP8_ru {τ : zB} (h : zP8 τ) : zb_R τ 1259 0 0 = none := h
def zI (σ : zA) : Prop := (zN σ 1576 0 ≤ 12) ∧ (zN σ 1580 0 ≤ 200) ∧ (zN σ 1588 0 ≤ 20) ∧ (zN σ 1592 0 ≤ 2240) ∧ (zN σ 1595 0 ≤ 6) ∧ (zN σ 1592 0 % 32 = 0) ∧ (∀ i, zN σ 120 i < 2097152) ∧ (∀ i, i < zN σ 1576 0 → zN σ 120 i / 8 ≠ 250958) ∧ (∀ i j, i < zN σ 1576 0 → j < zN σ 1576 0 → zN σ 120 i = zN σ 120 j → i = j) ∧ (∀ i, zN σ 121 i < 2) ∧ (∀ i, zN σ 122 i ≤ zN σ 1580 0) ∧ (∀ i, zN σ 1576 0 ≤ i → zN σ 122 i = 0) ∧ (∀ k, k < zN σ 1580 0 → zN σ 123 k < zN σ 1576 0) ∧ (∀ k, zN σ 124 k < 4) ∧ (∀ k, zN σ 125 k < 64) ∧ (∀ k, zN σ 126 k ≤ 20) ∧ (∀ k, zN σ 200 k < 2) ∧ (zwait (zN σ 200) 0 (zN σ 1580 0) ≤ 60) ∧ (∀ j, j < zN σ 1588 0 → ¬ zJ σ 128 j < 0 ∧ zJ σ 128 j ≤ 126) ∧ (∀ j, zN σ 202 j < 2) ∧ (∀ j, zN σ 130 j < 2) ∧ (∀ p, zN σ 132 p ≤ 4) ∧ (∀ p h, p < 6 → h < zN σ 132 p → zN σ 131 (4 * p + h) < zN σ 1576 0) ∧ (∀ p, zN σ 1595 0 ≤ p → zN σ 132 p = 0 ∧ zN σ 133 p = 0) ∧ (∀ p c, zN σ 1595 0 ≤ p → c < 4 → zJ σ 139 (4 * p + c) = 0) ∧ (∀ p i, p < 6 → i < 12 → zhears σ p i = false → zQ σ (12 * p + i) = 0) ∧ (∀ p h k, p < 6 → h < zN σ 132 p → k < zN σ 132 p → zN σ 131 (4 * p + h) = zN σ 131 (4 * p + k) → h = k) ∧ (∀ p, zN σ 133 p ≤ 10) ∧ (∀ i, zN σ 136 i ≤ 21) ∧ (∀ i, zN σ 134 i < 12) ∧ (∀ i, zN σ 135 i < 64) ∧ (∀ j, zLat (zJ σ 138 j))
theorem zI_idn {σ : zA} (h : zI σ) : zN σ 1576 0 ≤ 12 := h.1
theorem zI_msn {σ : zA} (h : zI σ) : zN σ 1580 0 ≤ 200 := h.2.1
theorem zI_ldn {σ : zA} (h : zI σ) : zN σ 1588 0 ≤ 20 := h.2.2.1
theorem zI_bts {σ : zA} (h : zI σ) : zN σ 1592 0 ≤ 2240 := h.2.2.2.1
theorem zI_pgn {σ : zA} (h : zI σ) : zN σ 1595 0 ≤ 6 := h.2.2.2.2.1
theorem zI_b32 {σ : zA} (h : zI σ) : zN σ 1592 0 % 32 = 0 := h.2.2.2.2.2.1
theorem zI_adr {σ : zA} (h : zI σ) : ∀ i, zN σ 120 i < 2097152 := h.2.2.2.2.2.2.1
theorem zI_res {σ : zA} (h : zI σ) : ∀ i, i < zN σ 1576 0 → zN σ 120 i / 8 ≠ 250958 := h.2.2.2.2.2.2.2.1
theorem zI_inj {σ : zA} (h : zI σ) : ∀ i j, i < zN σ 1576 0 → j < zN σ 1576 0 → zN σ 120 i = zN σ 120 j → i = j := h.2.2.2.2.2.2.2.2.1
theorem zI_knd {σ : zA} (h : zI σ) : ∀ i, zN σ 121 i < 2 := h.2.2.2.2.2.2.2.2.2.1
theorem zI_cal {σ : zA} (h : zI σ) : ∀ i, zN σ 122 i ≤ zN σ 1580 0 := h.2.2.2.2.2.2.2.2.2.2.1
theorem zI_cal0 {σ : zA} (h : zI σ) : ∀ i, zN σ 1576 0 ≤ i → zN σ 122 i = 0 := h.2.2.2.2.2.2.2.2.2.2.2.1
theorem zI_mto {σ : zA} (h : zI σ) : ∀ k, k < zN σ 1580 0 → zN σ 123 k < zN σ 1576 0 := h.2.2.2.2.2.2.2.2.2.2.2.2.1
theorem zI_mpr {σ : zA} (h : zI σ) : ∀ k, zN σ 124 k < 4 := h.2.2.2.2.2.2.2.2.2.2.2.2.2.1
theorem zI_mnu {σ : zA} (h : zI σ) : ∀ k, zN σ 125 k < 64 := h.2.2.2.2.2.2.2.2.2.2.2.2.2.2.1
theorem zI_mle {σ : zA} (h : zI σ) : ∀ k, zN σ 126 k ≤ 20 := h.2.2.2.2.2.2.2.2.2.2.2.2.2.2.2.1
theorem zI_wts {σ : zA} (h : zI σ) : ∀ k, zN σ 200 k < 2 := h.2.2.2.2.2.2.2.2.2.2.2.2.2.2.2.2.1
theorem zI_wtn {σ : zA} (h : zI σ) : zwait (zN σ 200) 0 (zN σ 1580 0) ≤ 60 := h.2.2.2.2.2.2.2.2.2.2.2.2.2.2.2.2.2.1
theorem zI_ld {σ : zA} (h : zI σ) : ∀ j, j < zN σ 1588 0 → ¬ zJ σ 128 j < 0 ∧ zJ σ 128 j ≤ 126 := h.2.2.2.2.2.2.2.2.2.2.2.2.2.2.2.2.2.2.1
theorem zI_mk {σ : zA} (h : zI σ) : ∀ j, zN σ 202 j < 2 := h.2.2.2.2.2.2.2.2.2.2.2.2.2.2.2.2.2.2.2.1
theorem zI_air {σ : zA} (h : zI σ) : ∀ j, zN σ 130 j < 2 := h.2.2.2.2.2.2.2.2.2.2.2.2.2.2.2.2.2.2.2.2.1
theorem zI_hcn {σ : zA} (h : zI σ) : ∀ p, zN σ 132 p ≤ 4 := h.2.2.2.2.2.2.2.2.2.2.2.2.2.2.2.2.2.2.2.2.2.1
theorem zI_hrs {σ : zA} (h : zI σ) : ∀ p h, p < 6 → h < zN σ 132 p → zN σ 131 (4 * p + h) < zN σ 1576 0 := h.2.2.2.2.2.2.2.2.2.2.2.2.2.2.2.2.2.2.2.2.2.2.1
theorem zI_hc0 {σ : zA} (h : zI σ) : ∀ p, zN σ 1595 0 ≤ p → zN σ 132 p = 0 ∧ zN σ 133 p = 0 := h.2.2.2.2.2.2.2.2.2.2.2.2.2.2.2.2.2.2.2.2.2.2.2.1
theorem zI_ct0 {σ : zA} (h : zI σ) : ∀ p c, zN σ 1595 0 ≤ p → c < 4 → zJ σ 139 (4 * p + c) = 0 := h.2.2.2.2.2.2.2.2.2.2.2.2.2.2.2.2.2.2.2.2.2.2.2.2.1
theorem zI_mi0 {σ : zA} (h : zI σ) : ∀ p i, p < 6 → i < 12 → zhears σ p i = false → zQ σ (12 * p + i) = 0 := h.2.2.2.2.2.2.2.2.2.2.2.2.2.2.2.2.2.2.2.2.2.2.2.2.2.1
theorem zI_dis {σ : zA} (h : zI σ) : ∀ p h k, p < 6 → h < zN σ 132 p → k < zN σ 132 p → zN σ 131 (4 * p + h) = zN σ 131 (4 * p + k) → h = k := h.2.2.2.2.2.2.2.2.2.2.2.2.2.2.2.2.2.2.2.2.2.2.2.2.2.2.1
theorem zI_kpn {σ : zA} (h : zI σ) : ∀ p, zN σ 133 p ≤ 10 := h.2.2.2.2.2.2.2.2.2.2.2.2.2.2.2.2.2.2.2.2.2.2.2.2.2.2.2.1
theorem zI_kmn {σ : zA} (h : zI σ) : ∀ i, zN σ 136 i ≤ 21 := h.2.2.2.2.2.2.2.2.2.2.2.2.2.2.2.2.2.2.2.2.2.2.2.2.2.2.2.2.1
theorem zI_kof {σ : zA} (h : zI σ) : ∀ i, zN σ 134 i < 12 := h.2.2.2.2.2.2.2.2.2.2.2.2.2.2.2.2.2.2.2.2.2.2.2.2.2.2.2.2.2.1
theorem zI_knu {σ : zA} (h : zI σ) : ∀ i, zN σ 135 i < 64 := h.2.2.2.2.2.2.2.2.2.2.2.2.2.2.2.2.2.2.2.2.2.2.2.2.2.2.2.2.2.2.1
theorem zI_lat {σ : zA} (h : zI σ) : ∀ j, zLat (zJ σ 138 j) := h.2.2.2.2.2.2.2.2.2.2.2.2.2.2.2.2.2.2.2.2.2.2.2.2.2.2.2.2.2.2.2
def zP (τ : zB) (σ : zA) : Prop := zP0 τ ∧ zP1 τ σ ∧ zP2 τ σ ∧ zP3 τ σ ∧ (∃ o, zP4 τ σ o) ∧ zP5 τ σ ∧ zP6 τ σ ∧ zP7 τ σ ∧ zP8 τ
