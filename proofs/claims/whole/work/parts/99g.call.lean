/-! call: the message is made -/
def zmsT (τ : zB) (k i : Nat) (pr num : Int32) : zB := zb_sR (zb_sI (zb_sI (zb_sR (zb_sI τ 1325 k 0 1) 1320 k 0 (some i)) 1321 k 0 pr) 1322 k 0 num) 1323 k 0 (some k)
section ZCALL8
variable {ac : Nat → Nat → Nat} {τ : zB} {w : zw_T} {F : Nat}
theorem zc_msi (hF : 2500 ≤ F) (hC : zC ac τ w) (hB : zo_b w) {i kd k n num wd L : Nat} {pr : Int32} (hd : kd < 2) (hwk : wd = if kd = 0 then 4 else 7) (hn : n ≤ 20) (hnum : num < 64) (hL : L = 1 + ((n + (if kd = 0 then 2 else 1)) * wd + 19) / 20) (a6 : zb_a τ 6 k = true) (a3 : zb_a τ 3 i = true) (hk : zb_I τ 1130 i 0 = nI kd) (hf : zb_I τ 1136 i 0 = nI (if kd = 0 then 12 else 0)) (hw : zb_I τ 1135 i 0 = nI wd) (a5 : zb_a τ 105 k = true) (l5 : zb_l τ 105 k = n) (n6 : zb_a τ 106 k = false) : ∃ ac' w' f, zf_Ms_init F w (ac 6 k) (some (ac 3 i)) pr (nI num) (some (ac 105 k)) = some w' ∧ zC ac' (zb_sR (zb_sF (zb_new (zmsT τ k i pr (nI num)) 106 k L) 106 k f) 1324 k 0 (some k)) w' ∧ zo_b w' ∧ (∀ a b, a ≠ 106 → ac' a b = ac a b) ∧ f 0 = zb_I τ 1132 i 0 ∧ ∀ q, 1 ≤ q → q < L → f q = zn_cw (nI (zdat (fun q => bt (zsC (zb_I τ 105 k) kd n num (q / wd)) (q % wd)) (20 * (q - 1)) 20 1)) := by
  have c1 := zC_sI hC 1325 6 k rfl a6 0 1
  have c2 := zC_sR c1 1320 6 3 k rfl rfl a6 0 (v := some i) (fun j hj => by cases hj; exact a3)
  have c3 := zC_sI c2 1321 6 k rfl a6 0 pr
  have c4 := zC_sI c3 1322 6 k rfl a6 0 (nI num)
  have c5 := zC_sR c4 1323 6 105 k rfl rfl a6 0 (v := some k) (fun j hj => by cases hj; exact a5)
  obtain ⟨ac1, w1, f, r1, r2, r3, r4, r5, r6⟩ := zc_wo hF c5 hB (num := num) hd hwk hn hnum hL a3 hk hf hw a5 l5 n6
  have d6 : zb_a (zb_sF (zb_new (zmsT τ k i pr (nI num)) 106 k L) 106 k f) 106 k = true := by
    show zb_a (zb_new (zmsT τ k i pr (nI num)) 106 k L) 106 k = true
    rw [zb_a_new, if_pos ⟨rfl, rfl⟩]
  have c6 := zC_sR r2 1324 6 106 k rfl rfl a6 0 (v := some k) (fun j hj => by cases hj; exact d6)
  refine ⟨ac1, _, f, ?_, c6, r3, r4, r5, r6⟩
  unfold zf_Ms_init
  have c2' : zC ac _ (zw_sR (zw_sI w 1325 (ac 6 k) 0 1) 1320 (ac 6 k) 0 (some (ac 3 i))) := c2
  have c3' : zC ac _ (zw_sI (zw_sR (zw_sI w 1325 (ac 6 k) 0 1) 1320 (ac 6 k) 0 (some (ac 3 i))) 1321 (ac 6 k) 0 pr) := c3
  have c4' : zC ac _ (zw_sI (zw_sI (zw_sR (zw_sI w 1325 (ac 6 k) 0 1) 1320 (ac 6 k) 0 (some (ac 3 i))) 1321 (ac 6 k) 0 pr) 1322 (ac 6 k) 0 (nI num)) := c4
  have r1' : zf_Ms_wordsOf F (zw_sR (zw_sI (zw_sI (zw_sR (zw_sI w 1325 (ac 6 k) 0 1) 1320 (ac 6 k) 0 (some (ac 3 i))) 1321 (ac 6 k) 0 pr) 1322 (ac 6 k) 0 (nI num)) 1323 (ac 6 k) 0 (some (ac 105 k))) (some (ac 3 i)) (nI num) (some (ac 105 k)) = some (some (ac1 106 k), w1) := r1
  rw [zb_1, zC_at hC 6 k a6, zlt_s, zC_at c1 6 k a6, zlt_s, zC_at c2' 6 k a6, zlt_s, zC_at c3' 6 k a6, zlt_s, zC_at c4' 6 k a6, zlt_s, r1', zbd_s, ← r4 6 k (by decide), zC_at r2 6 k a6, zlt_s]
  rfl
end ZCALL8
