/-! call: the words of a message -/
section ZCALL7
variable {ac : Nat → Nat → Nat} {τ : zB} {w : zw_T} {F : Nat}
theorem zc_wo (hF : 2500 ≤ F) (hC : zC ac τ w) (hB : zo_b w) {i kd k n num wd L : Nat} (hd : kd < 2) (hwk : wd = if kd = 0 then 4 else 7) (hn : n ≤ 20) (hnum : num < 64) (hL : L = 1 + ((n + (if kd = 0 then 2 else 1)) * wd + 19) / 20) (a3 : zb_a τ 3 i = true) (hk : zb_I τ 1130 i 0 = nI kd) (hf : zb_I τ 1136 i 0 = nI (if kd = 0 then 12 else 0)) (hw : zb_I τ 1135 i 0 = nI wd) (a5 : zb_a τ 105 k = true) (l5 : zb_l τ 105 k = n) (n6 : zb_a τ 106 k = false) : ∃ ac' w' f, zf_Ms_wordsOf F w (some (ac 3 i)) (nI num) (some (ac 105 k)) = some (some (ac' 106 k), w') ∧ zC ac' (zb_sF (zb_new τ 106 k L) 106 k f) w' ∧ zo_b w' ∧ (∀ a b, a ≠ 106 → ac' a b = ac a b) ∧ f 0 = zb_I τ 1132 i 0 ∧ ∀ q, 1 ≤ q → q < L → f q = zn_cw (nI (zdat (fun q => bt (zsC (zb_I τ 105 k) kd n num (q / wd)) (q % wd)) (20 * (q - 1)) 20 1)) := by
  have hwd : wd = 4 ∨ wd = 7 := by
    rw [hwk]
    split
    · exact Or.inl rfl
    · exact Or.inr rfl
  have hL20 : 1 ≤ L ∧ L ≤ 20 := by
    rw [hL]
    rcases hwd with rfl | rfl <;> split <;> omega
  have et : (zw_ty w (ac 105 k)).2 = n := by rw [(hC.1 105 k a5).1, l5]
  obtain ⟨ac1, e1, e2, c1⟩ := zC_newE hC hB 106 k L (by decide) n6
  have b1 := zo_b_new hB 106 L
  have d6 : zb_a (zb_new τ 106 k L) 106 k = true := by rw [zb_a_new, if_pos ⟨rfl, rfl⟩]
  have l6 : zb_l (zb_new τ 106 k L) 106 k = L := by rw [zb_l_new, if_pos ⟨rfl, rfl⟩]
  have x3 := e2 3 i (by omega)
  have x5 := e2 105 k (by omega)
  have k1 : zw_I (zw_new w 106 L) 1132 (ac1 3 i) 0 = zb_I τ 1132 i 0 := zC_I c1 1132 3 i rfl a3 0
  have c2 := zC_sI c1 106 106 k rfl d6 0 (zb_I τ 1132 i 0)
  obtain ⟨w', f, r1, r2, r3, r4, r5⟩ := zc_w45 hF (i := i) (k := k) hd hwd hn hnum hL20.2 (L - 1) F 1 _ _ (by omega) (by omega) (by omega) c2 a3 hk hf hw a5 l5 d6 l6
  refine ⟨ac1, w', f, ?_, ?_, ?_, fun a b h => e2 a b (fun z => h z.1), ?_, fun q q1 q2 => ?_⟩
  · have eL : (1 : Int32) + (((nI (if kd = 0 then 2 else 1) + nI n) * nI wd + (20 : Int32)) - (1 : Int32)) / (20 : Int32) = nI L := by
      have hb : ((if kd = 0 then 2 else 1) + n) * wd < 1000 := by
        rcases hwd with rfl | rfl <;> split <;> omega
      rw [nI_add, pk_mul, show (20 : Int32) = nI 20 from rfl, nI_add, show (1 : Int32) = nI 1 from rfl, pk_sub (by omega), pk_div (by omega) (by decide) (by decide), nI_add, hL, Nat.add_comm n]
      congr 3
    unfold zf_Ms_wordsOf
    rw [zC_at hC 3 i a3, zc_ns hC a3 hk hd, zbd_s, zC_at hC 105 k a5, zC_at hC 3 i a3, et, zC_I hC 1135 3 i rfl a3, hw, zlt_s, eL, znaE (by omega) (by decide), zlt_s, ← e1, ← x3, ← x5, zC_at c1 3 i a3, k1, show (0 : Int32) = nI 0 from rfl, zC_ix c1 106 k d6 (by rw [l6]; omega) (by decide), zlt_s, zlt_s, zlt_s, zlt_s]
    have z1 : 20 * (1 - 1) / wd = 0 ∧ 20 * (1 - 1) % wd = 0 := by rcases hwd with rfl | rfl <;> exact ⟨rfl, rfl⟩
    rw [z1.1, z1.2] at r1
    exact r1
  · have : zb_sF (zb_sI (zb_new τ 106 k L) 106 k 0 (zb_I τ 1132 i 0)) 106 k f = zb_sF (zb_new τ 106 k L) 106 k f := zb_sF_sF _ 106 k _ f
    rw [this] at r2
    exact r2
  · intro a ha
    rw [r4] at ha
    rw [r3]
    exact b1 a ha
  · rw [r5 0 (by omega), if_pos (by decide), zb_I_sI, if_pos ⟨rfl, rfl, rfl⟩]
  · rw [r5 q q2, if_neg (by omega)]
    rfl
end ZCALL7
