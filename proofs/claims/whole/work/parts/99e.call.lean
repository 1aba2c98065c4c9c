/-! call: all words -/
theorem zb_sF_sF (τ : zB) (κ i : Nat) (f g : Nat → Int32) : zb_sF (zb_sF τ κ i f) κ i g = zb_sF τ κ i g := by
  unfold zb_sF
  congr 2
  funext k a
  by_cases h : k = κ ∧ a = i
  · rw [if_pos h, if_pos h]
  · rw [if_neg h, if_neg h]
    exact if_neg h
theorem zb_I_sF (τ : zB) (κ i : Nat) (f : Nat → Int32) : zb_I (zb_sF τ κ i f) κ i = f := if_pos ⟨rfl, rfl⟩
theorem z20_or {d : Nat} (hd : d < 2 ^ 20) : (1048576 : Int32) ||| nI d = nI (1048576 + d) := by
  have e : 1048576 + d = 1048576 ||| d := Nat.two_pow_add_eq_or_of_lt (i := 20) hd 1
  rw [e]
  apply Int32.toBitVec_inj.1
  show BitVec.ofNat 32 1048576 ||| BitVec.ofNat 32 d = BitVec.ofNat 32 (1048576 ||| d)
  apply BitVec.eq_of_getLsbD_eq
  intro i hi
  simp [hi]
section ZCALL6
variable {ac : Nat → Nat → Nat} {F : Nat}
theorem zc_w45 (hF : 2500 ≤ F) {i kd k n num wd L : Nat} (hd : kd < 2) (hwd : wd = 4 ∨ wd = 7) (hn : n ≤ 20) (hnum : num < 64) (hL : L ≤ 20) : ∀ c N j (τ : zB) (w : zw_T), j + c = L → 1 ≤ j → c < N → zC ac τ w → zb_a τ 3 i = true → zb_I τ 1130 i 0 = nI kd → zb_I τ 1136 i 0 = nI (if kd = 0 then 12 else 0) → zb_I τ 1135 i 0 = nI wd → zb_a τ 105 k = true → zb_l τ 105 k = n → zb_a τ 106 k = true → zb_l τ 106 k = L → ∃ w' f, zf_Ms_wordsOf_L45 F N w (some (ac 3 i)) (nI num) (some (ac 105 k)) (some (ac 106 k)) (nI (20 * (j - 1) / wd)) (nI (20 * (j - 1) % wd)) (nI j) = some (some (ac 106 k), w') ∧ zC ac (zb_sF τ 106 k f) w' ∧ zw_n w' = zw_n w ∧ zw_ty w' = zw_ty w ∧ ∀ q, q < L → f q = if q < j then zb_I τ 106 k q else zn_cw (nI (zdat (fun q => bt (zsC (zb_I τ 105 k) kd n num (q / wd)) (q % wd)) (20 * (q - 1)) 20 1)) := by
  intro c
  induction c with
  | zero =>
    intro N j τ w e1 e0 e2 hC a3 hk hf hw a5 l5 a6 l6
    obtain ⟨N, rfl⟩ : ∃ q, N = q + 1 := ⟨N - 1, by omega⟩
    have et : (zw_ty w (ac 106 k)).2 = L := by rw [(hC.1 106 k a6).1, l6]
    refine ⟨w, zb_I τ 106 k, ?_, ?_, rfl, rfl, fun q hq => by rw [if_pos (by omega)]⟩
    · unfold zf_Ms_wordsOf_L45
      rw [zC_at hC 106 k a6, et, if_pos ((nI_leI (by omega) (by omega)).mpr (by omega))]
    · have e : zb_sF τ 106 k (zb_I τ 106 k) = τ := by
        unfold zb_sF
        have : (fun k' a => if k' = 106 ∧ a = k then zb_I τ 106 k else τ.2.1 k' a) = τ.2.1 := by
          funext k' a
          by_cases h : k' = 106 ∧ a = k
          · rw [if_pos h, h.1, h.2]
            rfl
          · rw [if_neg h]
        rw [this]
      rw [e]
      exact hC
  | succ c ih =>
    intro N j τ w e1 e0 e2 hC a3 hk hf hw a5 l5 a6 l6
    obtain ⟨N, rfl⟩ : ∃ q, N = q + 1 := ⟨N - 1, by omega⟩
    have et : (zw_ty w (ac 106 k)).2 = L := by rw [(hC.1 106 k a6).1, l6]
    have c1 := zC_sI hC 106 106 k rfl a6 j (zn_cw (nI (zdat (fun q => bt (zsC (zb_I τ 105 k) kd n num (q / wd)) (q % wd)) (20 * (j - 1)) 20 1)))
    obtain ⟨w', f, r1, r2, r3, r4, r5⟩ := ih N (j + 1) _ _ (by omega) (by omega) (by omega) c1 a3 hk hf hw a5 l5 a6 l6
    refine ⟨w', f, ?_, ?_, r3, r4, fun q hq => ?_⟩
    · have hlt := zdat_lt (fun q => bt (zsC (zb_I τ 105 k) kd n num (q / wd)) (q % wd)) 20 (20 * (j - 1)) 0 0 (by decide)
      have ezd : 1048576 + zdat (fun q => bt (zsC (zb_I τ 105 k) kd n num (q / wd)) (q % wd)) (20 * (j - 1)) 20 0 = zdat (fun q => bt (zsC (zb_I τ 105 k) kd n num (q / wd)) (q % wd)) (20 * (j - 1)) 20 1 := by
        rw [zdat_lin _ 20 _ 1]
      unfold zf_Ms_wordsOf_L45
      rw [zC_at hC 106 k a6, et, if_neg (zn_le (by omega) (by omega) (by omega)), zlt_s, zlt_s]
      have st := zc_w59 (F := F) hC (k45 := zf_Ms_wordsOf_L45 F N) (x7 := nI j) (o4 := some (ac 106 k)) a3 hk hd hf hw hwd a5 l5 hn hnum 20 F 0 0 (20 * (j - 1)) (by omega) (by omega) (by decide) (by omega)
      have st' : zf_Ms_wordsOf_L59 F (zf_Ms_wordsOf_L45 F N) F w (some (ac 3 i)) (nI num) (some (ac 105 k)) (some (ac 106 k)) (nI (20 * (j - 1) / wd)) (nI (20 * (j - 1) % wd)) (nI j) (0 : Int32) (0 : Int32) = _ := st
      rw [st', z20_or (by simpa using hlt), ezd, zn_cwW hF, zbd_s, zC_ix hC 106 k a6 (by rw [l6]; omega) (by omega), zlt_s, zlt_s, zs1, show 20 * (j - 1) + 20 = 20 * (j + 1 - 1) by omega]
      exact r1
    · have : zb_sF (zb_sI τ 106 k j (zn_cw (nI (zdat (fun q => bt (zsC (zb_I τ 105 k) kd n num (q / wd)) (q % wd)) (20 * (j - 1)) 20 1)))) 106 k f = zb_sF τ 106 k f := zb_sF_sF τ 106 k _ f
      rw [this] at r2
      exact r2
    · rw [r5 q hq]
      by_cases h1 : q < j
      · rw [if_pos (by omega), if_pos h1, zb_I_sI, if_neg (by omega)]
      · by_cases h2 : q = j
        · rw [if_pos (by omega), if_neg h1, zb_I_sI, if_pos ⟨rfl, rfl, h2⟩, h2]
        · rw [if_neg (by omega), if_neg h1]
          rfl
end ZCALL6
