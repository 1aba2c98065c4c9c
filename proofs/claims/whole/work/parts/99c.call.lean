/-! call: what goes out, sign by sign -/
def zsC (g : Nat → Int32) (kd n num s : Nat) : Int32 := if kd = 0 then (if s = 0 then nI (num / 10) else if s = 1 then nI (num % 10) else if s < n + 2 then g (s - 2) else 12) else (if s = 0 then nI (32 + num) else if s < n + 1 then g (s - 1) else 0)
section ZCALL4
variable {ac : Nat → Nat → Nat} {τ : zB} {w : zw_T} {F : Nat}
theorem zc_ns (hC : zC ac τ w) {i kd : Nat} (a3 : zb_a τ 3 i = true) (hk : zb_I τ 1130 i 0 = nI kd) (hd : kd < 2) : zf_Id_numberSigns F w (ac 3 i) = some (nI (if kd = 0 then 2 else 1), w) := by
  unfold zf_Id_numberSigns
  rw [zC_at hC 3 i a3, zC_I hC 1130 3 i rfl a3, hk]
  rcases (show kd = 0 ∨ kd = 1 by omega) with rfl | rfl
  · rw [if_pos (by decide), if_pos rfl]
    rfl
  · rw [if_neg (by decide), if_neg (by decide)]
    rfl
theorem zc_sent (hC : zC ac τ w) {i kd k n num s : Nat} (a3 : zb_a τ 3 i = true) (hk : zb_I τ 1130 i 0 = nI kd) (hd : kd < 2) (hf : zb_I τ 1136 i 0 = nI (if kd = 0 then 12 else 0)) (a5 : zb_a τ 105 k = true) (l5 : zb_l τ 105 k = n) (hn : n ≤ 20) (hnum : num < 64) (hs : s < 1000000) : zf_Ms_sentSign F w (nI s) (some (ac 3 i)) (nI num) (some (ac 105 k)) = some (zsC (zb_I τ 105 k) kd n num s, w) := by
  have et : (zw_ty w (ac 105 k)).2 = n := by rw [(hC.1 105 k a5).1, l5]
  unfold zf_Ms_sentSign
  rw [zC_at hC 3 i a3, zc_ns hC a3 hk hd, zbd_s, zlt_s]
  unfold zsC
  rcases (show kd = 0 ∨ kd = 1 by omega) with rfl | rfl
  · rw [if_pos rfl, if_pos rfl]
    by_cases h2 : s < 2
    · have ng : ¬ (0 : Int32) ≤ nI s - nI 2 := by
        rcases (show s = 0 ∨ s = 1 by omega) with rfl | rfl <;> decide
      rw [if_neg ng, zC_at hC 3 i a3]
      unfold zf_Id_numberSign
      rw [zC_at hC 3 i a3, zC_I hC 1130 3 i rfl a3, hk, if_pos (by decide)]
      rcases (show s = 0 ∨ s = 1 by omega) with rfl | rfl
      · rw [if_pos (by decide), if_pos rfl, show (10 : Int32) = nI 10 from rfl, pk_div (by omega) (by decide) (by decide), zbd_s]
      · rw [if_neg (by decide), if_neg (by decide), if_pos rfl, show (10 : Int32) = nI 10 from rfl, zq_rem (by omega) (by decide) (by decide), zbd_s]
    · rw [pk_sub (by omega), if_pos (nI_pos' (by omega)), zC_at hC 105 k a5, et, if_neg (by omega : ¬ s = 0), if_neg (by omega : ¬ s = 1)]
      by_cases h3 : s < n + 2
      · rw [if_neg (zn_le (by omega) (by omega) (by omega)), if_pos h3, zC_ix hC 105 k a5 (by rw [l5]; omega) (by omega), zC_I hC 105 105 k rfl a5]
      · rw [if_pos ((nI_leI (by omega) (by omega)).mpr (by omega)), if_neg h3, zC_at hC 3 i a3, zC_I hC 1136 3 i rfl a3, hf]
        rfl
  · rw [show (if 1 = 0 then 2 else 1 : Nat) = 1 from rfl, if_neg (show ¬ (1 : Nat) = 0 by decide)]
    by_cases h2 : s < 1
    · have h2 : s = 0 := by omega
      subst h2
      rw [if_neg (show ¬ (0 : Int32) ≤ nI 0 - nI 1 by decide), zC_at hC 3 i a3]
      unfold zf_Id_numberSign
      rw [zC_at hC 3 i a3, zC_I hC 1130 3 i rfl a3, hk, if_neg (show ¬ nI 1 = (0 : Int32) by decide), show (32 : Int32) = nI 32 from rfl, nI_add, zbd_s, if_pos rfl]
    · rw [pk_sub (by omega), if_pos (nI_pos' (by omega)), zC_at hC 105 k a5, et, if_neg (by omega : ¬ s = 0)]
      by_cases h3 : s < n + 1
      · rw [if_neg (zn_le (by omega) (by omega) (by omega)), if_pos h3, zC_ix hC 105 k a5 (by rw [l5]; omega) (by omega), zC_I hC 105 105 k rfl a5]
      · rw [if_pos ((nI_leI (by omega) (by omega)).mpr (by omega)), if_neg h3, zC_at hC 3 i a3, zC_I hC 1136 3 i rfl a3, hf]
        rfl
end ZCALL4
