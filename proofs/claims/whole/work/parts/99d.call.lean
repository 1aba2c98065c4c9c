/-! call: a word's twenty bits -/
theorem zdat_lin (f : Nat → Bool) : ∀ c s d, zdat f s c d = d * 2 ^ c + zdat f s c 0
  | 0, s, d => by
    show d = d * 1 + 0
    omega
  | c + 1, s, d => by
    show zdat f (s + 1) c (2 * d + (if f s = true then 1 else 0)) = d * 2 ^ (c + 1) + zdat f (s + 1) c (2 * 0 + (if f s = true then 1 else 0))
    rw [zdat_lin f c (s + 1) (2 * d + _), zdat_lin f c (s + 1) (2 * 0 + _), Nat.pow_succ, Nat.add_mul, Nat.add_mul, Nat.mul_zero, Nat.zero_mul, Nat.zero_add, Nat.add_assoc]
    congr 1
    rw [Nat.mul_comm 2 d, Nat.mul_assoc, Nat.mul_comm 2]
theorem zdat_lt (f : Nat → Bool) : ∀ c s t d, d < 2 ^ t → zdat f s c d < 2 ^ (t + c)
  | 0, _, t, d, h => h
  | c + 1, s, t, d, h => by
    show zdat f (s + 1) c (2 * d + (if f s = true then 1 else 0)) < _
    have h2 : 2 * d + (if f s = true then 1 else 0) < 2 ^ (t + 1) := by
      rw [Nat.pow_succ]
      split <;> omega
    have := zdat_lt f c (s + 1) (t + 1) _ h2
    rw [show t + 1 + c = t + (c + 1) by omega] at this
    exact this
theorem zn_shb {d : Nat} (hd : d < 2 ^ 30) (b : Bool) : zi_shl (nI d) 1 ||| (if b = true then (1 : Int32) else 0) = nI (2 * d + (if b = true then 1 else 0)) := by
  apply b_ext
  intro i hi
  rw [b_or, zn_if b i hi, zn_bt _ i hi]
  show (bt (zi_shl (nI d) (nI 1)) i || _) = _
  unfold zi_shl
  rw [b_shl 1 (by decide) _ hi]
  cases i with
  | zero =>
    cases b
    · simp
    · simp
  | succ i =>
    rw [Nat.add_sub_cancel, zn_bt d i (by omega)]
    have e : (2 * d + (if b = true then 1 else 0)) / 2 ^ (i + 1) = d / 2 ^ i := by
      rw [Nat.pow_succ', ← Nat.div_div_eq_div_mul]
      congr 1
      split <;> omega
    rw [e]
    simp
section ZCALL5
variable {ac : Nat → Nat → Nat} {τ : zB} {w : zw_T} {F : Nat}
theorem zc_w59 (hC : zC ac τ w) {k45 : zw_T → (Option Nat) → Int32 → (Option Nat) → (Option Nat) → Int32 → Int32 → Int32 → Option (Option Nat × zw_T)} {i kd k n num wd : Nat} {x7 : Int32} {o4 : Option Nat} (a3 : zb_a τ 3 i = true) (hk : zb_I τ 1130 i 0 = nI kd) (hd : kd < 2) (hf : zb_I τ 1136 i 0 = nI (if kd = 0 then 12 else 0)) (hw : zb_I τ 1135 i 0 = nI wd) (hwd : wd = 4 ∨ wd = 7) (a5 : zb_a τ 105 k = true) (l5 : zb_l τ 105 k = n) (hn : n ≤ 20) (hnum : num < 64) : ∀ c N t d g, t + c = 20 → c < N → d < 2 ^ t → g + c < 10000 → zf_Ms_wordsOf_L59 F k45 N w (some (ac 3 i)) (nI num) (some (ac 105 k)) o4 (nI (g / wd)) (nI (g % wd)) x7 (nI d) (nI t) = zf_bd (zf_WP_codewordOf F w ((1048576 : Int32) ||| nI (zdat (fun q => bt (zsC (zb_I τ 105 k) kd n num (q / wd)) (q % wd)) g c d))) fun v119 w119 => zf_ix w119 106 o4 x7 fun a122 j122 => zf_let (zw_sI w119 106 a122 j122 v119) fun w122 => zf_let (x7 + (1 : Int32)) fun y123 => k45 w122 (some (ac 3 i)) (nI num) (some (ac 105 k)) o4 (nI ((g + c) / wd)) (nI ((g + c) % wd)) y123 := by
  intro c
  induction c with
  | zero =>
    intro N t d g e1 e2 e3 e4
    obtain ⟨N, rfl⟩ : ∃ q, N = q + 1 := ⟨N - 1, by omega⟩
    have ht : t = 20 := by omega
    subst ht
    unfold zf_Ms_wordsOf_L59
    rw [if_pos (by decide)]
    rfl
  | succ c ih =>
    intro N t d g e1 e2 e3 e4
    obtain ⟨N, rfl⟩ : ∃ q, N = q + 1 := ⟨N - 1, by omega⟩
    have hdd : d < 2 ^ 30 := Nat.lt_of_lt_of_le e3 (Nat.pow_le_pow_right (by decide) (by omega))
    have hgw : g % wd < 32 ∧ g / wd < 1000000 := by rcases hwd with rfl | rfl <;> omega
    have h3 : 2 * d + (if bt (zsC (zb_I τ 105 k) kd n num (g / wd)) (g % wd) = true then 1 else 0) < 2 ^ (t + 1) := by
      rw [Nat.pow_succ]
      split <;> omega
    have nx := ih N (t + 1) _ (g + 1) (by omega) (by omega) h3 (by omega)
    rw [show g + 1 + c = g + (c + 1) by omega] at nx
    unfold zf_Ms_wordsOf_L59
    rw [if_neg (show ¬ (20 : Int32) ≤ nI t from zn_le (a := 20) (by decide) (by omega) (by omega)), zc_sent hC a3 hk hd hf a5 l5 hn hnum hgw.2, zbd_s, zn_u1 _ hgw.1, zn_shb hdd, zlt_s, zs1, zlt_s, zC_at hC 3 i a3, zC_I hC 1135 3 i rfl a3, hw]
    by_cases hq : g % wd + 1 = wd
    · have q1 : (g + 1) / wd = g / wd + 1 ∧ (g + 1) % wd = 0 := by rcases hwd with rfl | rfl <;> omega
      rw [q1.1, q1.2] at nx
      rw [if_pos (by rw [hq]), zlt_s, zlt_s, zs1, zf_Ms_wordsOf_j104, zlt_s, zs1]
      exact nx
    · have q1 : (g + 1) / wd = g / wd ∧ (g + 1) % wd = g % wd + 1 := by rcases hwd with rfl | rfl <;> omega
      rw [q1.1, q1.2] at nx
      rw [if_neg (fun z => hq ((nI_eqI (by omega) (by rcases hwd with rfl | rfl <;> decide)).mp z)), zf_Ms_wordsOf_j104, zlt_s, zs1]
      exact nx
end ZCALL5
