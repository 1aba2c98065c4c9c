/-! the code: what is left by the generator, codewords, traces -/
theorem zn_lt {a b : Nat} (ha : a < 2 ^ 31) (hb : b < 2 ^ 31) (h : ¬ a < b) : ¬ nI a < nI b := fun q => h ((nI_ltI ha hb).mp q)
theorem zn_le {a b : Nat} (ha : a < 2 ^ 31) (hb : b < 2 ^ 31) (h : ¬ a ≤ b) : ¬ nI a ≤ nI b := fun q => h ((nI_leI ha hb).mp q)
theorem zn_remL (F : Nat) (w : zw_T) (j : Nat) : ∀ (x : Int32) (n : Nat), j ≤ 21 → j < n → zf_Rp_remainder_L5 F n w x (nI (j + 9)) = some (zn_rr j x, w) := by
  induction j with
  | zero =>
    intro x n _ hn
    cases n with
    | zero => omega
    | succ n =>
      rw [zf_Rp_remainder_L5, if_pos (by decide)]
      rfl
  | succ j ih =>
    intro x n hj hn
    cases n with
    | zero => omega
    | succ n =>
      have h1 : ¬ nI (j + 1 + 9) < (10 : Int32) := zn_lt (b := 10) (by omega) (by omega) (by omega)
      have h2 : nI (j + 1 + 9) - (10 : Int32) = nI j := by
        rw [show (10 : Int32) = nI 10 from rfl, pk_sub (by omega), show j + 1 + 9 - 10 = j by omega]
      have h3 : nI (j + 1 + 9) + (-1 : Int32) = nI (j + 9) := by
        rw [show j + 1 + 9 = (j + 9) + 1 by omega]
        exact pk_m1 (j + 9)
      rw [zf_Rp_remainder_L5, if_neg h1]
      unfold zf_Rp_remainder_j31
      simp only [zf_let]
      rw [h2, h3, zn_u1 x (by omega)]
      unfold zn_rr zn_st
      rw [show j + 1 + 9 = j + 10 by omega, show j + 10 - 10 = j by omega]
      cases hb : bt x (j + 10)
      · rw [if_neg (by simp), if_neg (by simp)]
        exact ih x n (by omega) (by omega)
      · rw [if_pos (by simp), if_pos rfl]
        exact ih _ n (by omega) (by omega)
theorem zn_rem {F : Nat} (hF : 2500 ≤ F) (w : zw_T) (x : Int32) : zf_Rp_remainder F w x = some (zn_rr 21 x, w) := by
  unfold zf_Rp_remainder
  simp only [zf_let]
  exact zn_remL F w 21 x F (Nat.le_refl 21) (by omega)
def zn_cc (d : Int32) : Int32 := zi_shl d 11 ||| zi_shl (zn_rr 21 (zi_ushr (zi_shl d 11) 1)) 1
def zn_cw (d : Int32) : Int32 := zn_cc d ||| zn_pb (zn_cc d)
theorem zn_cwW {F : Nat} (hF : 2500 ≤ F) (w : zw_T) (d : Int32) : zf_WP_codewordOf F w d = some (zn_cw d, w) := by
  unfold zf_WP_codewordOf
  simp only [zf_let, zn_rem hF, zf_bd, zn_bc]
  rw [zn_pc1]
  rfl
theorem zn_pbL (F : Nat) (w : zw_T) (x : Int32) (j : Nat) : ∀ (k n : Nat), k + j = 32 → j < n → zf_Mo_codeword_L58 F n w x (if zn_pr k x = true then 1 else 0) (nI k) = some (x ||| zn_pb x, w) := by
  induction j with
  | zero =>
    intro k n hk hn
    cases n with
    | zero => omega
    | succ n =>
      have hk' : k = 32 := by omega
      subst hk'
      rw [zf_Mo_codeword_L58, if_pos (by decide)]
      rfl
  | succ j ih =>
    intro k n hk hn
    cases n with
    | zero => omega
    | succ n =>
      have h1 : ¬ (32 : Int32) ≤ nI k := zn_le (a := 32) (by omega) (by omega) (by omega)
      rw [zf_Mo_codeword_L58, if_neg h1]
      simp only [zf_let]
      rw [zn_s1 x (by omega), nI_1 k]
      have h2 : (if zn_pr k x = true then (1 : Int32) else 0) ^^^ (if bt x k = true then 1 else 0) = if zn_pr (k + 1) x = true then 1 else 0 := by
        show _ = if (bt x k ^^ zn_pr k x) = true then (1 : Int32) else 0
        cases bt x k <;> cases zn_pr k x <;> decide
      rw [h2]
      exact ih (k + 1) n (by omega) (by omega)
theorem zn_mL8 (F : Nat) (w : zw_T) (d : Int32) (j : Nat) : ∀ (x : Int32) (n : Nat), j ≤ 21 → j < n → zf_Mo_codeword_L8 F n w d x (nI (j + 9)) = zf_Mo_codeword_L58 F F w (zi_shl d 11 ||| zi_shl (zn_rr j x) 1) 0 1 := by
  induction j with
  | zero =>
    intro x n _ hn
    cases n with
    | zero => omega
    | succ n =>
      rw [zf_Mo_codeword_L8, if_pos (by decide)]
      simp only [zf_let, zn_rr]
  | succ j ih =>
    intro x n hj hn
    cases n with
    | zero => omega
    | succ n =>
      have h1 : ¬ nI (j + 1 + 9) < (10 : Int32) := zn_lt (b := 10) (by omega) (by omega) (by omega)
      have h2 : nI (j + 1 + 9) - (10 : Int32) = nI j := by
        rw [show (10 : Int32) = nI 10 from rfl, pk_sub (by omega), show j + 1 + 9 - 10 = j by omega]
      have h3 : nI (j + 1 + 9) + (-1 : Int32) = nI (j + 9) := by
        rw [show j + 1 + 9 = (j + 9) + 1 by omega]
        exact pk_m1 (j + 9)
      rw [zf_Mo_codeword_L8, if_neg h1]
      unfold zf_Mo_codeword_j37
      simp only [zf_let]
      rw [h2, h3, zn_s1 x (by omega)]
      unfold zn_rr zn_st
      rw [show j + 1 + 9 = j + 10 by omega, show j + 10 - 10 = j by omega]
      cases hb : bt x (j + 10)
      · rw [if_neg (by simp), if_neg (by simp)]
        exact ih x n (by omega) (by omega)
      · rw [if_pos (by simp), if_pos rfl]
        exact ih _ n (by omega) (by omega)
theorem zn_cc0 (d : Int32) : bt (zn_cc d) 0 = false := by
  unfold zn_cc zi_shl
  rw [b_or, show (11 : Int32) = nI 11 from rfl, show (1 : Int32) = nI 1 from rfl, b_shl 11 (by omega) _ (by omega), b_shl 1 (by omega) _ (by omega)]
  rfl
theorem zn_cwM {F : Nat} (hF : 2500 ≤ F) (w : zw_T) (d : Int32) (hd : zi_ushr (zi_shl d 11) 1 = zi_shl d 10) : zf_Mo_codeword F w d = some (zn_cw d, w) := by
  unfold zf_Mo_codeword
  simp only [zf_let]
  rw [← hd]
  refine (zn_mL8 F w d 21 _ F (Nat.le_refl 21) (by omega)).trans ?_
  have h := zn_pbL F w (zn_cc d) 31 1 F (by omega) (by omega)
  have h2 : (if zn_pr 1 (zn_cc d) = true then (1 : Int32) else 0) = 0 := by
    unfold zn_pr
    rw [zn_cc0]
    rfl
  rw [h2] at h
  exact h
theorem zn_onL (F : Nat) (w : zw_T) (x : Int32) (j : Nat) : ∀ (k n : Nat), k + j = 32 → j < n → zf_Mo_onesOf_L4 F n w x (nI (zn_pc k x)) (nI k) = some (nI (zn_pc 32 x), w) := by
  induction j with
  | zero =>
    intro k n hk hn
    cases n with
    | zero => omega
    | succ n =>
      have hk' : k = 32 := by omega
      subst hk'
      rw [zf_Mo_onesOf_L4, if_pos (by decide)]
  | succ j ih =>
    intro k n hk hn
    cases n with
    | zero => omega
    | succ n =>
      have h1 : ¬ (32 : Int32) ≤ nI k := zn_le (a := 32) (by omega) (by omega) (by omega)
      rw [zf_Mo_onesOf_L4, if_neg h1]
      simp only [zf_let]
      rw [zn_s1 x (by omega), nI_1 k]
      have h2 : nI (zn_pc k x) + (if bt x k = true then 1 else 0) = nI (zn_pc (k + 1) x) := by
        show _ = nI ((if bt x k = true then 1 else 0) + zn_pc k x)
        cases bt x k
        · simp
        · simp
          rw [nI_1, Nat.add_comm]
      rw [h2]
      exact ih (k + 1) n (by omega) (by omega)
theorem zn_on {F : Nat} (hF : 2500 ≤ F) (w : zw_T) (x : Int32) : zf_Mo_onesOf F w x = some (nI (zn_pc 32 x), w) := by
  unfold zf_Mo_onesOf
  simp only [zf_let]
  have h := zn_onL F w x 32 0 F (by omega) (by omega)
  rw [show nI (zn_pc 0 x) = 0 from rfl, show nI 0 = 0 from rfl] at h
  exact h
/-! by xor alone -/
def zn_cy (d : Int32) : Int32 := zi_shl d (nI 11) ^^^ zi_shl (zn_rr 21 (zi_ushr (zi_shl d (nI 11)) (nI 1))) (nI 1)
def zn_cx (d : Int32) : Int32 := zn_cy d ^^^ zn_pb (zn_cy d)
def zn_tx (x : Int32) : Int32 := zi_shl (zn_rr 21 (zi_ushr x (nI 1))) (nI 1) ^^^ zn_pb x
theorem zn_lr1 : zn_lin (fun x => zi_shl (zn_rr 21 (zi_ushr x (nI 1))) (nI 1)) := zn_lcomp (f := fun x => zi_shl x (nI 1)) (g := fun x => zn_rr 21 (zi_ushr x (nI 1))) (zn_lshl (by omega)) (zn_lcomp (f := zn_rr 21) (g := fun x => zi_ushr x (nI 1)) (zn_lrr 21) (zn_lushr (by omega)))
theorem zn_lcy : zn_lin zn_cy := zn_lxor (f := fun d => zi_shl d (nI 11)) (g := fun d => zi_shl (zn_rr 21 (zi_ushr (zi_shl d (nI 11)) (nI 1))) (nI 1)) (zn_lshl (by omega)) (zn_lcomp (f := fun x => zi_shl (zn_rr 21 (zi_ushr x (nI 1))) (nI 1)) (g := fun d => zi_shl d (nI 11)) zn_lr1 (zn_lshl (by omega)))
theorem zn_lcx : zn_lin zn_cx := zn_lxor (f := zn_cy) (g := fun d => zn_pb (zn_cy d)) zn_lcy (zn_lcomp (f := zn_pb) (g := zn_cy) zn_lpb zn_lcy)
theorem zn_ltx : zn_lin zn_tx := zn_lxor (f := fun x => zi_shl (zn_rr 21 (zi_ushr x (nI 1))) (nI 1)) (g := zn_pb) zn_lr1 zn_lpb
theorem zn_pb01 (x : Int32) : zn_pb x = 0 ∨ zn_pb x = 1 := by
  unfold zn_pb
  cases zn_pr 32 x
  · exact Or.inl rfl
  · exact Or.inr rfl
theorem zn_pbd {c x : Int32} (h : bt c 0 = false) : c ||| zn_pb x = c ^^^ zn_pb x := by
  apply zn_or
  apply b_ext
  intro i hi
  rw [b_and, b_0]
  rcases zn_pb01 x with e | e <;> rw [e]
  · rw [b_0]; simp
  · rw [zn_b1 i hi]
    by_cases h0 : i = 0
    · subst h0
      rw [h]
      rfl
    · simp [h0]
theorem zn_hi (x : Int32) : zi_shl (zn_rr 21 (zi_ushr x (nI 1))) (nI 1) &&& 4294965249 = 0 := zn_ext (f := fun x => zi_shl (zn_rr 21 (zi_ushr x (nI 1))) (nI 1) &&& 4294965249) (g := fun _ => 0) (zn_lcomp (f := fun x => x &&& 4294965249) (g := fun x => zi_shl (zn_rr 21 (zi_ushr x (nI 1))) (nI 1)) (zn_land _) zn_lr1) zn_l0 (by decide +kernel) x
theorem zn_m11 : ∀ i, i < 32 → bt 4294965249 i = (decide (i = 0) || decide (11 ≤ i)) := by decide +kernel
theorem zn_cc_cy (d : Int32) : zn_cc d = zn_cy d := by
  show zi_shl d (nI 11) ||| zi_shl (zn_rr 21 (zi_ushr (zi_shl d (nI 11)) (nI 1))) (nI 1) = _
  rw [zn_or]
  · rfl
  · have h := zn_hi (zi_shl d (nI 11))
    generalize zi_shl (zn_rr 21 (zi_ushr (zi_shl d (nI 11)) (nI 1))) (nI 1) = r at h
    apply b_ext
    intro i hi
    have h1 : bt (r &&& 4294965249) i = bt 0 i := by rw [h]
    rw [b_and, b_0, zn_m11 i hi] at h1
    rw [b_and, b_0]
    unfold zi_shl
    rw [b_shl 11 (by omega) _ hi]
    by_cases h2 : 11 ≤ i
    · have : bt r i = false := by simpa [h2] using h1
      rw [this]
      simp
    · simp [h2]
theorem zn_cw_cx (d : Int32) : zn_cw d = zn_cx d := by
  unfold zn_cw zn_cx
  rw [zn_pbd (zn_cc0 d), zn_cc_cy]
/-! traces -/
theorem zn_lF : zn_lin (fun x => zn_tx x ^^^ zn_pb (zi_ushr (zn_tx x) (nI 1))) := zn_lxor (f := zn_tx) (g := fun x => zn_pb (zi_ushr (zn_tx x) (nI 1))) zn_ltx (zn_lcomp (f := zn_pb) (g := fun x => zi_ushr (zn_tx x) (nI 1)) zn_lpb (zn_lcomp (f := fun x => zi_ushr x (nI 1)) (g := zn_tx) (zn_lushr (by omega)) zn_ltx))
theorem zn_lE : zn_lin (fun x => zn_cx (zi_ushr x (nI 11)) ^^^ x) := zn_lxor (f := fun x => zn_cx (zi_ushr x (nI 11))) (g := fun x => x) (zn_lcomp (f := zn_cx) (g := fun x => zi_ushr x (nI 11)) zn_lcx (zn_lushr (by omega))) zn_lid
theorem zn_E (x : Int32) : zn_cx (zi_ushr x (nI 11)) ^^^ x = zn_tx x ^^^ zn_pb (zi_ushr (zn_tx x) (nI 1)) := zn_ext (f := fun x => zn_cx (zi_ushr x (nI 11)) ^^^ x) (g := fun x => zn_tx x ^^^ zn_pb (zi_ushr (zn_tx x) (nI 1))) zn_lE zn_lF (by decide +kernel) x
theorem zn_isc (x : Int32) : zn_cw (zi_ushr x 11) = x ↔ zn_tx x = 0 := by
  rw [zn_cw_cx, show (11 : Int32) = nI 11 from rfl, ← zn_xe, zn_E]
  constructor
  · intro h
    have h1 := zn_xe.mp h
    rcases zn_pb01 (zi_ushr (zn_tx x) (nI 1)) with e | e
    · rw [h1, e]
    · rw [e] at h1
      rw [h1] at e
      exact absurd e (by decide)
  · intro h
    rw [h]
    decide
theorem zn_h11 (x : Int32) : zi_ushr (zi_shl (zi_ushr x 11) 11) 1 = zi_shl (zi_ushr x 11) 10 := zn_ext (f := fun x => zi_ushr (zi_shl (zi_ushr x (nI 11)) (nI 11)) (nI 1)) (g := fun x => zi_shl (zi_ushr x (nI 11)) (nI 10)) (zn_lcomp (f := fun x => zi_ushr x (nI 1)) (g := fun x => zi_shl (zi_ushr x (nI 11)) (nI 11)) (zn_lushr (by omega)) (zn_lcomp (f := fun x => zi_shl x (nI 11)) (g := fun x => zi_ushr x (nI 11)) (zn_lshl (by omega)) (zn_lushr (by omega)))) (zn_lcomp (f := fun x => zi_shl x (nI 10)) (g := fun x => zi_ushr x (nI 11)) (zn_lshl (by omega)) (zn_lushr (by omega))) (by decide +kernel) x
theorem zn_isC {F : Nat} (hF : 2500 ≤ F) (w : zw_T) (x : Int32) : zf_Mo_isCodeword F w x = some (if zn_tx x = 0 then 1 else 0, w) := by
  unfold zf_Mo_isCodeword
  rw [zn_cwM hF w _ (zn_h11 x)]
  simp only [zf_bd]
  by_cases h : zn_tx x = 0
  · rw [if_pos ((zn_isc x).mpr h), if_pos h]
    rfl
  · rw [if_neg (fun q => h ((zn_isc x).mp q)), if_neg h]
    rfl
theorem zn_trW {F : Nat} (hF : 2500 ≤ F) (w : zw_T) (x : Int32) : zf_Rp_traceOf F w x = some (zn_tx x, w) := by
  unfold zf_Rp_traceOf
  simp only [zf_bd, zn_rem hF, zn_bc]
  rw [zn_pc1]
  have h : zi_shl (zn_rr 21 (zi_ushr x 1)) 1 ||| zn_pb x = zn_tx x := by
    rw [zn_pbd]
    · rfl
    · unfold zi_shl
      rw [show (1 : Int32) = nI 1 from rfl, b_shl 1 (by omega) _ (by omega)]
      rfl
  rw [h]
theorem zn_tr1 : ∀ j, j < 32 → zs_tr j = zn_tx (zi_shl 1 (nI j)) := by decide +kernel
theorem zn_odd : ∀ j, j < 32 → zs_tr j &&& 1 = 1 := by decide +kernel
theorem zn_tb (x : Int32) {j : Nat} (hj : j < 32) : zn_tx (x ^^^ zi_shl 1 (nI j)) = 0 ↔ zs_tr j = zn_tx x := by
  rw [zn_ltx, ← zn_tr1 j hj, zn_xe]
  exact ⟨fun h => h.symm, fun h => h.symm⟩
theorem zn_tb2 (x : Int32) {i j : Nat} (hi : i < 32) (hj : j < 32) : zn_tx ((x ^^^ zi_shl 1 (nI i)) ^^^ zi_shl 1 (nI j)) = 0 ↔ zs_tr i ^^^ zs_tr j = zn_tx x := by
  rw [zn_tb _ hj, zn_ltx, ← zn_tr1 i hi]
  constructor
  · intro h
    rw [h, zn_xc (zn_tx x), ← zn_xa, zn_xx, zn_xc, zn_x0]
  · intro h
    rw [← h, zn_xc (zs_tr i) (zs_tr j), zn_xa, zn_xx, zn_x0]
