/-! call: the copy of the loaded signs, the signs of the number -/
section ZCALL3
variable {ac : Nat → Nat → Nat} {τ : zB} {am : Nat → Nat} {σ : zA} {w w2 : zw_T} {F m x : Nat}
theorem zc_cpy (hC : zC ac τ w) (hB : zo_b w) (h0 : zP0 τ) {k n : Nat} (hn : n ≤ 20) (nk : zb_a τ 105 k = false) : ∃ ac' w' f, zf_Ar_copyOf F w (some (ac 100 0)) (nI n) = some (some (ac' 105 k), w') ∧ zC ac' (zb_sF (zb_new τ 105 k n) 105 k f) w' ∧ (∀ s, s < n → f s = zb_I τ 100 0 s) ∧ zo_b w' ∧ ∀ a b, a ≠ 105 → ac' a b = ac a b := by
  obtain ⟨ac1, e1, e2, c1⟩ := zC_newE hC hB 105 k n (by decide) nk
  have b1 := zo_b_new hB 105 n
  have d5 : zb_a (zb_new τ 105 k n) 105 k = true := by rw [zb_a_new, if_pos ⟨rfl, rfl⟩]
  have x1 := e2 100 0 (by omega)
  have et : zw_ty w (ac 100 0) = (100, 20) := by rw [(hC.1 100 0 (zP0_a100 h0)).1, zP0_l100 h0]
  have eI : zw_I w 100 (ac 100 0) = zb_I τ 100 0 := zC_F hC 100 100 0 rfl (zP0_a100 h0)
  by_cases h20 : n = 20
  · subst h20
    have c2 := zC_sF c1 105 105 k rfl d5 (zb_I τ 100 0)
    refine ⟨ac1, _, zb_I τ 100 0, ?_, c2, fun s _ => rfl, b1, fun a b h => e2 a b (fun z => h z.1)⟩
    unfold zf_Ar_copyOf
    rw [zC_at hC 100 0 (zP0_a100 h0), et, if_pos rfl]
    unfold zf_cl
    simp only [et]
    rw [if_pos ⟨trivial, by decide⟩, eI, e1]
  · have c2 := zC_sF c1 105 105 k rfl d5 (va_cpy (zb_I τ 100 0) (zb_I (zb_new τ 105 k n) 105 k) 0 0 n)
    refine ⟨ac1, _, va_cpy (zb_I τ 100 0) (zb_I (zb_new τ 105 k n) 105 k) 0 0 n, ?_, c2, fun s hs => ?_, b1, fun a b h => e2 a b (fun z => h z.1)⟩
    · have et1 : zw_ty (zw_new w 105 n) (ac1 100 0) = (100, 20) := by rw [(c1.1 100 0 (zP0_a100 h0)).1, show zb_l (zb_new τ 105 k n) 100 0 = 20 from zP0_l100 h0]
      have et2 : zw_ty (zw_new w 105 n) (ac1 105 k) = (105, n) := by rw [(c1.1 105 k d5).1, zb_l_new, if_pos ⟨rfl, rfl⟩]
      have eI1 : zw_I (zw_new w 105 n) 100 (ac1 100 0) = zb_I τ 100 0 := zC_F c1 100 100 0 rfl (zP0_a100 h0)
      have eI2 : zw_I (zw_new w 105 n) 105 (ac1 105 k) = zb_I (zb_new τ 105 k n) 105 k := zC_F c1 105 105 k rfl d5
      unfold zf_Ar_copyOf
      rw [zC_at hC 100 0 (zP0_a100 h0), et, if_neg (show ¬ nI n = nI 20 from fun q => h20 ((nI_eqI (by omega) (by decide)).mp q)), znaE (by omega) (by decide), zlt_s, ← e1, ← x1, zC_at c1 100 0 (zP0_a100 h0), et1]
      unfold zf_Ma_min
      rw [if_pos (show nI n < nI 20 from (nI_ltI (by omega) (by decide)).mpr (by omega)), zbd_s]
      unfold zf_cp
      simp only [et1, et2, nI_clamp (show n < 2 ^ 31 by omega), eI1, eI2]
      rw [if_pos ⟨trivial, trivial, by decide, by decide, nI_pos (by omega), by rw [show (0 : Int32).toNatClampNeg = 0 from by decide]; omega, by rw [show (0 : Int32).toNatClampNeg = 0 from by decide]; omega⟩]
      rfl
    · unfold va_cpy
      simp [hs]
end ZCALL3
