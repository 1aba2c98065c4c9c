/-! functions that keep xor: two of them are one when they agree on the 32 single bits -/
def zn_lin (f : Int32 → Int32) : Prop := ∀ x y, f (x ^^^ y) = f x ^^^ f y
theorem zn_x4 (a b c d : Int32) : (a ^^^ b) ^^^ (c ^^^ d) = (a ^^^ c) ^^^ (b ^^^ d) := by
  apply b_ext
  intro i _
  simp only [b_xor]
  cases bt a i <;> cases bt b i <;> cases bt c i <;> cases bt d i <;> rfl
theorem zn_x0 (a : Int32) : a ^^^ 0 = a := by
  apply b_ext
  intro i _
  simp only [b_xor, b_0]
  cases bt a i <;> rfl
theorem zn_xx (a : Int32) : a ^^^ a = 0 := by
  apply b_ext
  intro i _
  simp only [b_xor, b_0]
  cases bt a i <;> rfl
theorem zn_xc (a b : Int32) : a ^^^ b = b ^^^ a := by
  apply b_ext
  intro i _
  simp only [b_xor]
  cases bt a i <;> cases bt b i <;> rfl
theorem zn_xa (a b c : Int32) : (a ^^^ b) ^^^ c = a ^^^ (b ^^^ c) := by
  apply b_ext
  intro i _
  simp only [b_xor]
  cases bt a i <;> cases bt b i <;> cases bt c i <;> rfl
theorem zn_xe {a b : Int32} : a ^^^ b = 0 ↔ a = b := by
  constructor
  · intro h
    have h2 : (a ^^^ b) ^^^ b = 0 ^^^ b := by rw [h]
    rw [zn_xa, zn_xx, zn_x0, zn_xc, zn_x0] at h2
    exact h2
  · intro h
    rw [h, zn_xx]
theorem zn_or {a b : Int32} (h : a &&& b = 0) : a ||| b = a ^^^ b := by
  apply b_ext
  intro i _
  have h1 : bt (a &&& b) i = bt 0 i := by rw [h]
  rw [b_and, b_0] at h1
  rw [b_or, b_xor]
  cases ha : bt a i <;> cases hb : bt b i <;> simp_all
theorem zn_lid : zn_lin (fun x => x) := fun _ _ => rfl
theorem zn_l0 : zn_lin (fun _ => 0) := fun _ _ => (zn_xx 0).symm
theorem zn_lcomp {f g : Int32 → Int32} (hf : zn_lin f) (hg : zn_lin g) : zn_lin (fun x => f (g x)) := fun x y => by
  show f (g (x ^^^ y)) = _
  rw [hg, hf]
theorem zn_lxor {f g : Int32 → Int32} (hf : zn_lin f) (hg : zn_lin g) : zn_lin (fun x => f x ^^^ g x) := fun x y => by
  show f (x ^^^ y) ^^^ g (x ^^^ y) = _
  rw [hf, hg, zn_x4]
theorem zn_lshl {k : Nat} (hk : k < 32) : zn_lin (fun x => zi_shl x (nI k)) := fun x y => by
  apply b_ext
  intro i hi
  unfold zi_shl
  rw [b_xor, b_shl k hk _ hi, b_shl k hk _ hi, b_shl k hk _ hi, b_xor]
  cases bt x (i - k) <;> cases bt y (i - k) <;> simp
theorem zn_lushr {k : Nat} (hk : k < 32) : zn_lin (fun x => zi_ushr x (nI k)) := fun x y => by
  apply b_ext
  intro i hi
  unfold zi_ushr
  rw [b_xor, b_ushr k hk, b_ushr k hk, b_ushr k hk, b_xor]
theorem zn_land (m : Int32) : zn_lin (fun x => x &&& m) := fun x y => by
  apply b_ext
  intro i hi
  rw [b_xor, b_and, b_and, b_and, b_xor]
  cases bt x i <;> cases bt y i <;> cases bt m i <;> rfl
def zn_st (k : Nat) (x : Int32) : Int32 := if bt x k = true then x ^^^ zi_shl 1897 (nI (k - 10)) else x
theorem zn_lst (k : Nat) : zn_lin (zn_st k) := fun x y => by
  unfold zn_st
  rw [b_xor]
  cases hx : bt x k <;> cases hy : bt y k
  · simp
  · simp [zn_xa]
  · simp only [Bool.xor_false, if_true, Bool.false_eq_true, if_false]
    rw [zn_xa, zn_xc y, ← zn_xa]
  · simp only [Bool.xor_self, Bool.false_eq_true, if_false, if_true]
    rw [zn_x4, zn_xx, zn_x0]
def zn_rr : Nat → Int32 → Int32
  | 0, x => x
  | j + 1, x => zn_rr j (zn_st (j + 10) x)
theorem zn_lrr : ∀ j, zn_lin (zn_rr j)
  | 0 => zn_lid
  | j + 1 => zn_lcomp (f := zn_rr j) (g := zn_st (j + 10)) (zn_lrr j) (zn_lst (j + 10))
/-- parity of the lowest j bits -/
def zn_pr : Nat → Int32 → Bool
  | 0, _ => false
  | j + 1, x => bt x j ^^ zn_pr j x
theorem zn_pr_x (x y : Int32) : ∀ j, zn_pr j (x ^^^ y) = (zn_pr j x ^^ zn_pr j y)
  | 0 => rfl
  | j + 1 => by
    unfold zn_pr
    rw [b_xor, zn_pr_x x y j]
    cases bt x j <;> cases bt y j <;> cases zn_pr j x <;> cases zn_pr j y <;> rfl
def zn_pb (x : Int32) : Int32 := if zn_pr 32 x = true then 1 else 0
theorem zn_lpb : zn_lin zn_pb := fun x y => by
  unfold zn_pb
  rw [zn_pr_x]
  cases zn_pr 32 x <;> cases zn_pr 32 y <;> decide
theorem zn_pr_pc (x : Int32) : ∀ j, zn_pc j x % 2 = if zn_pr j x = true then 1 else 0
  | 0 => rfl
  | j + 1 => by
    have h := zn_pr_pc x j
    unfold zn_pc zn_pr
    cases hb : bt x j <;> cases hp : zn_pr j x <;> simp [hp] at h ⊢ <;> omega
theorem zn_pc1 (x : Int32) : nI (zn_pc 32 x) &&& 1 = zn_pb x := by
  rw [show (1 : Int32) = nI 1 from rfl, nx_and, Nat.and_one_is_mod, zn_pr_pc]
  unfold zn_pb
  cases zn_pr 32 x <;> rfl
/-- the lowest j bits -/
def zn_lo : Nat → Int32 → Int32
  | 0, _ => 0
  | j + 1, x => (if bt x j = true then zi_shl 1 (nI j) else 0) ^^^ zn_lo j x
theorem zn_b2 : ∀ j, j < 32 → ∀ i, i < 32 → bt (zi_shl 1 (nI j)) i = decide (i = j) := by decide +kernel
theorem zn_lo_bt (x : Int32) : ∀ j, j ≤ 32 → ∀ i, i < 32 → bt (zn_lo j x) i = (decide (i < j) && bt x i)
  | 0, _, i, _ => by simp [zn_lo, b_0]
  | j + 1, hj, i, hi => by
    unfold zn_lo
    rw [b_xor, zn_lo_bt x j (by omega) i hi]
    by_cases h : i = j
    · subst h
      cases hb : bt x i <;> simp [zn_b2 i hi i hi, b_0]
    · have h1 : bt (if bt x j = true then zi_shl 1 (nI j) else 0) i = false := by
        cases hb : bt x j
        · simp [b_0]
        · simp [zn_b2 j (by omega) i hi, h]
      rw [h1]
      have h2 : decide (i < j + 1) = decide (i < j) := by
        by_cases h3 : i < j
        · simp [h3]; omega
        · simp [h3]; omega
      rw [h2]
      simp
theorem zn_lo_32 (x : Int32) : zn_lo 32 x = x := by
  apply b_ext
  intro i hi
  rw [zn_lo_bt x 32 (Nat.le_refl 32) i hi]
  simp [hi]
theorem zn_lz {f : Int32 → Int32} (hf : zn_lin f) : f 0 = 0 := by
  have h := hf 0 0
  rw [zn_xx] at h
  have h2 : f 0 ^^^ f 0 = f 0 := h.symm
  rw [zn_xx] at h2
  exact h2.symm
theorem zn_ext {f g : Int32 → Int32} (hf : zn_lin f) (hg : zn_lin g) (h : ∀ i, i < 32 → f (zi_shl 1 (nI i)) = g (zi_shl 1 (nI i))) (x : Int32) : f x = g x := by
  have key : ∀ j, j ≤ 32 → f (zn_lo j x) = g (zn_lo j x) := by
    intro j
    induction j with
    | zero => intro _; exact (zn_lz hf).trans (zn_lz hg).symm
    | succ j ih =>
      intro hj
      unfold zn_lo
      rw [hf, hg, ih (by omega)]
      congr 1
      cases bt x j
      · exact (zn_lz hf).trans (zn_lz hg).symm
      · exact h j (by omega)
  have := key 32 (Nat.le_refl 32)
  rw [zn_lo_32] at this
  exact this
