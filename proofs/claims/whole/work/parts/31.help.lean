/-! helpers -/
def zd (b : Bool) : Int32 := if b = true then 1 else 0
theorem zd_b {ρ : Type} (b : Bool) (K : Option ρ) : zf_b (zd b) K = K := by
  cases b
  · exact if_pos (Or.inl rfl)
  · exact if_pos (Or.inr rfl)
theorem zb_0 {ρ : Type} (K : Option ρ) : zf_b (0 : Int32) K = K := if_pos (Or.inl rfl)
theorem zb_1 {ρ : Type} (K : Option ρ) : zf_b (1 : Int32) K = K := if_pos (Or.inr rfl)
theorem zn_nn {x : Int32} (h : ¬ x < 0) : ∃ j, j < 2 ^ 31 ∧ x = nI j := by
  refine ⟨x.toInt.toNat, ?_, ?_⟩
  · have := Int32.toInt_lt x
    omega
  · have h0 : 0 ≤ x.toInt := by
      have h1 : ¬ x.toInt < (0 : Int32).toInt := fun q => h (Int32.lt_iff_toInt_lt.mpr q)
      have h2 : (0 : Int32).toInt = 0 := by decide
      omega
    have h3 := Int32.toInt_lt x
    apply Int32.toInt_inj.mp
    rw [nI_toInt (by omega)]
    omega
def zout (n : Nat) (x : Int32) : Prop := x < 0 ∨ (¬ x < 0 ∧ nI n ≤ x)
theorem zin (x : Int32) {n : Nat} (hn : n < 2 ^ 31) : (∃ j, j < n ∧ x = nI j) ∨ zout n x := by
  by_cases h : x < 0
  · exact Or.inr (Or.inl h)
  · obtain ⟨j, hj, rfl⟩ := zn_nn h
    by_cases h2 : j < n
    · exact Or.inl ⟨j, h2, rfl⟩
    · exact Or.inr (Or.inr ⟨h, (nI_leI hn hj).mpr (by omega)⟩)
/-- whether f holds of one of the c numbers from s on -/
def zany (f : Nat → Bool) : Nat → Nat → Bool
  | _, 0 => false
  | s, c + 1 => f s || zany f (s + 1) c
theorem nI_eqI {a b : Nat} (ha : a < 2 ^ 31) (hb : b < 2 ^ 31) : nI a = nI b ↔ a = b := ⟨fun h => by rw [← nI_clamp ha, ← nI_clamp hb, h], fun h => by rw [h]⟩
theorem zbd_s {α ρ : Type} {v : α} {w : zw_T} {K : α → zw_T → Option ρ} : zf_bd (some (v, w)) K = K v w := rfl
theorem zbv_s {ρ : Type} {w : zw_T} {K : zw_T → Option ρ} : zf_bv (some w) K = K w := rfl
theorem zlt_s {α β : Type} {x : α} {K : α → β} : zf_let x K = K x := rfl
theorem zs1 (k : Nat) : nI k + 1 = nI (k + 1) := nI_add k 1
theorem zn_z {a : Nat} (ha : a < 2 ^ 31) : nI a = 0 ↔ a = 0 := nI_eqI (b := 0) ha (by decide)
/-- how many of the c messages from s on wait -/
def zwait (f : Nat → Nat) : Nat → Nat → Nat
  | _, 0 => 0
  | s, c + 1 => (if f s = 0 then 0 else 1) + zwait f (s + 1) c
