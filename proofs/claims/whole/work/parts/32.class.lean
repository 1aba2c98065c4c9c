/-! the class's memory by the numbers of its objects: row r (a kind), number i; field or array name κ of row zrw κ; a reference by the number of the object in row ztg κ -/
def zrw (κ : Nat) : Nat := if κ < 1000 then κ else (κ - 1000) / 64 + 1
def zk_g : List (Nat × Nat) := [(1512, 402), (402, 3), (1514, 406), (406, 7), (1516, 405), (405, 6), (1519, 100), (1521, 4), (1522, 1), (1523, 5), (1064, 3), (1192, 101), (1000, 102), (1256, 1), (1257, 7), (1259, 2), (1260, 103), (1320, 3), (1323, 105), (1324, 106), (1384, 401), (401, 2), (1386, 407), (407, 8), (1451, 104)]
def ztg (κ : Nat) : Nat := (zk_g.lookup κ).getD 0
abbrev zB : Type := (Nat → Nat → Bool × Nat) × (Nat → Nat → Nat → Int32) × (Nat → Nat → Nat → Option Nat) × (Nat → Nat → Nat → Int64)
def zb_a (τ : zB) (r i : Nat) : Bool := (τ.1 r i).1
def zb_l (τ : zB) (r i : Nat) : Nat := (τ.1 r i).2
def zb_I (τ : zB) : Nat → Nat → Nat → Int32 := τ.2.1
def zb_R (τ : zB) : Nat → Nat → Nat → Option Nat := τ.2.2.1
def zb_L (τ : zB) : Nat → Nat → Nat → Int64 := τ.2.2.2
def zC (ac : Nat → Nat → Nat) (τ : zB) (w : zw_T) : Prop := (∀ r i, zb_a τ r i = true → zw_ty w (ac r i) = (r, zb_l τ r i) ∧ r ≠ 0) ∧ (∀ r i j, zb_a τ r i = true → zb_a τ r j = true → ac r i = ac r j → i = j) ∧ (∀ κ i, zb_a τ (zrw κ) i = true → zw_I w κ (ac (zrw κ) i) = zb_I τ κ i) ∧ (∀ κ i j, zb_a τ (zrw κ) i = true → zw_R w κ (ac (zrw κ) i) j = (zb_R τ κ i j).map (ac (ztg κ))) ∧ (∀ κ i, zb_a τ (zrw κ) i = true → zw_L w κ (ac (zrw κ) i) = zb_L τ κ i) ∧ ∀ κ i j q, zb_a τ (zrw κ) i = true → zb_R τ κ i j = some q → zb_a τ (ztg κ) q = true
def zb_sF (τ : zB) (κ i : Nat) (f : Nat → Int32) : zB := (τ.1, (fun k a => if k = κ ∧ a = i then f else τ.2.1 k a), τ.2.2)
def zb_sI (τ : zB) (κ i j : Nat) (v : Int32) : zB := zb_sF τ κ i (upd (zb_I τ κ i) j v)
def zb_sR (τ : zB) (κ i j : Nat) (v : Option Nat) : zB := (τ.1, τ.2.1, (fun k a b => if k = κ ∧ a = i ∧ b = j then v else τ.2.2.1 k a b), τ.2.2.2)
def zb_sL (τ : zB) (κ i j : Nat) (v : Int64) : zB := (τ.1, τ.2.1, τ.2.2.1, fun k a => if k = κ ∧ a = i then vp_updL (τ.2.2.2 k a) j v else τ.2.2.2 k a)
def zb_new (τ : zB) (r i n : Nat) : zB := ((fun a b => if a = r ∧ b = i then (true, n) else τ.1 a b), (fun k a => if zrw k = r ∧ a = i then fun _ => 0 else τ.2.1 k a), (fun k a => if zrw k = r ∧ a = i then fun _ => none else τ.2.2.1 k a), fun k a => if zrw k = r ∧ a = i then fun _ => 0 else τ.2.2.2 k a)
def zac (ac : Nat → Nat → Nat) (r i n : Nat) : Nat → Nat → Nat := fun a b => if a = r ∧ b = i then n else ac a b
section ZCLS
variable {ac : Nat → Nat → Nat} {τ : zB} {w : zw_T} {ρ : Type}
theorem zC_at (h : zC ac τ w) (r i : Nat) (ha : zb_a τ r i = true) {K : Nat → Option ρ} : zf_at w r (some (ac r i)) K = K (ac r i) := by
  unfold zf_at
  exact if_pos (by rw [(h.1 r i ha).1])
theorem zC_ix (h : zC ac τ w) (r i : Nat) (ha : zb_a τ r i = true) {j : Nat} (hj : j < zb_l τ r i) (hn : j < 2 ^ 31) {K : Nat → Nat → Option ρ} : zf_ix w r (some (ac r i)) (nI j) K = K (ac r i) j := by
  have e := (h.1 r i ha).1
  have h1 : (nI j).toNatClampNeg = j := nI_clamp hn
  show (if (zw_ty w (ac r i)).1 = r ∧ ¬ nI j < 0 ∧ (nI j).toNatClampNeg < (zw_ty w (ac r i)).2 then K (ac r i) (nI j).toNatClampNeg else none) = _
  rw [h1, if_pos]
  rw [e]
  exact ⟨rfl, nI_pos hn, hj⟩
theorem zC_I (h : zC ac τ w) (κ r i : Nat) (hr : zrw κ = r) (ha : zb_a τ r i = true) (j : Nat) : zw_I w κ (ac r i) j = zb_I τ κ i j := by
  subst hr
  rw [h.2.2.1 κ i ha]
theorem zC_F (h : zC ac τ w) (κ r i : Nat) (hr : zrw κ = r) (ha : zb_a τ r i = true) : zw_I w κ (ac r i) = zb_I τ κ i := by
  subst hr
  exact h.2.2.1 κ i ha
theorem zC_L (h : zC ac τ w) (κ r i : Nat) (hr : zrw κ = r) (ha : zb_a τ r i = true) (j : Nat) : zw_L w κ (ac r i) j = zb_L τ κ i j := by
  subst hr
  rw [h.2.2.2.2.1 κ i ha]
theorem zC_R (h : zC ac τ w) (κ r t i : Nat) (hr : zrw κ = r) (ht : ztg κ = t) (ha : zb_a τ r i = true) {j q : Nat} (hq : zb_R τ κ i j = some q) : zw_R w κ (ac r i) j = some (ac t q) := by
  subst hr
  subst ht
  rw [h.2.2.2.1 κ i j ha, hq]
  rfl
theorem zC_R0 (h : zC ac τ w) (κ r i : Nat) (hr : zrw κ = r) (ha : zb_a τ r i = true) {j : Nat} (hq : zb_R τ κ i j = none) : zw_R w κ (ac r i) j = none := by
  subst hr
  rw [h.2.2.2.1 κ i j ha, hq]
  rfl
theorem zC_a (h : zC ac τ w) (κ r t i : Nat) (hr : zrw κ = r) (ht : ztg κ = t) (ha : zb_a τ r i = true) {j q : Nat} (hq : zb_R τ κ i j = some q) : zb_a τ t q = true := by
  subst hr
  subst ht
  exact h.2.2.2.2.2 κ i j q ha hq
theorem zC_sF (h : zC ac τ w) (κ r i : Nat) (hr : zrw κ = r) (ha : zb_a τ r i = true) (f : Nat → Int32) : zC ac (zb_sF τ κ i f) (zw_sF w κ (ac r i) f) := by
  subst hr
  refine ⟨h.1, h.2.1, fun k a hk => ?_, h.2.2.2.1, h.2.2.2.2.1, h.2.2.2.2.2⟩
  show zw_u2 w.2.1 κ (ac (zrw κ) i) f k (ac (zrw k) a) = if k = κ ∧ a = i then f else τ.2.1 k a
  unfold zw_u2
  by_cases hq : k = κ ∧ a = i
  · obtain ⟨rfl, rfl⟩ := hq
    rw [if_pos ⟨rfl, rfl⟩, if_pos ⟨rfl, rfl⟩]
  · rw [if_neg hq, if_neg]
    · exact h.2.2.1 k a hk
    · rintro ⟨rfl, q⟩
      exact hq ⟨rfl, h.2.1 _ _ _ hk ha q⟩
theorem zC_sI (h : zC ac τ w) (κ r i : Nat) (hr : zrw κ = r) (ha : zb_a τ r i = true) (j : Nat) (v : Int32) : zC ac (zb_sI τ κ i j v) (zw_sI w κ (ac r i) j v) := by
  have := zC_sF h κ r i hr ha (upd (zw_I w κ (ac r i)) j v)
  unfold zb_sI zw_sI
  rw [← zC_F h κ r i hr ha]
  exact this
theorem zC_sR (h : zC ac τ w) (κ r t i : Nat) (hr : zrw κ = r) (ht : ztg κ = t) (ha : zb_a τ r i = true) (j : Nat) {v : Option Nat} (hv : ∀ q, v = some q → zb_a τ t q = true) : zC ac (zb_sR τ κ i j v) (zw_sR w κ (ac r i) j (v.map (ac t))) := by
  subst hr
  subst ht
  refine ⟨h.1, h.2.1, h.2.2.1, fun k a b hk => ?_, h.2.2.2.2.1, fun k a b q hk hq => ?_⟩
  · show zw_u2 w.2.2.1 κ (ac (zrw κ) i) (va_up (zw_R w κ (ac (zrw κ) i)) j (v.map (ac (ztg κ)))) k (ac (zrw k) a) b = (if k = κ ∧ a = i ∧ b = j then v else τ.2.2.1 k a b).map (ac (ztg k))
    unfold zw_u2
    by_cases hq : k = κ ∧ a = i
    · obtain ⟨rfl, rfl⟩ := hq
      rw [if_pos ⟨rfl, rfl⟩]
      by_cases hb : b = j
      · subst hb
        rw [if_pos ⟨rfl, rfl, rfl⟩]
        exact if_pos rfl
      · rw [if_neg (fun q => hb q.2.2), va_up_ne _ _ hb]
        exact h.2.2.2.1 k a b hk
    · rw [if_neg, if_neg (fun q => hq ⟨q.1, q.2.1⟩)]
      · exact h.2.2.2.1 k a b hk
      · rintro ⟨rfl, q⟩
        exact hq ⟨rfl, h.2.1 _ _ _ hk ha q⟩
  · have hq : (if k = κ ∧ a = i ∧ b = j then v else τ.2.2.1 k a b) = some q := hq
    by_cases hc : k = κ ∧ a = i ∧ b = j
    · rw [if_pos hc] at hq
      rw [hc.1]
      exact hv q hq
    · rw [if_neg hc] at hq
      exact h.2.2.2.2.2 k a b q hk hq
theorem zC_sL (h : zC ac τ w) (κ r i : Nat) (hr : zrw κ = r) (ha : zb_a τ r i = true) (j : Nat) (v : Int64) : zC ac (zb_sL τ κ i j v) (zw_sL w κ (ac r i) j v) := by
  subst hr
  refine ⟨h.1, h.2.1, h.2.2.1, h.2.2.2.1, fun k a hk => ?_, h.2.2.2.2.2⟩
  show zw_u2 w.2.2.2.1 κ (ac (zrw κ) i) (vp_updL (zw_L w κ (ac (zrw κ) i)) j v) k (ac (zrw k) a) = if k = κ ∧ a = i then vp_updL (τ.2.2.2 k a) j v else τ.2.2.2 k a
  unfold zw_u2
  by_cases hq : k = κ ∧ a = i
  · obtain ⟨rfl, rfl⟩ := hq
    rw [if_pos ⟨rfl, rfl⟩, if_pos ⟨rfl, rfl⟩, h.2.2.2.2.1 k a hk]
    rfl
  · rw [if_neg hq, if_neg]
    · exact h.2.2.2.2.1 k a hk
    · rintro ⟨rfl, q⟩
      exact hq ⟨rfl, h.2.1 _ _ _ hk ha q⟩
theorem zC_lt (h : zC ac τ w) (hB : ∀ a, (zw_ty w a).1 ≠ 0 → a < zw_n w) {r i : Nat} (ha : zb_a τ r i = true) : ac r i ≠ zw_n w := by
  have e := h.1 r i ha
  have := hB (ac r i) (by rw [e.1]; exact e.2)
  omega
theorem zC_new (h : zC ac τ w) (hB : ∀ a, (zw_ty w a).1 ≠ 0 → a < zw_n w) (r i n : Nat) (h0 : r ≠ 0) (hn : zb_a τ r i = false) : zC (zac ac r i (zw_n w)) (zb_new τ r i n) (zw_new w r n) := by
  have alv : ∀ a b, zb_a (zb_new τ r i n) a b = true → ¬ (a = r ∧ b = i) → zb_a τ a b = true := by
    intro a b hab hq
    have e : zb_a (zb_new τ r i n) a b = zb_a τ a b := congrArg Prod.fst (if_neg hq)
    rw [← e]
    exact hab
  have add : ∀ a b, ¬ (a = r ∧ b = i) → zac ac r i (zw_n w) a b = ac a b := fun a b hq => if_neg hq
  have ad0 : zac ac r i (zw_n w) r i = zw_n w := if_pos ⟨rfl, rfl⟩
  refine ⟨fun a b hab => ?_, fun a b c h1 h2 e => ?_, fun κ a hk => ?_, fun κ a b hk => ?_, fun κ a hk => ?_, fun κ a b q hk hq => ?_⟩
  · by_cases hq : a = r ∧ b = i
    · obtain ⟨rfl, rfl⟩ := hq
      rw [ad0]
      refine ⟨?_, h0⟩
      rw [zw_new_ty]
      exact congrArg (fun q => (a, q)) (congrArg Prod.snd (if_pos ⟨rfl, rfl⟩ : (if a = a ∧ b = b then (true, n) else τ.1 a b) = (true, n))).symm
    · have hab' := alv a b hab hq
      rw [add a b hq]
      have e := h.1 a b hab'
      refine ⟨?_, e.2⟩
      have e2 : zw_ty (zw_new w r n) (ac a b) = zw_ty w (ac a b) := va_up_ne _ _ (zC_lt h hB hab')
      rw [e2, e.1]
      exact congrArg (fun q => (a, q)) (congrArg Prod.snd (if_neg hq : (if a = r ∧ b = i then (true, n) else τ.1 a b) = τ.1 a b)).symm
  · by_cases hq1 : a = r ∧ b = i
    · by_cases hq2 : a = r ∧ c = i
      · rw [hq1.2, hq2.2]
      · rw [add a c hq2] at e
        obtain ⟨rfl, rfl⟩ := hq1
        rw [ad0] at e
        exact absurd e.symm (zC_lt h hB (alv a c h2 hq2))
    · by_cases hq2 : a = r ∧ c = i
      · rw [add a b hq1] at e
        obtain ⟨rfl, rfl⟩ := hq2
        rw [ad0] at e
        exact absurd e (zC_lt h hB (alv a b h1 hq1))
      · rw [add a b hq1, add a c hq2] at e
        exact h.2.1 a b c (alv a b h1 hq1) (alv a c h2 hq2) e
  · by_cases hq : zrw κ = r ∧ a = i
    · obtain ⟨rfl, rfl⟩ := hq
      rw [ad0]
      exact (if_pos rfl).trans (if_pos ⟨rfl, rfl⟩).symm
    · rw [add _ a hq]
      have hk' := alv _ a hk hq
      exact (if_neg (zC_lt h hB hk')).trans ((h.2.2.1 κ a hk').trans (if_neg hq).symm)
  · by_cases hq : zrw κ = r ∧ a = i
    · obtain ⟨rfl, rfl⟩ := hq
      rw [ad0]
      have e1 : zw_R (zw_new w (zrw κ) n) κ (zw_n w) = fun _ => none := if_pos rfl
      have e2 : zb_R (zb_new τ (zrw κ) a n) κ a = fun _ => none := if_pos ⟨rfl, rfl⟩
      rw [e1, e2]
      rfl
    · rw [add _ a hq]
      have hk' := alv _ a hk hq
      have e1 : zw_R (zw_new w r n) κ (ac (zrw κ) a) = zw_R w κ (ac (zrw κ) a) := if_neg (zC_lt h hB hk')
      have e2 : zb_R (zb_new τ r i n) κ a = zb_R τ κ a := if_neg hq
      rw [e1, e2, h.2.2.2.1 κ a b hk']
      cases hv : zb_R τ κ a b with
      | none => rfl
      | some q =>
        have hl := h.2.2.2.2.2 κ a b q hk' hv
        have hne : ¬ (ztg κ = r ∧ q = i) := by
          rintro ⟨e3, e4⟩
          rw [e3, e4, hn] at hl
          cases hl
        show some (ac (ztg κ) q) = some (zac ac r i (zw_n w) (ztg κ) q)
        rw [add _ q hne]
  · by_cases hq : zrw κ = r ∧ a = i
    · obtain ⟨rfl, rfl⟩ := hq
      rw [ad0]
      exact (if_pos rfl).trans (if_pos ⟨rfl, rfl⟩).symm
    · rw [add _ a hq]
      have hk' := alv _ a hk hq
      exact (if_neg (zC_lt h hB hk')).trans ((h.2.2.2.2.1 κ a hk').trans (if_neg hq).symm)
  · by_cases hc : zrw κ = r ∧ a = i
    · have e2 : zb_R (zb_new τ r i n) κ a = fun _ => none := if_pos hc
      rw [e2] at hq
      cases hq
    · have e2 : zb_R (zb_new τ r i n) κ a = zb_R τ κ a := if_neg hc
      rw [e2] at hq
      have hl := h.2.2.2.2.2 κ a b q (alv _ a hk hc) hq
      by_cases hz : ztg κ = r ∧ q = i
      · exact congrArg Prod.fst (if_pos hz : (if ztg κ = r ∧ q = i then (true, n) else τ.1 (ztg κ) q) = (true, n))
      · exact (congrArg Prod.fst (if_neg hz : (if ztg κ = r ∧ q = i then (true, n) else τ.1 (ztg κ) q) = τ.1 (ztg κ) q)).trans hl
end ZCLS
